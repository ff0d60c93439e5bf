section
-- 20.grid
noncomputable def D_X3_get (r : Nat → Int32) (q : Nat → Int32) (f : Nat → Nat → Int64) (i : Nat) (p0 : Int32) (p1 : Int32) : Int64 := (if p0 < 0 then 0 else (if 4 ≤ p0 then 0 else (if p1 < 0 then 0 else (if p1 < 5 then nm (((f i) ((p0 * 5) + p1).toNatClampNeg) : Int64) (fun (g5 : Int64) => g5) else 0))))
theorem D_X3_get_s {r : Nat → Int32} {q : Nat → Int32} {f : Nat → Nat → Int64} {i : Nat} {p0 : Int32} {p1 : Int32} : D_X3_get r q f i p0 p1 = (if p0 < 0 then 0 else (if 4 ≤ p0 then 0 else (if p1 < 0 then 0 else (if p1 < 5 then nm (((f i) ((p0 * 5) + p1).toNatClampNeg) : Int64) (fun (g5 : Int64) => g5) else 0)))) := rfl
set_option maxHeartbeats 4000000 in
set_option maxRecDepth 100000 in
theorem k_X3_get (κ : Kt) (l : Launch) (a : Nat → Nat) (r q : Nat → Int32) (f : Nat → Nat → Int64) (i : Nat) (p0 : Int32) (p1 : Int32) (hi : i < 15) (o_x : Int64) (hR : D_X3_get r q f i p0 p1 = o_x) : CM κ l yX3_get cX3_get 3 (some .long) 0 0 0 0 [.ref (a (6 + 2 * i)), .int p0, .int p1] (cw κ a r q f) (fun o w' => o = some (.long o_x) ∧ w' = cw κ a r q f) := by
  refine CM_begin (plainFor_of_name pn_RX3) (Nat.le_of_ble_eq_true rfl) ?_
  intro p e s m args below meth c A Q hX hnm hA3 hQ hB ls hl
  have hx := hX.1.1
  have hb := hX.1.2.1
  have hl : lv_has ls 3 [(0, .ref (a (6 + 2 * i))), (1, .int p0), (2, .int p1)] := hl
  replace hR := (D_X3_get_s).symm.trans hR
  refine lv_iload_n hx hb dX3_get_0 rfl (lv_at hl 1 rfl) ?_
  refine lv_if_lt (tgt := 18) hx hb dX3_get_1 (by decide) (fun c1 => ?_) (fun c1 => ?_)
  · replace hR := ifp c1 hR
    refine lv_lconst (v := 0) hx hb dX3_get_18 (by decide) ?_
    rw [← hQ]
    exact end_l hX hB hA3 rfl (by obtain rfl := hR; exact ⟨rfl, rfl⟩) (Nat.le_of_ble_eq_true rfl) (Nat.le_of_ble_eq_true rfl) dX3_get_19
  · replace hR := ifn c1 hR
    refine lv_iload_n hx hb dX3_get_4 rfl (lv_at hl 1 rfl) ?_
    refine lv_iconst (v := 4) hx hb dX3_get_5 (by decide) ?_
    refine lv_icmp_ge (tgt := 18) hx hb dX3_get_6 (by decide) (fun c2 => ?_) (fun c2 => ?_)
    · replace hR := ifp c2 hR
      refine lv_lconst (v := 0) hx hb dX3_get_18 (by decide) ?_
      rw [← hQ]
      exact end_l hX hB hA3 rfl (by obtain rfl := hR; exact ⟨rfl, rfl⟩) (Nat.le_of_ble_eq_true rfl) (Nat.le_of_ble_eq_true rfl) dX3_get_19
    · replace hR := ifn c2 hR
      refine lv_iload_n hx hb dX3_get_9 rfl (lv_at hl 2 rfl) ?_
      refine lv_if_lt (tgt := 18) hx hb dX3_get_10 (by decide) (fun c3 => ?_) (fun c3 => ?_)
      · replace hR := ifp c3 hR
        refine lv_lconst (v := 0) hx hb dX3_get_18 (by decide) ?_
        rw [← hQ]
        exact end_l hX hB hA3 rfl (by obtain rfl := hR; exact ⟨rfl, rfl⟩) (Nat.le_of_ble_eq_true rfl) (Nat.le_of_ble_eq_true rfl) dX3_get_19
      · replace hR := ifn c3 hR
        refine lv_iload_n hx hb dX3_get_13 rfl (lv_at hl 2 rfl) ?_
        refine lv_iconst (v := 5) hx hb dX3_get_14 (by decide) ?_
        refine lv_icmp_lt (tgt := 20) hx hb dX3_get_15 (by decide) (fun c4 => ?_) (fun c4 => ?_)
        · replace hR := ifp c4 hR
          refine lv_aload_n hx hb dX3_get_20 rfl (lv_at hl 0 rfl) ?_
          refine gf hX hB (cwG (i := i) hi) rfl in3 0 (by decide) wm_1_45 rfl rfl dX3_get_21 ?_
          refine lv_iload_n hx hb dX3_get_24 rfl (lv_at hl 1 rfl) ?_
          refine lv_iconst (v := 5) hx hb dX3_get_25 (by decide) ?_
          refine lv_imul hx hb dX3_get_26 ?_
          refine lv_iload_n hx hb dX3_get_27 rfl (lv_at hl 2 rfl) ?_
          refine lv_iadd hx hb dX3_get_28 ?_
          refine lald hX hB (cwC (i := i) hi) (ix20 (by first | assumption | exact i32_not_le.mpr (by assumption)) (by first | assumption | exact i32_not_le.mpr (by assumption)) (by first | assumption | exact i32_not_le.mpr (by assumption)) (by first | assumption | exact i32_not_le.mpr (by assumption))) dX3_get_29 ?_
          refine lv_topl (fun g5 eg5 => ?_)
          replace hR := nm_use eg5 hR
          rw [← hQ]
          exact end_l hX hB hA3 rfl (by obtain rfl := hR; exact ⟨rfl, rfl⟩) (Nat.le_of_ble_eq_true rfl) (Nat.le_of_ble_eq_true rfl) dX3_get_30
        · replace hR := ifn c4 hR
          refine lv_lconst (v := 0) hx hb dX3_get_18 (by decide) ?_
          rw [← hQ]
          exact end_l hX hB hA3 rfl (by obtain rfl := hR; exact ⟨rfl, rfl⟩) (Nat.le_of_ble_eq_true rfl) (Nat.le_of_ble_eq_true rfl) dX3_get_19
noncomputable def D_X3_set (r : Nat → Int32) (q : Nat → Int32) (f : Nat → Nat → Int64) (i : Nat) (p0 : Int32) (p1 : Int32) (x : Int64) : (Nat → Nat → Int64) := (if p0 < 0 then f else (if 4 ≤ p0 then f else (if p1 < 0 then f else (if 5 ≤ p1 then f else va_up f i (vp_updL (f i) ((p0 * 5) + p1).toNatClampNeg x)))))
theorem D_X3_set_s {r : Nat → Int32} {q : Nat → Int32} {f : Nat → Nat → Int64} {i : Nat} {p0 : Int32} {p1 : Int32} {x : Int64} : D_X3_set r q f i p0 p1 x = (if p0 < 0 then f else (if 4 ≤ p0 then f else (if p1 < 0 then f else (if 5 ≤ p1 then f else va_up f i (vp_updL (f i) ((p0 * 5) + p1).toNatClampNeg x))))) := rfl
set_option maxHeartbeats 4000000 in
set_option maxRecDepth 100000 in
theorem k_X3_set (κ : Kt) (l : Launch) (a : Nat → Nat) (r q : Nat → Int32) (f : Nat → Nat → Int64) (i : Nat) (p0 : Int32) (p1 : Int32) (x : Int64) (hi : i < 15) (o_f : Nat → Nat → Int64) (hR : D_X3_set r q f i p0 p1 x = o_f) : CM κ l yX3_set cX3_set 5 (none) 0 0 0 0 [.ref (a (6 + 2 * i)), .int p0, .int p1, .long x] (cw κ a r q f) (fun o w' => o = none ∧ w' = cw κ a r q o_f) := by
  refine CM_begin (plainFor_of_name pn_RX3) (Nat.le_of_ble_eq_true rfl) ?_
  intro p e s m args below meth c A Q hX hnm hA3 hQ hB ls hl
  have hx := hX.1.1
  have hb := hX.1.2.1
  have hl : lv_has ls 5 [(0, .ref (a (6 + 2 * i))), (1, .int p0), (2, .int p1), (3, .long x)] := hl
  replace hR := (D_X3_set_s).symm.trans hR
  refine lv_iload_n hx hb dX3_set_0 rfl (lv_at hl 1 rfl) ?_
  refine lv_if_lt (tgt := 29) hx hb dX3_set_1 (by decide) (fun c1 => ?_) (fun c1 => ?_)
  · replace hR := ifp c1 hR
    rw [← hQ]
    exact end_v hX hB hA3 rfl (by obtain rfl := hR; exact ⟨rfl, rfl⟩) (Nat.le_of_ble_eq_true rfl) (Nat.le_of_ble_eq_true rfl) dX3_set_29
  · replace hR := ifn c1 hR
    refine lv_iload_n hx hb dX3_set_4 rfl (lv_at hl 1 rfl) ?_
    refine lv_iconst (v := 4) hx hb dX3_set_5 (by decide) ?_
    refine lv_icmp_ge (tgt := 29) hx hb dX3_set_6 (by decide) (fun c2 => ?_) (fun c2 => ?_)
    · replace hR := ifp c2 hR
      rw [← hQ]
      exact end_v hX hB hA3 rfl (by obtain rfl := hR; exact ⟨rfl, rfl⟩) (Nat.le_of_ble_eq_true rfl) (Nat.le_of_ble_eq_true rfl) dX3_set_29
    · replace hR := ifn c2 hR
      refine lv_iload_n hx hb dX3_set_9 rfl (lv_at hl 2 rfl) ?_
      refine lv_if_lt (tgt := 29) hx hb dX3_set_10 (by decide) (fun c3 => ?_) (fun c3 => ?_)
      · replace hR := ifp c3 hR
        rw [← hQ]
        exact end_v hX hB hA3 rfl (by obtain rfl := hR; exact ⟨rfl, rfl⟩) (Nat.le_of_ble_eq_true rfl) (Nat.le_of_ble_eq_true rfl) dX3_set_29
      · replace hR := ifn c3 hR
        refine lv_iload_n hx hb dX3_set_13 rfl (lv_at hl 2 rfl) ?_
        refine lv_iconst (v := 5) hx hb dX3_set_14 (by decide) ?_
        refine lv_icmp_ge (tgt := 29) hx hb dX3_set_15 (by decide) (fun c4 => ?_) (fun c4 => ?_)
        · replace hR := ifp c4 hR
          rw [← hQ]
          exact end_v hX hB hA3 rfl (by obtain rfl := hR; exact ⟨rfl, rfl⟩) (Nat.le_of_ble_eq_true rfl) (Nat.le_of_ble_eq_true rfl) dX3_set_29
        · replace hR := ifn c4 hR
          refine lv_aload_n hx hb dX3_set_18 rfl (lv_at hl 0 rfl) ?_
          refine gf hX hB (cwG (i := i) hi) rfl in3 0 (by decide) wm_1_45 rfl rfl dX3_set_19 ?_
          refine lv_iload_n hx hb dX3_set_22 rfl (lv_at hl 1 rfl) ?_
          refine lv_iconst (v := 5) hx hb dX3_set_23 (by decide) ?_
          refine lv_imul hx hb dX3_set_24 ?_
          refine lv_iload_n hx hb dX3_set_25 rfl (lv_at hl 2 rfl) ?_
          refine lv_iadd hx hb dX3_set_26 ?_
          refine lv_lload_n hx hb dX3_set_27 rfl (lv_at hl 3 rfl) ?_
          refine last hX hB (cwC (i := i) hi) (ix20 (by first | assumption | exact i32_not_le.mpr (by assumption)) (by first | assumption | exact i32_not_le.mpr (by assumption)) (by first | assumption | exact i32_not_le.mpr (by assumption)) (by first | assumption | exact i32_not_le.mpr (by assumption))) (cwSL (i := i) hi _) dX3_set_28 (fun H locs hB => ?_)
          rw [← hQ]
          exact end_v hX hB hA3 rfl (by obtain rfl := hR; exact ⟨rfl, rfl⟩) (Nat.le_of_ble_eq_true rfl) (Nat.le_of_ble_eq_true rfl) dX3_set_29
noncomputable def D_X3_countLines (r : Nat → Int32) (q : Nat → Int32) (f : Nat → Nat → Int64) (i : Nat) (p0 : Int32) : Int32 := (if p0 = 0 then r (2 * i) else r (2 * i + 1))
theorem D_X3_countLines_s {r : Nat → Int32} {q : Nat → Int32} {f : Nat → Nat → Int64} {i : Nat} {p0 : Int32} : D_X3_countLines r q f i p0 = (if p0 = 0 then r (2 * i) else r (2 * i + 1)) := rfl
set_option maxHeartbeats 4000000 in
set_option maxRecDepth 100000 in
theorem k_X3_countLines (κ : Kt) (l : Launch) (a : Nat → Nat) (r q : Nat → Int32) (f : Nat → Nat → Int64) (i : Nat) (p0 : Int32) (hi : i < 15) (o_x : Int32) (hR : D_X3_countLines r q f i p0 = o_x) : CM κ l yX3_countLines cX3_countLines 2 (some .int) 0 0 0 0 [.ref (a (6 + 2 * i)), .int p0] (cw κ a r q f) (fun o w' => o = some (.int o_x) ∧ w' = cw κ a r q f) := by
  refine CM_begin (plainFor_of_name pn_RX3) (Nat.le_of_ble_eq_true rfl) ?_
  intro p e s m args below meth c A Q hX hnm hA3 hQ hB ls hl
  have hx := hX.1.1
  have hb := hX.1.2.1
  have hl : lv_has ls 2 [(0, .ref (a (6 + 2 * i))), (1, .int p0)] := hl
  replace hR := (D_X3_countLines_s).symm.trans hR
  refine lv_iload_n hx hb dX3_countLines_0 rfl (lv_at hl 1 rfl) ?_
  refine lv_if_eq (tgt := 11) hx hb dX3_countLines_1 (by decide) (fun c1 => ?_) (fun c1 => ?_)
  · replace hR := ifp c1 hR
    refine lv_aload_n hx hb dX3_countLines_11 rfl (lv_at hl 0 rfl) ?_
    refine gf hX hB (cwG (i := i) hi) rfl in3 1 (by decide) wm_1_46 rfl rfl dX3_countLines_12 ?_
    rw [← hQ]
    exact end_i hX hB hA3 rfl rfl (by obtain rfl := hR; exact ⟨rfl, rfl⟩) (Nat.le_of_ble_eq_true rfl) (Nat.le_of_ble_eq_true rfl) dX3_countLines_15
  · replace hR := ifn c1 hR
    refine lv_aload_n hx hb dX3_countLines_4 rfl (lv_at hl 0 rfl) ?_
    refine gf hX hB (cwG (i := i) hi) rfl in3 2 (by decide) wm_1_52 rfl rfl dX3_countLines_5 ?_
    refine lv_goto (tgt := 15) hx hb dX3_countLines_8 (by decide) ?_
    rw [← hQ]
    exact end_i hX hB hA3 rfl rfl (by obtain rfl := hR; exact ⟨rfl, rfl⟩) (Nat.le_of_ble_eq_true rfl) (Nat.le_of_ble_eq_true rfl) dX3_countLines_15
noncomputable def D_X3_hasLine (r : Nat → Int32) (q : Nat → Int32) (f : Nat → Nat → Int64) (i : Nat) (p0 : Int32) (p1 : Int32) : Int32 := (if p1 < 0 then 0 else (if p0 = 0 then (if (r (2 * i)) ≤ p1 then 0 else 1) else (if (r (2 * i + 1)) ≤ p1 then 0 else 1)))
theorem D_X3_hasLine_s {r : Nat → Int32} {q : Nat → Int32} {f : Nat → Nat → Int64} {i : Nat} {p0 : Int32} {p1 : Int32} : D_X3_hasLine r q f i p0 p1 = (if p1 < 0 then 0 else (if p0 = 0 then (if (r (2 * i)) ≤ p1 then 0 else 1) else (if (r (2 * i + 1)) ≤ p1 then 0 else 1))) := rfl
set_option maxHeartbeats 4000000 in
set_option maxRecDepth 100000 in
theorem k_X3_hasLine (κ : Kt) (l : Launch) (a : Nat → Nat) (r q : Nat → Int32) (f : Nat → Nat → Int64) (i : Nat) (p0 : Int32) (p1 : Int32) (hi : i < 15) (o_x : Int32) (hR : D_X3_hasLine r q f i p0 p1 = o_x) : CM κ l yX3_hasLine cX3_hasLine 3 (some .boolean) 0 0 0 0 [.ref (a (6 + 2 * i)), .int p0, .int p1] (cw κ a r q f) (fun o w' => o = some (.int o_x) ∧ (o_x = 0 ∨ o_x = 1) ∧ w' = cw κ a r q f) := by
  refine CM_begin (plainFor_of_name pn_RX3) (Nat.le_of_ble_eq_true rfl) ?_
  intro p e s m args below meth c A Q hX hnm hA3 hQ hB ls hl
  have hx := hX.1.1
  have hb := hX.1.2.1
  have hl : lv_has ls 3 [(0, .ref (a (6 + 2 * i))), (1, .int p0), (2, .int p1)] := hl
  replace hR := (D_X3_hasLine_s).symm.trans hR
  refine lv_iload_n hx hb dX3_hasLine_0 rfl (lv_at hl 2 rfl) ?_
  refine lv_if_lt (tgt := 27) hx hb dX3_hasLine_1 (by decide) (fun c1 => ?_) (fun c1 => ?_)
  · replace hR := ifp c1 hR
    refine lv_iconst (v := 0) hx hb dX3_hasLine_27 (by decide) ?_
    rw [← hQ]
    exact end_i hX hB hA3 rfl rfl (by obtain rfl := hR; exact ⟨rfl, Or.inl rfl, rfl⟩) (Nat.le_of_ble_eq_true rfl) (Nat.le_of_ble_eq_true rfl) dX3_hasLine_28
  · replace hR := ifn c1 hR
    refine lv_iload_n hx hb dX3_hasLine_4 rfl (lv_at hl 2 rfl) ?_
    refine lv_iload_n hx hb dX3_hasLine_5 rfl (lv_at hl 1 rfl) ?_
    refine lv_if_eq (tgt := 16) hx hb dX3_hasLine_6 (by decide) (fun c2 => ?_) (fun c2 => ?_)
    · replace hR := ifp c2 hR
      refine lv_aload_n hx hb dX3_hasLine_16 rfl (lv_at hl 0 rfl) ?_
      refine gf hX hB (cwG (i := i) hi) rfl in3 1 (by decide) wm_1_46 rfl rfl dX3_hasLine_17 ?_
      refine lv_icmp_ge (tgt := 27) hx hb dX3_hasLine_20 (by decide) (fun c3 => ?_) (fun c3 => ?_)
      · replace hR := ifp c3 hR
        refine lv_iconst (v := 0) hx hb dX3_hasLine_27 (by decide) ?_
        rw [← hQ]
        exact end_i hX hB hA3 rfl rfl (by obtain rfl := hR; exact ⟨rfl, Or.inl rfl, rfl⟩) (Nat.le_of_ble_eq_true rfl) (Nat.le_of_ble_eq_true rfl) dX3_hasLine_28
      · replace hR := ifn c3 hR
        refine lv_iconst (v := 1) hx hb dX3_hasLine_23 (by decide) ?_
        refine lv_goto (tgt := 28) hx hb dX3_hasLine_24 (by decide) ?_
        rw [← hQ]
        exact end_i hX hB hA3 rfl rfl (by obtain rfl := hR; exact ⟨rfl, Or.inr rfl, rfl⟩) (Nat.le_of_ble_eq_true rfl) (Nat.le_of_ble_eq_true rfl) dX3_hasLine_28
    · replace hR := ifn c2 hR
      refine lv_aload_n hx hb dX3_hasLine_9 rfl (lv_at hl 0 rfl) ?_
      refine gf hX hB (cwG (i := i) hi) rfl in3 2 (by decide) wm_1_52 rfl rfl dX3_hasLine_10 ?_
      refine lv_goto (tgt := 20) hx hb dX3_hasLine_13 (by decide) ?_
      refine lv_icmp_ge (tgt := 27) hx hb dX3_hasLine_20 (by decide) (fun c4 => ?_) (fun c4 => ?_)
      · replace hR := ifp c4 hR
        refine lv_iconst (v := 0) hx hb dX3_hasLine_27 (by decide) ?_
        rw [← hQ]
        exact end_i hX hB hA3 rfl rfl (by obtain rfl := hR; exact ⟨rfl, Or.inl rfl, rfl⟩) (Nat.le_of_ble_eq_true rfl) (Nat.le_of_ble_eq_true rfl) dX3_hasLine_28
      · replace hR := ifn c4 hR
        refine lv_iconst (v := 1) hx hb dX3_hasLine_23 (by decide) ?_
        refine lv_goto (tgt := 28) hx hb dX3_hasLine_24 (by decide) ?_
        rw [← hQ]
        exact end_i hX hB hA3 rfl rfl (by obtain rfl := hR; exact ⟨rfl, Or.inr rfl, rfl⟩) (Nat.le_of_ble_eq_true rfl) (Nat.le_of_ble_eq_true rfl) dX3_hasLine_28
noncomputable def D_X3_countFilled_14 (r : Nat → Int32) (q : Nat → Int32) (f : Nat → Nat → Int64) (i : Nat) (lb4 : Int32 → Int32 → Int32) (y2_4 : Int32) (nn : Nat) : Int32 → Int32 → Int32 := @Nat.rec (fun _ => Int32 → Int32 → Int32) (fun _ _ => default) (fun _ lb14 (y3_14 : Int32) (y1_14 : Int32) => (if (r (2 * i + 1)) ≤ y3_14 then (lb4 (y2_4 + 1) y1_14) else bnd1 (D_X3_get r q f i y2_4 y3_14) (fun (x38 : Int64) => (if (lg_cmp x38 0) = 0 then (lb14 (y3_14 + 1) y1_14) else (lb14 (y3_14 + 1) (y1_14 + 1)))))) nn
theorem D_X3_countFilled_14_s {r : Nat → Int32} {q : Nat → Int32} {f : Nat → Nat → Int64} {i : Nat} {lb4 : Int32 → Int32 → Int32} {y2_4 : Int32} {nn : Nat} {y3_14 : Int32} {y1_14 : Int32} : D_X3_countFilled_14 r q f i lb4 y2_4 (nn + 1) y3_14 y1_14 = (if (r (2 * i + 1)) ≤ y3_14 then (lb4 (y2_4 + 1) y1_14) else bnd1 (D_X3_get r q f i y2_4 y3_14) (fun (x38 : Int64) => (if (lg_cmp x38 0) = 0 then ((D_X3_countFilled_14 r q f i lb4 y2_4 nn) (y3_14 + 1) y1_14) else ((D_X3_countFilled_14 r q f i lb4 y2_4 nn) (y3_14 + 1) (y1_14 + 1))))) := rfl
noncomputable def D_X3_countFilled_4 (r : Nat → Int32) (q : Nat → Int32) (f : Nat → Nat → Int64) (i : Nat) (nn : Nat) : Int32 → Int32 → Int32 := @Nat.rec (fun _ => Int32 → Int32 → Int32) (fun _ _ => default) (fun _ lb4 (y2_4 : Int32) (y1_4 : Int32) => (if (r (2 * i)) ≤ y2_4 then y1_4 else (D_X3_countFilled_14 r q f i lb4 y2_4 (gap (r (2 * i + 1)) 0 + 1) 0 y1_4))) nn
theorem D_X3_countFilled_4_s {r : Nat → Int32} {q : Nat → Int32} {f : Nat → Nat → Int64} {i : Nat} {nn : Nat} {y2_4 : Int32} {y1_4 : Int32} : D_X3_countFilled_4 r q f i (nn + 1) y2_4 y1_4 = (if (r (2 * i)) ≤ y2_4 then y1_4 else (D_X3_countFilled_14 r q f i (D_X3_countFilled_4 r q f i nn) y2_4 (gap (r (2 * i + 1)) 0 + 1) 0 y1_4)) := rfl
noncomputable def D_X3_countFilled (r : Nat → Int32) (q : Nat → Int32) (f : Nat → Nat → Int64) (i : Nat) : Int32 := (D_X3_countFilled_4 r q f i (gap (r (2 * i)) 0 + 1) 0 0)
theorem D_X3_countFilled_s {r : Nat → Int32} {q : Nat → Int32} {f : Nat → Nat → Int64} {i : Nat} : D_X3_countFilled r q f i = (D_X3_countFilled_4 r q f i (gap (r (2 * i)) 0 + 1) 0 0) := rfl
set_option maxHeartbeats 4000000 in
set_option maxRecDepth 100000 in
theorem k_X3_countFilled (κ : Kt) (l : Launch) (a : Nat → Nat) (r q : Nat → Int32) (f : Nat → Nat → Int64) (i : Nat) (hi : i < 15) (o_x : Int32) (hR : D_X3_countFilled r q f i = o_x) : CM κ l yX3_countFilled cX3_countFilled 4 (some .int) 1 22 0 0 [.ref (a (6 + 2 * i))] (cw κ a r q f) (fun o w' => o = some (.int o_x) ∧ w' = cw κ a r q f) := by
  refine CM_begin (plainFor_of_name pn_RX3) (Nat.le_of_ble_eq_true rfl) ?_
  intro p e s m args below meth c A Q hX hnm hA3 hQ hB ls hl
  have hx := hX.1.1
  have hb := hX.1.2.1
  have hl : lv_has ls 4 [(0, .ref (a (6 + 2 * i)))] := hl
  replace hR := (D_X3_countFilled_s).symm.trans hR
  refine lv_iconst (v := 0) hx hb dX3_countFilled_0 (by decide) ?_
  refine lv_istore_n (lv' := [(1, .int 0), (0, .ref (a (6 + 2 * i)))]) hx hb dX3_countFilled_1 rfl hl (by decide) rfl (fun ls hl => ?_)
  refine lv_iconst (v := 0) hx hb dX3_countFilled_2 (by decide) ?_
  refine lv_istore_n (lv' := [(2, .int 0), (1, .int 0), (0, .ref (a (6 + 2 * i)))]) hx hb dX3_countFilled_3 rfl hl (by decide) rfl (fun ls hl => ?_)
  have lp4 : ∀ (nn4 : Nat) (y2_4 : Int32) (y1_4 : Int32) (H : Heap) (locs : List Loc), gap (r (2 * i)) y2_4 < nn4 → D_X3_countFilled_4 r q f i nn4 y2_4 y1_4 = o_x → Bd κ A s (cw κ a r q f) H locs → ∀ ls : Array Slot, lv_has ls 4 [(2, .int y2_4), (1, .int y1_4), (0, .ref (a (6 + 2 * i)))] → W p l e (Rm 1 22 0 0) s m args below meth c H locs 0 0 Q (F0 m 4 ls []) := by
    intro nn4
    induction nn4 with
    | zero => intro y2_4 y1_4 H locs hμ; exact absurd hμ (Nat.not_lt_zero _)
    | succ nn4 ih4 =>
      intro y2_4 y1_4 H locs hμ4 hR hB ls hl
      replace hR := (D_X3_countFilled_4_s).symm.trans hR
      refine lv_iload_n hx hb dX3_countFilled_4 rfl (lv_at hl 0 rfl) ?_
      refine lv_aload_n hx hb dX3_countFilled_5 rfl (lv_at hl 2 rfl) ?_
      refine gf hX hB (cwG (i := i) hi) rfl in3 1 (by decide) wm_1_46 rfl rfl dX3_countFilled_6 ?_
      refine lv_icmp_ge (tgt := 48) hx hb dX3_countFilled_9 (by decide) (fun c27 => ?_) (fun c27 => ?_)
      · replace hR := ifp c27 hR
        refine lv_iload_n hx hb dX3_countFilled_48 rfl (lv_at hl 1 rfl) ?_
        rw [← hQ]
        exact end_i hX hB hA3 rfl rfl (by obtain rfl := hR; exact ⟨rfl, rfl⟩) (Nat.le_of_ble_eq_true rfl) (Nat.le_of_ble_eq_true rfl) dX3_countFilled_49
      · replace hR := ifn c27 hR
        refine lv_iconst (v := 0) hx hb dX3_countFilled_12 (by decide) ?_
        refine lv_istore_n (lv' := [(3, .int 0), (2, .int y2_4), (1, .int y1_4), (0, .ref (a (6 + 2 * i)))]) hx hb dX3_countFilled_13 rfl hl (by decide) rfl (fun ls hl => ?_)
        have lp14 : ∀ (nn14 : Nat) (y3_14 : Int32) (y1_14 : Int32) (H : Heap) (locs : List Loc), gap (r (2 * i + 1)) y3_14 < nn14 → D_X3_countFilled_14 r q f i (D_X3_countFilled_4 r q f i nn4) y2_4 nn14 y3_14 y1_14 = o_x → Bd κ A s (cw κ a r q f) H locs → ∀ ls : Array Slot, lv_has ls 4 [(3, .int y3_14), (2, .int y2_4), (1, .int y1_14), (0, .ref (a (6 + 2 * i)))] → W p l e (Rm 1 22 0 0) s m args below meth c H locs 0 0 Q (F0 m 14 ls []) := by
          intro nn14
          induction nn14 with
          | zero => intro y3_14 y1_14 H locs hμ; exact absurd hμ (Nat.not_lt_zero _)
          | succ nn14 ih14 =>
            intro y3_14 y1_14 H locs hμ14 hR hB ls hl
            replace hR := (D_X3_countFilled_14_s).symm.trans hR
            refine lv_iload_n hx hb dX3_countFilled_14 rfl (lv_at hl 0 rfl) ?_
            refine lv_aload_n hx hb dX3_countFilled_15 rfl (lv_at hl 3 rfl) ?_
            refine gf hX hB (cwG (i := i) hi) rfl in3 2 (by decide) wm_1_52 rfl rfl dX3_countFilled_16 ?_
            refine lv_icmp_ge (tgt := 42) hx hb dX3_countFilled_19 (by decide) (fun c36 => ?_) (fun c36 => ?_)
            · replace hR := ifp c36 hR
              refine lv_iinc (v := y2_4 + 1) (lv' := [(2, .int (y2_4 + 1)), (3, .int y3_14), (1, .int y1_14), (0, .ref (a (6 + 2 * i)))]) hx hb dX3_countFilled_42 hl (k := 1) rfl rfl (by decide) rfl (fun ls hl => ?_)
              refine lv_goto (tgt := 4) hx hb dX3_countFilled_45 (by decide) ?_
              exact ih4 (y2_4 + 1) y1_14 _ _  (gap_step c27 hμ4) hR hB _ (lv_sub hl [0, 2, 3] rfl)
            · replace hR := ifn c36 hR
              refine lv_aload_n hx hb dX3_countFilled_22 rfl (lv_at hl 3 rfl) ?_
              refine lv_iload_n hx hb dX3_countFilled_23 rfl (lv_at hl 1 rfl) ?_
              refine lv_iload_n hx hb dX3_countFilled_24 rfl (lv_at hl 0 rfl) ?_
              obtain ⟨x38, hd37⟩ := ex1 (D_X3_get r q f i y2_4 y3_14)
              replace hR := bnd1_use hd37 hR
              refine call_V (n := 2) (As := [.int y2_4, .int y3_14]) (rest := []) hX hB (k_X3_get κ l a r q f i y2_4 y3_14 hi x38 hd37) ⟨rfl, yk_X3_get⟩ wm_2_7 wm_1_187 wm_1_188 wm_1_2 wm_1_189 ⟨Nat.le_of_ble_eq_true rfl, Nat.le_of_ble_eq_true rfl⟩ ⟨Nat.le_of_ble_eq_true rfl, Nat.le_of_ble_eq_true rfl⟩ (cwG (i := i) hi) rfl rfl rfl hl.1 rfl (Nat.le_of_ble_eq_true rfl) dX3_countFilled_25 (fun o w' H locs hp hB => ?_)
              obtain ⟨rfl, rfl⟩ := hp
              refine W.eq (g2 := F0 m 28 ls [.long x38]) rfl ?_
              refine lv_lconst (v := 0) hx hb dX3_countFilled_28 (by decide) ?_
              refine W.lcmp hx hb dX3_countFilled_29 ?_
              refine lv_if_eq (tgt := 36) hx hb dX3_countFilled_30 (by decide) (fun c39 => ?_) (fun c39 => ?_)
              · replace hR := ifp c39 hR
                refine lv_iinc (v := y3_14 + 1) (lv' := [(3, .int (y3_14 + 1)), (2, .int y2_4), (1, .int y1_14), (0, .ref (a (6 + 2 * i)))]) hx hb dX3_countFilled_36 hl (k := 0) rfl rfl (by decide) rfl (fun ls hl => ?_)
                refine lv_goto (tgt := 14) hx hb dX3_countFilled_39 (by decide) ?_
                exact ih14 (y3_14 + 1) y1_14 _ _  (gap_step c36 hμ14) hR hB _ hl
              · replace hR := ifn c39 hR
                refine lv_iinc (v := y1_14 + 1) (lv' := [(1, .int (y1_14 + 1)), (3, .int y3_14), (2, .int y2_4), (0, .ref (a (6 + 2 * i)))]) hx hb dX3_countFilled_33 hl (k := 2) rfl rfl (by decide) rfl (fun ls hl => ?_)
                refine lv_iinc (v := y3_14 + 1) (lv' := [(3, .int (y3_14 + 1)), (1, .int (y1_14 + 1)), (2, .int y2_4), (0, .ref (a (6 + 2 * i)))]) hx hb dX3_countFilled_36 hl (k := 1) rfl rfl (by decide) rfl (fun ls hl => ?_)
                refine lv_goto (tgt := 14) hx hb dX3_countFilled_39 (by decide) ?_
                exact ih14 (y3_14 + 1) (y1_14 + 1) _ _  (gap_step c36 hμ14) hR hB _ (lv_sub hl [0, 2, 1, 3] rfl)
        exact lp14 _ 0 y1_4 _ _  (Nat.lt_succ_self _) hR hB _ hl
  exact lp4 _ 0 0 _ _  (Nat.lt_succ_self _) hR hB _ hl
noncomputable def D_X3_reshape_28 (r : Nat → Int32) (q : Nat → Int32) (i : Nat) (t2 : Int32) (t4 : Int32) (nn : Nat) : Int32 → (Nat → Nat → Int64) → (Nat → Int32) × (Nat → Int32) × (Nat → Nat → Int64) := @Nat.rec (fun _ => Int32 → (Nat → Nat → Int64) → (Nat → Int32) × (Nat → Int32) × (Nat → Nat → Int64)) (fun _ _ => default) (fun _ lb28 (y3_28 : Int32) (f_28 : Nat → Nat → Int64) => (if 20 ≤ y3_28 then (va_up (va_up r (2 * i) t2) (2 * i + 1) t4, q, f_28) else (lb28 (y3_28 + 1) (va_up f_28 i (vp_updL (f_28 i) (y3_28).toNatClampNeg 0))))) nn
theorem D_X3_reshape_28_s {r : Nat → Int32} {q : Nat → Int32} {i : Nat} {t2 : Int32} {t4 : Int32} {nn : Nat} {y3_28 : Int32} {f_28 : Nat → Nat → Int64} : D_X3_reshape_28 r q i t2 t4 (nn + 1) y3_28 f_28 = (if 20 ≤ y3_28 then (va_up (va_up r (2 * i) t2) (2 * i + 1) t4, q, f_28) else ((D_X3_reshape_28 r q i t2 t4 nn) (y3_28 + 1) (va_up f_28 i (vp_updL (f_28 i) (y3_28).toNatClampNeg 0)))) := rfl
noncomputable def D_X3_reshape (r : Nat → Int32) (q : Nat → Int32) (f : Nat → Nat → Int64) (i : Nat) (p0 : Int32) (p1 : Int32) : (Nat → Int32) × (Nat → Int32) × (Nat → Nat → Int64) := nm ((if 4 < p0 then 4 else p0) : Int32) (fun (t1 : Int32) => nm ((if 1 < t1 then t1 else 1) : Int32) (fun (t2 : Int32) => nm ((if 5 < p1 then 5 else p1) : Int32) (fun (t3 : Int32) => nm ((if 1 < t3 then t3 else 1) : Int32) (fun (t4 : Int32) => (D_X3_reshape_28 r q i t2 t4 (gap 20 0 + 1) 0 f)))))
theorem D_X3_reshape_s {r : Nat → Int32} {q : Nat → Int32} {f : Nat → Nat → Int64} {i : Nat} {p0 : Int32} {p1 : Int32} : D_X3_reshape r q f i p0 p1 = nm ((if 4 < p0 then 4 else p0) : Int32) (fun (t1 : Int32) => nm ((if 1 < t1 then t1 else 1) : Int32) (fun (t2 : Int32) => nm ((if 5 < p1 then 5 else p1) : Int32) (fun (t3 : Int32) => nm ((if 1 < t3 then t3 else 1) : Int32) (fun (t4 : Int32) => (D_X3_reshape_28 r q i t2 t4 (gap 20 0 + 1) 0 f))))) := rfl
set_option maxHeartbeats 4000000 in
set_option maxRecDepth 100000 in
theorem k_X3_reshape (κ : Kt) (l : Launch) (a : Nat → Nat) (r q : Nat → Int32) (f : Nat → Nat → Int64) (i : Nat) (p0 : Int32) (p1 : Int32) (hi : i < 15) (o_r : Nat → Int32) (o_q : Nat → Int32) (o_f : Nat → Nat → Int64) (hR : D_X3_reshape r q f i p0 p1 = (o_r, o_q, o_f)) : CM κ l yX3_reshape cX3_reshape 4 (none) 1 21 0 0 [.ref (a (6 + 2 * i)), .int p0, .int p1] (cw κ a r q f) (fun o w' => o = none ∧ (okr r → okr o_r) ∧ o_q 4 = q 4 ∧ w' = cw κ a o_r o_q o_f) := by
  refine CM_begin (plainFor_of_name pn_RX3) (Nat.le_of_ble_eq_true rfl) ?_
  intro p e s m args below meth c A Q hX hnm hA3 hQ hB ls hl
  have hx := hX.1.1
  have hb := hX.1.2.1
  have hl : lv_has ls 4 [(0, .ref (a (6 + 2 * i))), (1, .int p0), (2, .int p1)] := hl
  replace hR := (D_X3_reshape_s).symm.trans hR
  refine lv_aload_n hx hb dX3_reshape_0 rfl (lv_at hl 0 rfl) ?_
  refine lv_iconst (v := 1) hx hb dX3_reshape_1 (by decide) ?_
  refine lv_iload_n hx hb dX3_reshape_2 rfl (lv_at hl 1 rfl) ?_
  refine lv_iconst (v := 4) hx hb dX3_reshape_3 (by decide) ?_
  refine va_mmin hx hb (by rw [hX.1.2.2.1]; exact hl.1.symm) hX.1.2.2.2.1 (hX.1.2.2.2.2 _ wm_1_216) (hX.1.2.2.2.2 _ wm_1_217) (hX.1.2.2.2.2 _ wm_1_14) (hX.1.2.2.2.2 _ wm_1_218) (Nat.le_of_ble_eq_true rfl) (Nat.le_of_ble_eq_true rfl) (Nat.le_of_ble_eq_true rfl) (Nat.le_of_ble_eq_true rfl) dX3_reshape_4 ?_
  refine lv_topi (fun t1 et1 => ?_)
  replace hR := nm_use et1 hR
  refine va_mmax hx hb (by rw [hX.1.2.2.1]; exact hl.1.symm) hX.1.2.2.2.1 (hX.1.2.2.2.2 _ wm_1_219) (hX.1.2.2.2.2 _ wm_1_220) (hX.1.2.2.2.2 _ wm_1_14) (hX.1.2.2.2.2 _ wm_1_221) (Nat.le_of_ble_eq_true rfl) (Nat.le_of_ble_eq_true rfl) (Nat.le_of_ble_eq_true rfl) (Nat.le_of_ble_eq_true rfl) dX3_reshape_7 ?_
  refine lv_topi (fun t2 et2 => ?_)
  replace hR := nm_use et2 hR
  refine pf (ty := .int) hX hB (cwG (i := i) hi) rfl in3 tyX3_ok nmX3 1 (by decide) wm_1_46 rfl rfl rfl rfl rfl (Nat.le_of_ble_eq_true rfl) (cwSR (i := i) hi _) dX3_reshape_10 (fun H locs hB => ?_)
  refine lv_aload_n hx hb dX3_reshape_13 rfl (lv_at hl 0 rfl) ?_
  refine lv_iconst (v := 1) hx hb dX3_reshape_14 (by decide) ?_
  refine lv_iload_n hx hb dX3_reshape_15 rfl (lv_at hl 2 rfl) ?_
  refine lv_iconst (v := 5) hx hb dX3_reshape_16 (by decide) ?_
  refine va_mmin hx hb (by rw [hX.1.2.2.1]; exact hl.1.symm) hX.1.2.2.2.1 (hX.1.2.2.2.2 _ wm_1_216) (hX.1.2.2.2.2 _ wm_1_217) (hX.1.2.2.2.2 _ wm_1_14) (hX.1.2.2.2.2 _ wm_1_218) (Nat.le_of_ble_eq_true rfl) (Nat.le_of_ble_eq_true rfl) (Nat.le_of_ble_eq_true rfl) (Nat.le_of_ble_eq_true rfl) dX3_reshape_17 ?_
  refine lv_topi (fun t3 et3 => ?_)
  replace hR := nm_use et3 hR
  refine va_mmax hx hb (by rw [hX.1.2.2.1]; exact hl.1.symm) hX.1.2.2.2.1 (hX.1.2.2.2.2 _ wm_1_219) (hX.1.2.2.2.2 _ wm_1_220) (hX.1.2.2.2.2 _ wm_1_14) (hX.1.2.2.2.2 _ wm_1_221) (Nat.le_of_ble_eq_true rfl) (Nat.le_of_ble_eq_true rfl) (Nat.le_of_ble_eq_true rfl) (Nat.le_of_ble_eq_true rfl) dX3_reshape_20 ?_
  refine lv_topi (fun t4 et4 => ?_)
  replace hR := nm_use et4 hR
  refine pf (ty := .int) hX hB (cwG (i := i) hi) rfl in3 tyX3_ok nmX3 2 (by decide) wm_1_52 rfl rfl rfl rfl rfl (Nat.le_of_ble_eq_true rfl) (cwSC (i := i) hi _) dX3_reshape_23 (fun H locs hB => ?_)
  refine lv_iconst (v := 0) hx hb dX3_reshape_26 (by decide) ?_
  refine lv_istore_n (lv' := [(3, .int 0), (0, .ref (a (6 + 2 * i))), (1, .int p0), (2, .int p1)]) hx hb dX3_reshape_27 rfl hl (by decide) rfl (fun ls hl => ?_)
  have lp28 : ∀ (nn28 : Nat) (y3_28 : Int32) (f_28 : Nat → Nat → Int64) (H : Heap) (locs : List Loc), 0 ≤ y3_28 → gap 20 y3_28 < nn28 → D_X3_reshape_28 r q i t2 t4 nn28 y3_28 f_28 = (o_r, o_q, o_f) → Bd κ A s (cw κ a (va_up (va_up r (2 * i) t2) (2 * i + 1) t4) q f_28) H locs → ∀ ls : Array Slot, lv_has ls 4 [(3, .int y3_28), (0, .ref (a (6 + 2 * i))), (1, .int p0), (2, .int p1)] → W p l e (Rm 1 21 0 0) s m args below meth c H locs 0 0 Q (F0 m 28 ls []) := by
    intro nn28
    induction nn28 with
    | zero => intro y3_28 f_28 H locs hn3_28 hμ; exact absurd hμ (Nat.not_lt_zero _)
    | succ nn28 ih28 =>
      intro y3_28 f_28 H locs hn3_28 hμ28 hR hB ls hl
      replace hR := (D_X3_reshape_28_s).symm.trans hR
      refine lv_iload_n hx hb dX3_reshape_28 rfl (lv_at hl 0 rfl) ?_
      refine lv_aload_n hx hb dX3_reshape_29 rfl (lv_at hl 1 rfl) ?_
      refine gf hX hB (cwG (i := i) hi) rfl in3 0 (by decide) wm_1_45 rfl rfl dX3_reshape_30 ?_
      refine alenL (v := 20) hX hB (cwC (i := i) hi) rfl dX3_reshape_33 ?_
      refine lv_icmp_ge (tgt := 50) hx hb dX3_reshape_34 (by decide) (fun c7 => ?_) (fun c7 => ?_)
      · replace hR := ifp c7 hR
        rw [← hQ]
        exact end_v hX hB hA3 rfl (by obtain ⟨rfl, rfl, rfl⟩ := pr3 hR; exact ⟨rfl, (fun h => okr_set (clampI (by decide) et1 et2) (clampI (by decide) et3 et4) h), rfl, rfl⟩) (Nat.le_of_ble_eq_true rfl) (Nat.le_of_ble_eq_true rfl) dX3_reshape_50
      · replace hR := ifn c7 hR
        refine lv_aload_n hx hb dX3_reshape_37 rfl (lv_at hl 1 rfl) ?_
        refine gf hX hB (cwG (i := i) hi) rfl in3 0 (by decide) wm_1_45 rfl rfl dX3_reshape_38 ?_
        refine lv_iload_n hx hb dX3_reshape_41 rfl (lv_at hl 0 rfl) ?_
        refine lv_lconst (v := 0) hx hb dX3_reshape_42 (by decide) ?_
        refine last hX hB (cwC (i := i) hi) (in_of (N := 20) rfl hn3_28 c7) (cwSL (i := i) hi _) dX3_reshape_43 (fun H locs hB => ?_)
        refine lv_iinc (v := y3_28 + 1) (lv' := [(3, .int (y3_28 + 1)), (0, .ref (a (6 + 2 * i))), (1, .int p0), (2, .int p1)]) hx hb dX3_reshape_44 hl (k := 0) rfl rfl (by decide) rfl (fun ls hl => ?_)
        refine lv_goto (tgt := 28) hx hb dX3_reshape_47 (by decide) ?_
        exact ih28 (y3_28 + 1) (va_up f_28 i (vp_updL (f_28 i) (y3_28).toNatClampNeg 0)) _ _ (nn_step hn3_28 c7) (gap_step c7 hμ28) hR hB _ hl
  exact lp28 _ 0 f _ _ (by decide) (Nat.lt_succ_self _) hR hB _ hl
noncomputable def D_X3_becomeUnit_8 (i : Nat) (r2 : Nat → Int32) (q4 : Nat → Int32) (nn : Nat) : Int32 → (Nat → Nat → Int64) → (Nat → Int32) × (Nat → Int32) × (Nat → Nat → Int64) := @Nat.rec (fun _ => Int32 → (Nat → Nat → Int64) → (Nat → Int32) × (Nat → Int32) × (Nat → Nat → Int64)) (fun _ _ => default) (fun _ lb8 (y2_8 : Int32) (f_8 : Nat → Nat → Int64) => (if (r2 (2 * i)) ≤ y2_8 then (r2, q4, f_8) else bnd1 (D_X3_set r2 q4 f_8 i y2_8 y2_8 1) (fun (f15 : Nat → Nat → Int64) => (lb8 (y2_8 + 1) f15)))) nn
theorem D_X3_becomeUnit_8_s {i : Nat} {r2 : Nat → Int32} {q4 : Nat → Int32} {nn : Nat} {y2_8 : Int32} {f_8 : Nat → Nat → Int64} : D_X3_becomeUnit_8 i r2 q4 (nn + 1) y2_8 f_8 = (if (r2 (2 * i)) ≤ y2_8 then (r2, q4, f_8) else bnd1 (D_X3_set r2 q4 f_8 i y2_8 y2_8 1) (fun (f15 : Nat → Nat → Int64) => ((D_X3_becomeUnit_8 i r2 q4 nn) (y2_8 + 1) f15))) := rfl
noncomputable def D_X3_becomeUnit (r : Nat → Int32) (q : Nat → Int32) (f : Nat → Nat → Int64) (i : Nat) (p0 : Int32) : (Nat → Int32) × (Nat → Int32) × (Nat → Nat → Int64) := bnd3 (D_X3_reshape r q f i p0 p0) (fun (r2 : Nat → Int32) (q4 : Nat → Int32) (f6 : Nat → Nat → Int64) => (D_X3_becomeUnit_8 i r2 q4 (gap (r2 (2 * i)) 0 + 1) 0 f6))
theorem D_X3_becomeUnit_s {r : Nat → Int32} {q : Nat → Int32} {f : Nat → Nat → Int64} {i : Nat} {p0 : Int32} : D_X3_becomeUnit r q f i p0 = bnd3 (D_X3_reshape r q f i p0 p0) (fun (r2 : Nat → Int32) (q4 : Nat → Int32) (f6 : Nat → Nat → Int64) => (D_X3_becomeUnit_8 i r2 q4 (gap (r2 (2 * i)) 0 + 1) 0 f6)) := rfl
set_option maxHeartbeats 4000000 in
set_option maxRecDepth 100000 in
theorem k_X3_becomeUnit (κ : Kt) (l : Launch) (a : Nat → Nat) (r q : Nat → Int32) (f : Nat → Nat → Int64) (i : Nat) (p0 : Int32) (hi : i < 15) (o_r : Nat → Int32) (o_q : Nat → Int32) (o_f : Nat → Nat → Int64) (hR : D_X3_becomeUnit r q f i p0 = (o_r, o_q, o_f)) : CM κ l yX3_becomeUnit cX3_becomeUnit 3 (none) 2 44 0 0 [.ref (a (6 + 2 * i)), .int p0] (cw κ a r q f) (fun o w' => o = none ∧ (okr r → okr o_r) ∧ o_q 4 = q 4 ∧ w' = cw κ a o_r o_q o_f) := by
  refine CM_begin (plainFor_of_name pn_RX3) (Nat.le_of_ble_eq_true rfl) ?_
  intro p e s m args below meth c A Q hX hnm hA3 hQ hB ls hl
  have hx := hX.1.1
  have hb := hX.1.2.1
  have hl : lv_has ls 3 [(0, .ref (a (6 + 2 * i))), (1, .int p0)] := hl
  replace hR := (D_X3_becomeUnit_s).symm.trans hR
  refine lv_aload_n hx hb dX3_becomeUnit_0 rfl (lv_at hl 0 rfl) ?_
  refine lv_iload_n hx hb dX3_becomeUnit_1 rfl (lv_at hl 1 rfl) ?_
  refine lv_iload_n hx hb dX3_becomeUnit_2 rfl (lv_at hl 1 rfl) ?_
  obtain ⟨r2, q4, f6, hd1⟩ := ex3 (D_X3_reshape r q f i p0 p0)
  replace hR := bnd3_use hd1 hR
  refine call_V (n := 2) (As := [.int p0, .int p0]) (rest := []) hX hB (k_X3_reshape κ l a r q f i p0 p0 hi r2 q4 f6 hd1) ⟨rfl, yk_X3_reshape⟩ wm_1_212 wm_1_213 wm_1_214 wm_1_2 wm_1_215 ⟨Nat.le_of_ble_eq_true rfl, Nat.le_of_ble_eq_true rfl⟩ ⟨Nat.le_of_ble_eq_true rfl, Nat.le_of_ble_eq_true rfl⟩ (cwG (i := i) hi) rfl rfl rfl hl.1 rfl (Nat.le_of_ble_eq_true rfl) dX3_becomeUnit_3 (fun o w' H locs hp hB => ?_)
  obtain ⟨rfl, ho3, hq5, rfl⟩ := hp
  refine W.eq (g2 := F0 m 6 ls []) rfl ?_
  refine lv_iconst (v := 0) hx hb dX3_becomeUnit_6 (by decide) ?_
  refine lv_istore_n (lv' := [(2, .int 0), (0, .ref (a (6 + 2 * i))), (1, .int p0)]) hx hb dX3_becomeUnit_7 rfl hl (by decide) rfl (fun ls hl => ?_)
  have lp8 : ∀ (nn8 : Nat) (y2_8 : Int32) (f_8 : Nat → Nat → Int64) (H : Heap) (locs : List Loc), gap (r2 (2 * i)) y2_8 < nn8 → D_X3_becomeUnit_8 i r2 q4 nn8 y2_8 f_8 = (o_r, o_q, o_f) → Bd κ A s (cw κ a r2 q4 f_8) H locs → ∀ ls : Array Slot, lv_has ls 3 [(2, .int y2_8), (0, .ref (a (6 + 2 * i))), (1, .int p0)] → W p l e (Rm 2 44 0 0) s m args below meth c H locs 0 0 Q (F0 m 8 ls []) := by
    intro nn8
    induction nn8 with
    | zero => intro y2_8 f_8 H locs hμ; exact absurd hμ (Nat.not_lt_zero _)
    | succ nn8 ih8 =>
      intro y2_8 f_8 H locs hμ8 hR hB ls hl
      replace hR := (D_X3_becomeUnit_8_s).symm.trans hR
      refine lv_iload_n hx hb dX3_becomeUnit_8 rfl (lv_at hl 0 rfl) ?_
      refine lv_aload_n hx hb dX3_becomeUnit_9 rfl (lv_at hl 1 rfl) ?_
      refine gf hX hB (cwG (i := i) hi) rfl in3 1 (by decide) wm_1_46 rfl rfl dX3_becomeUnit_10 ?_
      refine lv_icmp_ge (tgt := 29) hx hb dX3_becomeUnit_13 (by decide) (fun c13 => ?_) (fun c13 => ?_)
      · replace hR := ifp c13 hR
        rw [← hQ]
        exact end_v hX hB hA3 rfl (by obtain ⟨rfl, rfl, rfl⟩ := pr3 hR; exact ⟨rfl, (fun h => ho3 ((fun h => h) h)), (hq5.trans rfl), rfl⟩) (Nat.le_of_ble_eq_true rfl) (Nat.le_of_ble_eq_true rfl) dX3_becomeUnit_29
      · replace hR := ifn c13 hR
        refine lv_aload_n hx hb dX3_becomeUnit_16 rfl (lv_at hl 1 rfl) ?_
        refine lv_iload_n hx hb dX3_becomeUnit_17 rfl (lv_at hl 0 rfl) ?_
        refine lv_iload_n hx hb dX3_becomeUnit_18 rfl (lv_at hl 0 rfl) ?_
        refine lv_lconst (v := 1) hx hb dX3_becomeUnit_19 (by decide) ?_
        obtain ⟨f15, hd14⟩ := ex1 (D_X3_set r2 q4 f_8 i y2_8 y2_8 1)
        replace hR := bnd1_use hd14 hR
        refine call_V (n := 3) (As := [.int y2_8, .int y2_8, .long 1]) (rest := []) hX hB (k_X3_set κ l a r2 q4 f_8 i y2_8 y2_8 1 hi f15 hd14) ⟨rfl, yk_X3_set⟩ wm_1_222 wm_1_223 wm_1_224 wm_1_2 wm_1_225 ⟨Nat.le_of_ble_eq_true rfl, Nat.le_of_ble_eq_true rfl⟩ ⟨Nat.le_of_ble_eq_true rfl, Nat.le_of_ble_eq_true rfl⟩ (cwG (i := i) hi) rfl rfl rfl hl.1 rfl (Nat.le_of_ble_eq_true rfl) dX3_becomeUnit_20 (fun o w' H locs hp hB => ?_)
        obtain ⟨rfl, rfl⟩ := hp
        refine W.eq (g2 := F0 m 23 ls []) rfl ?_
        refine lv_iinc (v := y2_8 + 1) (lv' := [(2, .int (y2_8 + 1)), (0, .ref (a (6 + 2 * i))), (1, .int p0)]) hx hb dX3_becomeUnit_23 hl (k := 0) rfl rfl (by decide) rfl (fun ls hl => ?_)
        refine lv_goto (tgt := 8) hx hb dX3_becomeUnit_26 (by decide) ?_
        exact ih8 (y2_8 + 1) f15 _ _  (gap_step c13 hμ8) hR hB _ hl
  exact lp8 _ 0 f6 _ _  (Nat.lt_succ_self _) hR hB _ hl
noncomputable def D_X3_becomeLike_18 (r : Nat → Int32) (q : Nat → Int32) (i : Nat) (j : Nat) (nn : Nat) : Int32 → (Nat → Nat → Int64) → (Nat → Int32) × (Nat → Int32) × (Nat → Nat → Int64) := @Nat.rec (fun _ => Int32 → (Nat → Nat → Int64) → (Nat → Int32) × (Nat → Int32) × (Nat → Nat → Int64)) (fun _ _ => default) (fun _ lb18 (y2_18 : Int32) (f_18 : Nat → Nat → Int64) => (if 20 ≤ y2_18 then (va_up (va_up r (2 * i) (r (2 * j))) (2 * i + 1) (va_up r (2 * i) (r (2 * j)) (2 * j + 1)), q, f_18) else (if 20 ≤ y2_18 then (va_up (va_up r (2 * i) (r (2 * j))) (2 * i + 1) (va_up r (2 * i) (r (2 * j)) (2 * j + 1)), q, f_18) else nm (((f_18 j) (y2_18).toNatClampNeg) : Int64) (fun (g9 : Int64) => (lb18 (y2_18 + 1) (va_up f_18 i (vp_updL (f_18 i) (y2_18).toNatClampNeg g9))))))) nn
theorem D_X3_becomeLike_18_s {r : Nat → Int32} {q : Nat → Int32} {i : Nat} {j : Nat} {nn : Nat} {y2_18 : Int32} {f_18 : Nat → Nat → Int64} : D_X3_becomeLike_18 r q i j (nn + 1) y2_18 f_18 = (if 20 ≤ y2_18 then (va_up (va_up r (2 * i) (r (2 * j))) (2 * i + 1) (va_up r (2 * i) (r (2 * j)) (2 * j + 1)), q, f_18) else (if 20 ≤ y2_18 then (va_up (va_up r (2 * i) (r (2 * j))) (2 * i + 1) (va_up r (2 * i) (r (2 * j)) (2 * j + 1)), q, f_18) else nm (((f_18 j) (y2_18).toNatClampNeg) : Int64) (fun (g9 : Int64) => ((D_X3_becomeLike_18 r q i j nn) (y2_18 + 1) (va_up f_18 i (vp_updL (f_18 i) (y2_18).toNatClampNeg g9)))))) := rfl
noncomputable def D_X3_becomeLike (r : Nat → Int32) (q : Nat → Int32) (f : Nat → Nat → Int64) (i : Nat) (j : Nat) : (Nat → Int32) × (Nat → Int32) × (Nat → Nat → Int64) := (D_X3_becomeLike_18 r q i j (gap 20 0 + 1) 0 f)
theorem D_X3_becomeLike_s {r : Nat → Int32} {q : Nat → Int32} {f : Nat → Nat → Int64} {i : Nat} {j : Nat} : D_X3_becomeLike r q f i j = (D_X3_becomeLike_18 r q i j (gap 20 0 + 1) 0 f) := rfl
set_option maxHeartbeats 4000000 in
set_option maxRecDepth 100000 in
theorem k_X3_becomeLike (κ : Kt) (l : Launch) (a : Nat → Nat) (r q : Nat → Int32) (f : Nat → Nat → Int64) (i : Nat) (j : Nat) (hi : i < 15) (hj : j < 15) (o_r : Nat → Int32) (o_q : Nat → Int32) (o_f : Nat → Nat → Int64) (hR : D_X3_becomeLike r q f i j = (o_r, o_q, o_f)) : CM κ l yX3_becomeLike cX3_becomeLike 3 (none) 0 0 0 0 [.ref (a (6 + 2 * i)), .ref (a (6 + 2 * j))] (cw κ a r q f) (fun o w' => o = none ∧ (okr r → okr o_r) ∧ o_q 4 = q 4 ∧ w' = cw κ a o_r o_q o_f) := by
  refine CM_begin (plainFor_of_name pn_RX3) (Nat.le_of_ble_eq_true rfl) ?_
  intro p e s m args below meth c A Q hX hnm hA3 hQ hB ls hl
  have hx := hX.1.1
  have hb := hX.1.2.1
  have hl : lv_has ls 3 [(0, .ref (a (6 + 2 * i))), (1, .ref (a (6 + 2 * j)))] := hl
  replace hR := (D_X3_becomeLike_s).symm.trans hR
  refine lv_aload_n hx hb dX3_becomeLike_0 rfl (lv_at hl 0 rfl) ?_
  refine lv_aload_n hx hb dX3_becomeLike_1 rfl (lv_at hl 1 rfl) ?_
  refine gf hX hB (cwG (i := j) hj) rfl in3 1 (by decide) wm_1_46 rfl rfl dX3_becomeLike_2 ?_
  refine pf (ty := .int) hX hB (cwG (i := i) hi) rfl in3 tyX3_ok nmX3 1 (by decide) wm_1_46 rfl rfl rfl rfl rfl (Nat.le_of_ble_eq_true rfl) (cwSR (i := i) hi _) dX3_becomeLike_5 (fun H locs hB => ?_)
  refine lv_aload_n hx hb dX3_becomeLike_8 rfl (lv_at hl 0 rfl) ?_
  refine lv_aload_n hx hb dX3_becomeLike_9 rfl (lv_at hl 1 rfl) ?_
  refine gf hX hB (cwG (i := j) hj) rfl in3 2 (by decide) wm_1_52 rfl rfl dX3_becomeLike_10 ?_
  refine pf (ty := .int) hX hB (cwG (i := i) hi) rfl in3 tyX3_ok nmX3 2 (by decide) wm_1_52 rfl rfl rfl rfl rfl (Nat.le_of_ble_eq_true rfl) (cwSC (i := i) hi _) dX3_becomeLike_13 (fun H locs hB => ?_)
  refine lv_iconst (v := 0) hx hb dX3_becomeLike_16 (by decide) ?_
  refine lv_istore_n (lv' := [(2, .int 0), (0, .ref (a (6 + 2 * i))), (1, .ref (a (6 + 2 * j)))]) hx hb dX3_becomeLike_17 rfl hl (by decide) rfl (fun ls hl => ?_)
  have lp18 : ∀ (nn18 : Nat) (y2_18 : Int32) (f_18 : Nat → Nat → Int64) (H : Heap) (locs : List Loc), 0 ≤ y2_18 → gap 20 y2_18 < nn18 → D_X3_becomeLike_18 r q i j nn18 y2_18 f_18 = (o_r, o_q, o_f) → Bd κ A s (cw κ a (va_up (va_up r (2 * i) (r (2 * j))) (2 * i + 1) (va_up r (2 * i) (r (2 * j)) (2 * j + 1))) q f_18) H locs → ∀ ls : Array Slot, lv_has ls 3 [(2, .int y2_18), (0, .ref (a (6 + 2 * i))), (1, .ref (a (6 + 2 * j)))] → W p l e (Rm 0 0 0 0) s m args below meth c H locs 0 0 Q (F0 m 18 ls []) := by
    intro nn18
    induction nn18 with
    | zero => intro y2_18 f_18 H locs hn2_18 hμ; exact absurd hμ (Nat.not_lt_zero _)
    | succ nn18 ih18 =>
      intro y2_18 f_18 H locs hn2_18 hμ18 hR hB ls hl
      replace hR := (D_X3_becomeLike_18_s).symm.trans hR
      refine lv_iload_n hx hb dX3_becomeLike_18 rfl (lv_at hl 0 rfl) ?_
      refine lv_aload_n hx hb dX3_becomeLike_19 rfl (lv_at hl 1 rfl) ?_
      refine gf hX hB (cwG (i := i) hi) rfl in3 0 (by decide) wm_1_45 rfl rfl dX3_becomeLike_20 ?_
      refine alenL (v := 20) hX hB (cwC (i := i) hi) rfl dX3_becomeLike_23 ?_
      refine lv_icmp_ge (tgt := 54) hx hb dX3_becomeLike_24 (by decide) (fun c7 => ?_) (fun c7 => ?_)
      · replace hR := ifp c7 hR
        rw [← hQ]
        exact end_v hX hB hA3 rfl (by obtain ⟨rfl, rfl, rfl⟩ := pr3 hR; exact ⟨rfl, (fun h => okr_like hj h), rfl, rfl⟩) (Nat.le_of_ble_eq_true rfl) (Nat.le_of_ble_eq_true rfl) dX3_becomeLike_54
      · replace hR := ifn c7 hR
        refine lv_iload_n hx hb dX3_becomeLike_27 rfl (lv_at hl 0 rfl) ?_
        refine lv_aload_n hx hb dX3_becomeLike_28 rfl (lv_at hl 2 rfl) ?_
        refine gf hX hB (cwG (i := j) hj) rfl in3 0 (by decide) wm_1_45 rfl rfl dX3_becomeLike_29 ?_
        refine alenL (v := 20) hX hB (cwC (i := j) hj) rfl dX3_becomeLike_32 ?_
        refine lv_icmp_ge (tgt := 54) hx hb dX3_becomeLike_33 (by decide) (fun c8 => ?_) (fun c8 => ?_)
        · replace hR := ifp c8 hR
          rw [← hQ]
          exact end_v hX hB hA3 rfl (by obtain ⟨rfl, rfl, rfl⟩ := pr3 hR; exact ⟨rfl, (fun h => okr_like hj h), rfl, rfl⟩) (Nat.le_of_ble_eq_true rfl) (Nat.le_of_ble_eq_true rfl) dX3_becomeLike_54
        · replace hR := ifn c8 hR
          refine lv_aload_n hx hb dX3_becomeLike_36 rfl (lv_at hl 1 rfl) ?_
          refine gf hX hB (cwG (i := i) hi) rfl in3 0 (by decide) wm_1_45 rfl rfl dX3_becomeLike_37 ?_
          refine lv_iload_n hx hb dX3_becomeLike_40 rfl (lv_at hl 0 rfl) ?_
          refine lv_aload_n hx hb dX3_becomeLike_41 rfl (lv_at hl 2 rfl) ?_
          refine gf hX hB (cwG (i := j) hj) rfl in3 0 (by decide) wm_1_45 rfl rfl dX3_becomeLike_42 ?_
          refine lv_iload_n hx hb dX3_becomeLike_45 rfl (lv_at hl 0 rfl) ?_
          refine lald hX hB (cwC (i := j) hj) (in_of (N := 20) rfl hn2_18 c7) dX3_becomeLike_46 ?_
          refine lv_topl (fun g9 eg9 => ?_)
          replace hR := nm_use eg9 hR
          refine last hX hB (cwC (i := i) hi) (in_of (N := 20) rfl hn2_18 c7) (cwSL (i := i) hi _) dX3_becomeLike_47 (fun H locs hB => ?_)
          refine lv_iinc (v := y2_18 + 1) (lv' := [(2, .int (y2_18 + 1)), (0, .ref (a (6 + 2 * i))), (1, .ref (a (6 + 2 * j)))]) hx hb dX3_becomeLike_48 hl (k := 0) rfl rfl (by decide) rfl (fun ls hl => ?_)
          refine lv_goto (tgt := 18) hx hb dX3_becomeLike_51 (by decide) ?_
          exact ih18 (y2_18 + 1) (va_up f_18 i (vp_updL (f_18 i) (y2_18).toNatClampNeg g9)) _ _ (nn_step hn2_18 c7) (gap_step c7 hμ18) hR hB _ hl
  exact lp18 _ 0 f _ _ (by decide) (Nat.lt_succ_self _) hR hB _ hl
noncomputable def D_X3_takeOver_20 (r : Nat → Int32) (q : Nat → Int32) (i : Nat) (j : Nat) (lb2 : Int32 → (Nat → Nat → Int64) → (Nat → Nat → Int64)) (y2_2 : Int32) (nn : Nat) : Int32 → (Nat → Nat → Int64) → (Nat → Nat → Int64) := @Nat.rec (fun _ => Int32 → (Nat → Nat → Int64) → (Nat → Nat → Int64)) (fun _ _ => default) (fun _ lb20 (y3_20 : Int32) (f_20 : Nat → Nat → Int64) => (if (r (2 * i + 1)) ≤ y3_20 then (lb2 (y2_2 + 1) f_20) else (if (r (2 * j + 1)) ≤ y3_20 then (lb2 (y2_2 + 1) f_20) else bnd1 (D_X3_get r q f_20 j y2_2 y3_20) (fun (x58 : Int64) => bnd1 (D_X3_set r q f_20 i y2_2 y3_20 x58) (fun (f60 : Nat → Nat → Int64) => (lb20 (y3_20 + 1) f60)))))) nn
theorem D_X3_takeOver_20_s {r : Nat → Int32} {q : Nat → Int32} {i : Nat} {j : Nat} {lb2 : Int32 → (Nat → Nat → Int64) → (Nat → Nat → Int64)} {y2_2 : Int32} {nn : Nat} {y3_20 : Int32} {f_20 : Nat → Nat → Int64} : D_X3_takeOver_20 r q i j lb2 y2_2 (nn + 1) y3_20 f_20 = (if (r (2 * i + 1)) ≤ y3_20 then (lb2 (y2_2 + 1) f_20) else (if (r (2 * j + 1)) ≤ y3_20 then (lb2 (y2_2 + 1) f_20) else bnd1 (D_X3_get r q f_20 j y2_2 y3_20) (fun (x58 : Int64) => bnd1 (D_X3_set r q f_20 i y2_2 y3_20 x58) (fun (f60 : Nat → Nat → Int64) => ((D_X3_takeOver_20 r q i j lb2 y2_2 nn) (y3_20 + 1) f60))))) := rfl
noncomputable def D_X3_takeOver_2 (r : Nat → Int32) (q : Nat → Int32) (i : Nat) (j : Nat) (nn : Nat) : Int32 → (Nat → Nat → Int64) → (Nat → Nat → Int64) := @Nat.rec (fun _ => Int32 → (Nat → Nat → Int64) → (Nat → Nat → Int64)) (fun _ _ => default) (fun _ lb2 (y2_2 : Int32) (f_2 : Nat → Nat → Int64) => (if (r (2 * i)) ≤ y2_2 then f_2 else (if (r (2 * j)) ≤ y2_2 then f_2 else (D_X3_takeOver_20 r q i j lb2 y2_2 (gap (r (2 * i + 1)) 0 + 1) 0 f_2)))) nn
theorem D_X3_takeOver_2_s {r : Nat → Int32} {q : Nat → Int32} {i : Nat} {j : Nat} {nn : Nat} {y2_2 : Int32} {f_2 : Nat → Nat → Int64} : D_X3_takeOver_2 r q i j (nn + 1) y2_2 f_2 = (if (r (2 * i)) ≤ y2_2 then f_2 else (if (r (2 * j)) ≤ y2_2 then f_2 else (D_X3_takeOver_20 r q i j (D_X3_takeOver_2 r q i j nn) y2_2 (gap (r (2 * i + 1)) 0 + 1) 0 f_2))) := rfl
noncomputable def D_X3_takeOver (r : Nat → Int32) (q : Nat → Int32) (f : Nat → Nat → Int64) (i : Nat) (j : Nat) : (Nat → Nat → Int64) := (D_X3_takeOver_2 r q i j (gap (r (2 * i)) 0 + 1) 0 f)
theorem D_X3_takeOver_s {r : Nat → Int32} {q : Nat → Int32} {f : Nat → Nat → Int64} {i : Nat} {j : Nat} : D_X3_takeOver r q f i j = (D_X3_takeOver_2 r q i j (gap (r (2 * i)) 0 + 1) 0 f) := rfl
set_option maxHeartbeats 4000000 in
set_option maxRecDepth 100000 in
theorem k_X3_takeOver (κ : Kt) (l : Launch) (a : Nat → Nat) (r q : Nat → Int32) (f : Nat → Nat → Int64) (i : Nat) (j : Nat) (hi : i < 15) (hj : j < 15) (o_f : Nat → Nat → Int64) (hR : D_X3_takeOver r q f i j = o_f) : CM κ l yX3_takeOver cX3_takeOver 4 (none) 1 24 0 0 [.ref (a (6 + 2 * i)), .ref (a (6 + 2 * j))] (cw κ a r q f) (fun o w' => o = none ∧ w' = cw κ a r q o_f) := by
  refine CM_begin (plainFor_of_name pn_RX3) (Nat.le_of_ble_eq_true rfl) ?_
  intro p e s m args below meth c A Q hX hnm hA3 hQ hB ls hl
  have hx := hX.1.1
  have hb := hX.1.2.1
  have hl : lv_has ls 4 [(0, .ref (a (6 + 2 * i))), (1, .ref (a (6 + 2 * j)))] := hl
  replace hR := (D_X3_takeOver_s).symm.trans hR
  refine lv_iconst (v := 0) hx hb dX3_takeOver_0 (by decide) ?_
  refine lv_istore_n (lv' := [(2, .int 0), (0, .ref (a (6 + 2 * i))), (1, .ref (a (6 + 2 * j)))]) hx hb dX3_takeOver_1 rfl hl (by decide) rfl (fun ls hl => ?_)
  have lp2 : ∀ (nn2 : Nat) (y2_2 : Int32) (f_2 : Nat → Nat → Int64) (H : Heap) (locs : List Loc), gap (r (2 * i)) y2_2 < nn2 → D_X3_takeOver_2 r q i j nn2 y2_2 f_2 = o_f → Bd κ A s (cw κ a r q f_2) H locs → ∀ ls : Array Slot, lv_has ls 4 [(2, .int y2_2), (0, .ref (a (6 + 2 * i))), (1, .ref (a (6 + 2 * j)))] → W p l e (Rm 1 24 0 0) s m args below meth c H locs 0 0 Q (F0 m 2 ls []) := by
    intro nn2
    induction nn2 with
    | zero => intro y2_2 f_2 H locs hμ; exact absurd hμ (Nat.not_lt_zero _)
    | succ nn2 ih2 =>
      intro y2_2 f_2 H locs hμ2 hR hB ls hl
      replace hR := (D_X3_takeOver_2_s).symm.trans hR
      refine lv_iload_n hx hb dX3_takeOver_2 rfl (lv_at hl 0 rfl) ?_
      refine lv_aload_n hx hb dX3_takeOver_3 rfl (lv_at hl 1 rfl) ?_
      refine gf hX hB (cwG (i := i) hi) rfl in3 1 (by decide) wm_1_46 rfl rfl dX3_takeOver_4 ?_
      refine lv_icmp_ge (tgt := 60) hx hb dX3_takeOver_7 (by decide) (fun c41 => ?_) (fun c41 => ?_)
      · replace hR := ifp c41 hR
        rw [← hQ]
        exact end_v hX hB hA3 rfl (by obtain rfl := hR; exact ⟨rfl, rfl⟩) (Nat.le_of_ble_eq_true rfl) (Nat.le_of_ble_eq_true rfl) dX3_takeOver_60
      · replace hR := ifn c41 hR
        refine lv_iload_n hx hb dX3_takeOver_10 rfl (lv_at hl 0 rfl) ?_
        refine lv_aload_n hx hb dX3_takeOver_11 rfl (lv_at hl 2 rfl) ?_
        refine gf hX hB (cwG (i := j) hj) rfl in3 1 (by decide) wm_1_46 rfl rfl dX3_takeOver_12 ?_
        refine lv_icmp_ge (tgt := 60) hx hb dX3_takeOver_15 (by decide) (fun c42 => ?_) (fun c42 => ?_)
        · replace hR := ifp c42 hR
          rw [← hQ]
          exact end_v hX hB hA3 rfl (by obtain rfl := hR; exact ⟨rfl, rfl⟩) (Nat.le_of_ble_eq_true rfl) (Nat.le_of_ble_eq_true rfl) dX3_takeOver_60
        · replace hR := ifn c42 hR
          refine lv_iconst (v := 0) hx hb dX3_takeOver_18 (by decide) ?_
          refine lv_istore_n (lv' := [(3, .int 0), (2, .int y2_2), (0, .ref (a (6 + 2 * i))), (1, .ref (a (6 + 2 * j)))]) hx hb dX3_takeOver_19 rfl hl (by decide) rfl (fun ls hl => ?_)
          have lp20 : ∀ (nn20 : Nat) (y3_20 : Int32) (f_20 : Nat → Nat → Int64) (H : Heap) (locs : List Loc), gap (r (2 * i + 1)) y3_20 < nn20 → D_X3_takeOver_20 r q i j (D_X3_takeOver_2 r q i j nn2) y2_2 nn20 y3_20 f_20 = o_f → Bd κ A s (cw κ a r q f_20) H locs → ∀ ls : Array Slot, lv_has ls 4 [(3, .int y3_20), (2, .int y2_2), (0, .ref (a (6 + 2 * i))), (1, .ref (a (6 + 2 * j)))] → W p l e (Rm 1 24 0 0) s m args below meth c H locs 0 0 Q (F0 m 20 ls []) := by
            intro nn20
            induction nn20 with
            | zero => intro y3_20 f_20 H locs hμ; exact absurd hμ (Nat.not_lt_zero _)
            | succ nn20 ih20 =>
              intro y3_20 f_20 H locs hμ20 hR hB ls hl
              replace hR := (D_X3_takeOver_20_s).symm.trans hR
              refine lv_iload_n hx hb dX3_takeOver_20 rfl (lv_at hl 0 rfl) ?_
              refine lv_aload_n hx hb dX3_takeOver_21 rfl (lv_at hl 2 rfl) ?_
              refine gf hX hB (cwG (i := i) hi) rfl in3 2 (by decide) wm_1_52 rfl rfl dX3_takeOver_22 ?_
              refine lv_icmp_ge (tgt := 54) hx hb dX3_takeOver_25 (by decide) (fun c55 => ?_) (fun c55 => ?_)
              · replace hR := ifp c55 hR
                refine lv_iinc (v := y2_2 + 1) (lv' := [(2, .int (y2_2 + 1)), (3, .int y3_20), (0, .ref (a (6 + 2 * i))), (1, .ref (a (6 + 2 * j)))]) hx hb dX3_takeOver_54 hl (k := 1) rfl rfl (by decide) rfl (fun ls hl => ?_)
                refine lv_goto (tgt := 2) hx hb dX3_takeOver_57 (by decide) ?_
                exact ih2 (y2_2 + 1) f_20 _ _  (gap_step c41 hμ2) hR hB _ (lv_sub hl [0, 2, 3] rfl)
              · replace hR := ifn c55 hR
                refine lv_iload_n hx hb dX3_takeOver_28 rfl (lv_at hl 0 rfl) ?_
                refine lv_aload_n hx hb dX3_takeOver_29 rfl (lv_at hl 3 rfl) ?_
                refine gf hX hB (cwG (i := j) hj) rfl in3 2 (by decide) wm_1_52 rfl rfl dX3_takeOver_30 ?_
                refine lv_icmp_ge (tgt := 54) hx hb dX3_takeOver_33 (by decide) (fun c56 => ?_) (fun c56 => ?_)
                · replace hR := ifp c56 hR
                  refine lv_iinc (v := y2_2 + 1) (lv' := [(2, .int (y2_2 + 1)), (3, .int y3_20), (0, .ref (a (6 + 2 * i))), (1, .ref (a (6 + 2 * j)))]) hx hb dX3_takeOver_54 hl (k := 1) rfl rfl (by decide) rfl (fun ls hl => ?_)
                  refine lv_goto (tgt := 2) hx hb dX3_takeOver_57 (by decide) ?_
                  exact ih2 (y2_2 + 1) f_20 _ _  (gap_step c41 hμ2) hR hB _ (lv_sub hl [0, 2, 3] rfl)
                · replace hR := ifn c56 hR
                  refine lv_aload_n hx hb dX3_takeOver_36 rfl (lv_at hl 2 rfl) ?_
                  refine lv_iload_n hx hb dX3_takeOver_37 rfl (lv_at hl 1 rfl) ?_
                  refine lv_iload_n hx hb dX3_takeOver_38 rfl (lv_at hl 0 rfl) ?_
                  refine lv_aload_n hx hb dX3_takeOver_39 rfl (lv_at hl 3 rfl) ?_
                  refine lv_iload_n hx hb dX3_takeOver_40 rfl (lv_at hl 1 rfl) ?_
                  refine lv_iload_n hx hb dX3_takeOver_41 rfl (lv_at hl 0 rfl) ?_
                  obtain ⟨x58, hd57⟩ := ex1 (D_X3_get r q f_20 j y2_2 y3_20)
                  replace hR := bnd1_use hd57 hR
                  refine call_V (n := 2) (As := [.int y2_2, .int y3_20]) (rest := [.int y3_20, .int y2_2, .ref (a (6 + 2 * i))]) hX hB (k_X3_get κ l a r q f_20 j y2_2 y3_20 hj x58 hd57) ⟨rfl, yk_X3_get⟩ wm_2_7 wm_1_187 wm_1_188 wm_1_2 wm_1_189 ⟨Nat.le_of_ble_eq_true rfl, Nat.le_of_ble_eq_true rfl⟩ ⟨Nat.le_of_ble_eq_true rfl, Nat.le_of_ble_eq_true rfl⟩ (cwG (i := j) hj) rfl rfl rfl hl.1 rfl (Nat.le_of_ble_eq_true rfl) dX3_takeOver_42 (fun o w' H locs hp hB => ?_)
                  obtain ⟨rfl, rfl⟩ := hp
                  refine W.eq (g2 := F0 m 45 ls [.long x58, .int y3_20, .int y2_2, .ref (a (6 + 2 * i))]) rfl ?_
                  obtain ⟨f60, hd59⟩ := ex1 (D_X3_set r q f_20 i y2_2 y3_20 x58)
                  replace hR := bnd1_use hd59 hR
                  refine call_V (n := 3) (As := [.int y2_2, .int y3_20, .long x58]) (rest := []) hX hB (k_X3_set κ l a r q f_20 i y2_2 y3_20 x58 hi f60 hd59) ⟨rfl, yk_X3_set⟩ wm_1_222 wm_1_223 wm_1_224 wm_1_2 wm_1_225 ⟨Nat.le_of_ble_eq_true rfl, Nat.le_of_ble_eq_true rfl⟩ ⟨Nat.le_of_ble_eq_true rfl, Nat.le_of_ble_eq_true rfl⟩ (cwG (i := i) hi) rfl rfl rfl hl.1 rfl (Nat.le_of_ble_eq_true rfl) dX3_takeOver_45 (fun o w' H locs hp hB => ?_)
                  obtain ⟨rfl, rfl⟩ := hp
                  refine W.eq (g2 := F0 m 48 ls []) rfl ?_
                  refine lv_iinc (v := y3_20 + 1) (lv' := [(3, .int (y3_20 + 1)), (2, .int y2_2), (0, .ref (a (6 + 2 * i))), (1, .ref (a (6 + 2 * j)))]) hx hb dX3_takeOver_48 hl (k := 0) rfl rfl (by decide) rfl (fun ls hl => ?_)
                  refine lv_goto (tgt := 20) hx hb dX3_takeOver_51 (by decide) ?_
                  exact ih20 (y3_20 + 1) f60 _ _  (gap_step c55 hμ20) hR hB _ hl
          exact lp20 _ 0 f_2 _ _  (Nat.lt_succ_self _) hR hB _ hl
  exact lp2 _ 0 f _ _  (Nat.lt_succ_self _) hR hB _ hl
noncomputable def D_X3_becomeColumn_11 (i : Nat) (j : Nat) (p1 : Int32) (r2 : Nat → Int32) (q4 : Nat → Int32) (nn : Nat) : Int32 → (Nat → Nat → Int64) → (Nat → Int32) × (Nat → Int32) × (Nat → Nat → Int64) := @Nat.rec (fun _ => Int32 → (Nat → Nat → Int64) → (Nat → Int32) × (Nat → Int32) × (Nat → Nat → Int64)) (fun _ _ => default) (fun _ lb11 (y3_11 : Int32) (f_11 : Nat → Nat → Int64) => (if (r2 (2 * i)) ≤ y3_11 then (r2, q4, f_11) else bnd1 (D_X3_get r2 q4 f_11 j y3_11 p1) (fun (x19 : Int64) => bnd1 (D_X3_set r2 q4 f_11 i y3_11 0 x19) (fun (f21 : Nat → Nat → Int64) => (lb11 (y3_11 + 1) f21))))) nn
theorem D_X3_becomeColumn_11_s {i : Nat} {j : Nat} {p1 : Int32} {r2 : Nat → Int32} {q4 : Nat → Int32} {nn : Nat} {y3_11 : Int32} {f_11 : Nat → Nat → Int64} : D_X3_becomeColumn_11 i j p1 r2 q4 (nn + 1) y3_11 f_11 = (if (r2 (2 * i)) ≤ y3_11 then (r2, q4, f_11) else bnd1 (D_X3_get r2 q4 f_11 j y3_11 p1) (fun (x19 : Int64) => bnd1 (D_X3_set r2 q4 f_11 i y3_11 0 x19) (fun (f21 : Nat → Nat → Int64) => ((D_X3_becomeColumn_11 i j p1 r2 q4 nn) (y3_11 + 1) f21)))) := rfl
noncomputable def D_X3_becomeColumn (r : Nat → Int32) (q : Nat → Int32) (f : Nat → Nat → Int64) (i : Nat) (j : Nat) (p1 : Int32) : (Nat → Int32) × (Nat → Int32) × (Nat → Nat → Int64) := bnd3 (D_X3_reshape r q f i (r (2 * j)) 1) (fun (r2 : Nat → Int32) (q4 : Nat → Int32) (f6 : Nat → Nat → Int64) => (D_X3_becomeColumn_11 i j p1 r2 q4 (gap (r2 (2 * i)) 0 + 1) 0 f6))
theorem D_X3_becomeColumn_s {r : Nat → Int32} {q : Nat → Int32} {f : Nat → Nat → Int64} {i : Nat} {j : Nat} {p1 : Int32} : D_X3_becomeColumn r q f i j p1 = bnd3 (D_X3_reshape r q f i (r (2 * j)) 1) (fun (r2 : Nat → Int32) (q4 : Nat → Int32) (f6 : Nat → Nat → Int64) => (D_X3_becomeColumn_11 i j p1 r2 q4 (gap (r2 (2 * i)) 0 + 1) 0 f6)) := rfl
set_option maxHeartbeats 4000000 in
set_option maxRecDepth 100000 in
theorem k_X3_becomeColumn (κ : Kt) (l : Launch) (a : Nat → Nat) (r q : Nat → Int32) (f : Nat → Nat → Int64) (i : Nat) (j : Nat) (p1 : Int32) (hi : i < 15) (hj : j < 15) (o_r : Nat → Int32) (o_q : Nat → Int32) (o_f : Nat → Nat → Int64) (hR : D_X3_becomeColumn r q f i j p1 = (o_r, o_q, o_f)) : CM κ l yX3_becomeColumn cX3_becomeColumn 4 (none) 2 44 0 0 [.ref (a (6 + 2 * i)), .ref (a (6 + 2 * j)), .int p1] (cw κ a r q f) (fun o w' => o = none ∧ (okr r → okr o_r) ∧ o_q 4 = q 4 ∧ w' = cw κ a o_r o_q o_f) := by
  refine CM_begin (plainFor_of_name pn_RX3) (Nat.le_of_ble_eq_true rfl) ?_
  intro p e s m args below meth c A Q hX hnm hA3 hQ hB ls hl
  have hx := hX.1.1
  have hb := hX.1.2.1
  have hl : lv_has ls 4 [(0, .ref (a (6 + 2 * i))), (1, .ref (a (6 + 2 * j))), (2, .int p1)] := hl
  replace hR := (D_X3_becomeColumn_s).symm.trans hR
  refine lv_aload_n hx hb dX3_becomeColumn_0 rfl (lv_at hl 0 rfl) ?_
  refine lv_aload_n hx hb dX3_becomeColumn_1 rfl (lv_at hl 1 rfl) ?_
  refine gf hX hB (cwG (i := j) hj) rfl in3 1 (by decide) wm_1_46 rfl rfl dX3_becomeColumn_2 ?_
  refine lv_iconst (v := 1) hx hb dX3_becomeColumn_5 (by decide) ?_
  obtain ⟨r2, q4, f6, hd1⟩ := ex3 (D_X3_reshape r q f i (r (2 * j)) 1)
  replace hR := bnd3_use hd1 hR
  refine call_V (n := 2) (As := [.int (r (2 * j)), .int 1]) (rest := []) hX hB (k_X3_reshape κ l a r q f i (r (2 * j)) 1 hi r2 q4 f6 hd1) ⟨rfl, yk_X3_reshape⟩ wm_1_212 wm_1_213 wm_1_214 wm_1_2 wm_1_215 ⟨Nat.le_of_ble_eq_true rfl, Nat.le_of_ble_eq_true rfl⟩ ⟨Nat.le_of_ble_eq_true rfl, Nat.le_of_ble_eq_true rfl⟩ (cwG (i := i) hi) rfl rfl rfl hl.1 rfl (Nat.le_of_ble_eq_true rfl) dX3_becomeColumn_6 (fun o w' H locs hp hB => ?_)
  obtain ⟨rfl, ho3, hq5, rfl⟩ := hp
  refine W.eq (g2 := F0 m 9 ls []) rfl ?_
  refine lv_iconst (v := 0) hx hb dX3_becomeColumn_9 (by decide) ?_
  refine lv_istore_n (lv' := [(3, .int 0), (0, .ref (a (6 + 2 * i))), (1, .ref (a (6 + 2 * j))), (2, .int p1)]) hx hb dX3_becomeColumn_10 rfl hl (by decide) rfl (fun ls hl => ?_)
  have lp11 : ∀ (nn11 : Nat) (y3_11 : Int32) (f_11 : Nat → Nat → Int64) (H : Heap) (locs : List Loc), gap (r2 (2 * i)) y3_11 < nn11 → D_X3_becomeColumn_11 i j p1 r2 q4 nn11 y3_11 f_11 = (o_r, o_q, o_f) → Bd κ A s (cw κ a r2 q4 f_11) H locs → ∀ ls : Array Slot, lv_has ls 4 [(3, .int y3_11), (0, .ref (a (6 + 2 * i))), (1, .ref (a (6 + 2 * j))), (2, .int p1)] → W p l e (Rm 2 44 0 0) s m args below meth c H locs 0 0 Q (F0 m 11 ls []) := by
    intro nn11
    induction nn11 with
    | zero => intro y3_11 f_11 H locs hμ; exact absurd hμ (Nat.not_lt_zero _)
    | succ nn11 ih11 =>
      intro y3_11 f_11 H locs hμ11 hR hB ls hl
      replace hR := (D_X3_becomeColumn_11_s).symm.trans hR
      refine lv_iload_n hx hb dX3_becomeColumn_11 rfl (lv_at hl 0 rfl) ?_
      refine lv_aload_n hx hb dX3_becomeColumn_12 rfl (lv_at hl 1 rfl) ?_
      refine gf hX hB (cwG (i := i) hi) rfl in3 1 (by decide) wm_1_46 rfl rfl dX3_becomeColumn_13 ?_
      refine lv_icmp_ge (tgt := 37) hx hb dX3_becomeColumn_16 (by decide) (fun c17 => ?_) (fun c17 => ?_)
      · replace hR := ifp c17 hR
        rw [← hQ]
        exact end_v hX hB hA3 rfl (by obtain ⟨rfl, rfl, rfl⟩ := pr3 hR; exact ⟨rfl, (fun h => ho3 ((fun h => h) h)), (hq5.trans rfl), rfl⟩) (Nat.le_of_ble_eq_true rfl) (Nat.le_of_ble_eq_true rfl) dX3_becomeColumn_37
      · replace hR := ifn c17 hR
        refine lv_aload_n hx hb dX3_becomeColumn_19 rfl (lv_at hl 1 rfl) ?_
        refine lv_iload_n hx hb dX3_becomeColumn_20 rfl (lv_at hl 0 rfl) ?_
        refine lv_iconst (v := 0) hx hb dX3_becomeColumn_21 (by decide) ?_
        refine lv_aload_n hx hb dX3_becomeColumn_22 rfl (lv_at hl 2 rfl) ?_
        refine lv_iload_n hx hb dX3_becomeColumn_23 rfl (lv_at hl 0 rfl) ?_
        refine lv_iload_n hx hb dX3_becomeColumn_24 rfl (lv_at hl 3 rfl) ?_
        obtain ⟨x19, hd18⟩ := ex1 (D_X3_get r2 q4 f_11 j y3_11 p1)
        replace hR := bnd1_use hd18 hR
        refine call_V (n := 2) (As := [.int y3_11, .int p1]) (rest := [.int 0, .int y3_11, .ref (a (6 + 2 * i))]) hX hB (k_X3_get κ l a r2 q4 f_11 j y3_11 p1 hj x19 hd18) ⟨rfl, yk_X3_get⟩ wm_2_7 wm_1_187 wm_1_188 wm_1_2 wm_1_189 ⟨Nat.le_of_ble_eq_true rfl, Nat.le_of_ble_eq_true rfl⟩ ⟨Nat.le_of_ble_eq_true rfl, Nat.le_of_ble_eq_true rfl⟩ (cwG (i := j) hj) rfl rfl rfl hl.1 rfl (Nat.le_of_ble_eq_true rfl) dX3_becomeColumn_25 (fun o w' H locs hp hB => ?_)
        obtain ⟨rfl, rfl⟩ := hp
        refine W.eq (g2 := F0 m 28 ls [.long x19, .int 0, .int y3_11, .ref (a (6 + 2 * i))]) rfl ?_
        obtain ⟨f21, hd20⟩ := ex1 (D_X3_set r2 q4 f_11 i y3_11 0 x19)
        replace hR := bnd1_use hd20 hR
        refine call_V (n := 3) (As := [.int y3_11, .int 0, .long x19]) (rest := []) hX hB (k_X3_set κ l a r2 q4 f_11 i y3_11 0 x19 hi f21 hd20) ⟨rfl, yk_X3_set⟩ wm_1_222 wm_1_223 wm_1_224 wm_1_2 wm_1_225 ⟨Nat.le_of_ble_eq_true rfl, Nat.le_of_ble_eq_true rfl⟩ ⟨Nat.le_of_ble_eq_true rfl, Nat.le_of_ble_eq_true rfl⟩ (cwG (i := i) hi) rfl rfl rfl hl.1 rfl (Nat.le_of_ble_eq_true rfl) dX3_becomeColumn_28 (fun o w' H locs hp hB => ?_)
        obtain ⟨rfl, rfl⟩ := hp
        refine W.eq (g2 := F0 m 31 ls []) rfl ?_
        refine lv_iinc (v := y3_11 + 1) (lv' := [(3, .int (y3_11 + 1)), (0, .ref (a (6 + 2 * i))), (1, .ref (a (6 + 2 * j))), (2, .int p1)]) hx hb dX3_becomeColumn_31 hl (k := 0) rfl rfl (by decide) rfl (fun ls hl => ?_)
        refine lv_goto (tgt := 11) hx hb dX3_becomeColumn_34 (by decide) ?_
        exact ih11 (y3_11 + 1) f21 _ _  (gap_step c17 hμ11) hR hB _ hl
  exact lp11 _ 0 f6 _ _  (Nat.lt_succ_self _) hR hB _ hl
noncomputable def D_X3_becomeProduct_40 (i : Nat) (j : Nat) (k : Nat) (r2 : Nat → Int32) (q4 : Nat → Int32) (y3_14 : Int32) (lb25 : Int32 → (Nat → Nat → Int64) → (Nat → Int32) × (Nat → Int32) × (Nat → Nat → Int64)) (y4_25 : Int32) (f_25 : Nat → Nat → Int64) (nn : Nat) : Int32 → Int64 → (Nat → Int32) × (Nat → Int32) × (Nat → Nat → Int64) := @Nat.rec (fun _ => Int32 → Int64 → (Nat → Int32) × (Nat → Int32) × (Nat → Nat → Int64)) (fun _ _ => default) (fun _ lb40 (y7_40 : Int32) (y5_40 : Int64) => (if (r2 (2 * j + 1)) ≤ y7_40 then bnd1 (D_X3_set r2 q4 f_25 i y3_14 y4_25 y5_40) (fun (f338 : Nat → Nat → Int64) => (lb25 (y4_25 + 1) f338)) else bnd1 (D_X3_get r2 q4 f_25 j y3_14 y7_40) (fun (x340 : Int64) => bnd1 (D_X3_get r2 q4 f_25 k y7_40 y4_25) (fun (x342 : Int64) => (lb40 (y7_40 + 1) (y5_40 + (x340 * x342))))))) nn
theorem D_X3_becomeProduct_40_s {i : Nat} {j : Nat} {k : Nat} {r2 : Nat → Int32} {q4 : Nat → Int32} {y3_14 : Int32} {lb25 : Int32 → (Nat → Nat → Int64) → (Nat → Int32) × (Nat → Int32) × (Nat → Nat → Int64)} {y4_25 : Int32} {f_25 : Nat → Nat → Int64} {nn : Nat} {y7_40 : Int32} {y5_40 : Int64} : D_X3_becomeProduct_40 i j k r2 q4 y3_14 lb25 y4_25 f_25 (nn + 1) y7_40 y5_40 = (if (r2 (2 * j + 1)) ≤ y7_40 then bnd1 (D_X3_set r2 q4 f_25 i y3_14 y4_25 y5_40) (fun (f338 : Nat → Nat → Int64) => (lb25 (y4_25 + 1) f338)) else bnd1 (D_X3_get r2 q4 f_25 j y3_14 y7_40) (fun (x340 : Int64) => bnd1 (D_X3_get r2 q4 f_25 k y7_40 y4_25) (fun (x342 : Int64) => ((D_X3_becomeProduct_40 i j k r2 q4 y3_14 lb25 y4_25 f_25 nn) (y7_40 + 1) (y5_40 + (x340 * x342)))))) := rfl
noncomputable def D_X3_becomeProduct_25 (i : Nat) (j : Nat) (k : Nat) (r2 : Nat → Int32) (q4 : Nat → Int32) (lb14 : Int32 → (Nat → Nat → Int64) → (Nat → Int32) × (Nat → Int32) × (Nat → Nat → Int64)) (y3_14 : Int32) (nn : Nat) : Int32 → (Nat → Nat → Int64) → (Nat → Int32) × (Nat → Int32) × (Nat → Nat → Int64) := @Nat.rec (fun _ => Int32 → (Nat → Nat → Int64) → (Nat → Int32) × (Nat → Int32) × (Nat → Nat → Int64)) (fun _ _ => default) (fun _ lb25 (y4_25 : Int32) (f_25 : Nat → Nat → Int64) => (if (r2 (2 * i + 1)) ≤ y4_25 then (lb14 (y3_14 + 1) f_25) else (D_X3_becomeProduct_40 i j k r2 q4 y3_14 lb25 y4_25 f_25 (gap (r2 (2 * j + 1)) 0 + 1) 0 0))) nn
theorem D_X3_becomeProduct_25_s {i : Nat} {j : Nat} {k : Nat} {r2 : Nat → Int32} {q4 : Nat → Int32} {lb14 : Int32 → (Nat → Nat → Int64) → (Nat → Int32) × (Nat → Int32) × (Nat → Nat → Int64)} {y3_14 : Int32} {nn : Nat} {y4_25 : Int32} {f_25 : Nat → Nat → Int64} : D_X3_becomeProduct_25 i j k r2 q4 lb14 y3_14 (nn + 1) y4_25 f_25 = (if (r2 (2 * i + 1)) ≤ y4_25 then (lb14 (y3_14 + 1) f_25) else (D_X3_becomeProduct_40 i j k r2 q4 y3_14 (D_X3_becomeProduct_25 i j k r2 q4 lb14 y3_14 nn) y4_25 f_25 (gap (r2 (2 * j + 1)) 0 + 1) 0 0)) := rfl
noncomputable def D_X3_becomeProduct_14 (i : Nat) (j : Nat) (k : Nat) (r2 : Nat → Int32) (q4 : Nat → Int32) (nn : Nat) : Int32 → (Nat → Nat → Int64) → (Nat → Int32) × (Nat → Int32) × (Nat → Nat → Int64) := @Nat.rec (fun _ => Int32 → (Nat → Nat → Int64) → (Nat → Int32) × (Nat → Int32) × (Nat → Nat → Int64)) (fun _ _ => default) (fun _ lb14 (y3_14 : Int32) (f_14 : Nat → Nat → Int64) => (if (r2 (2 * i)) ≤ y3_14 then (r2, q4, f_14) else (D_X3_becomeProduct_25 i j k r2 q4 lb14 y3_14 (gap (r2 (2 * i + 1)) 0 + 1) 0 f_14))) nn
theorem D_X3_becomeProduct_14_s {i : Nat} {j : Nat} {k : Nat} {r2 : Nat → Int32} {q4 : Nat → Int32} {nn : Nat} {y3_14 : Int32} {f_14 : Nat → Nat → Int64} : D_X3_becomeProduct_14 i j k r2 q4 (nn + 1) y3_14 f_14 = (if (r2 (2 * i)) ≤ y3_14 then (r2, q4, f_14) else (D_X3_becomeProduct_25 i j k r2 q4 (D_X3_becomeProduct_14 i j k r2 q4 nn) y3_14 (gap (r2 (2 * i + 1)) 0 + 1) 0 f_14)) := rfl
noncomputable def D_X3_becomeProduct (r : Nat → Int32) (q : Nat → Int32) (f : Nat → Nat → Int64) (i : Nat) (j : Nat) (k : Nat) : (Nat → Int32) × (Nat → Int32) × (Nat → Nat → Int64) := bnd3 (D_X3_reshape r q f i (r (2 * j)) (r (2 * k + 1))) (fun (r2 : Nat → Int32) (q4 : Nat → Int32) (f6 : Nat → Nat → Int64) => (D_X3_becomeProduct_14 i j k r2 q4 (gap (r2 (2 * i)) 0 + 1) 0 f6))
theorem D_X3_becomeProduct_s {r : Nat → Int32} {q : Nat → Int32} {f : Nat → Nat → Int64} {i : Nat} {j : Nat} {k : Nat} : D_X3_becomeProduct r q f i j k = bnd3 (D_X3_reshape r q f i (r (2 * j)) (r (2 * k + 1))) (fun (r2 : Nat → Int32) (q4 : Nat → Int32) (f6 : Nat → Nat → Int64) => (D_X3_becomeProduct_14 i j k r2 q4 (gap (r2 (2 * i)) 0 + 1) 0 f6)) := rfl
set_option maxHeartbeats 4000000 in
set_option maxRecDepth 100000 in
theorem k_X3_becomeProduct (κ : Kt) (l : Launch) (a : Nat → Nat) (r q : Nat → Int32) (f : Nat → Nat → Int64) (i : Nat) (j : Nat) (k : Nat) (hi : i < 15) (hj : j < 15) (hk : k < 15) (o_r : Nat → Int32) (o_q : Nat → Int32) (o_f : Nat → Nat → Int64) (hR : D_X3_becomeProduct r q f i j k = (o_r, o_q, o_f)) : CM κ l yX3_becomeProduct cX3_becomeProduct 8 (none) 2 44 0 0 [.ref (a (6 + 2 * i)), .ref (a (6 + 2 * j)), .ref (a (6 + 2 * k))] (cw κ a r q f) (fun o w' => o = none ∧ (okr r → okr o_r) ∧ o_q 4 = q 4 ∧ w' = cw κ a o_r o_q o_f) := by
  refine CM_begin (plainFor_of_name pn_RX3) (Nat.le_of_ble_eq_true rfl) ?_
  intro p e s m args below meth c A Q hX hnm hA3 hQ hB ls hl
  have hx := hX.1.1
  have hb := hX.1.2.1
  have hl : lv_has ls 8 [(0, .ref (a (6 + 2 * i))), (1, .ref (a (6 + 2 * j))), (2, .ref (a (6 + 2 * k)))] := hl
  replace hR := (D_X3_becomeProduct_s).symm.trans hR
  refine lv_aload_n hx hb dX3_becomeProduct_0 rfl (lv_at hl 0 rfl) ?_
  refine lv_aload_n hx hb dX3_becomeProduct_1 rfl (lv_at hl 1 rfl) ?_
  refine gf hX hB (cwG (i := j) hj) rfl in3 1 (by decide) wm_1_46 rfl rfl dX3_becomeProduct_2 ?_
  refine lv_aload_n hx hb dX3_becomeProduct_5 rfl (lv_at hl 2 rfl) ?_
  refine gf hX hB (cwG (i := k) hk) rfl in3 2 (by decide) wm_1_52 rfl rfl dX3_becomeProduct_6 ?_
  obtain ⟨r2, q4, f6, hd1⟩ := ex3 (D_X3_reshape r q f i (r (2 * j)) (r (2 * k + 1)))
  replace hR := bnd3_use hd1 hR
  refine call_V (n := 2) (As := [.int (r (2 * j)), .int (r (2 * k + 1))]) (rest := []) hX hB (k_X3_reshape κ l a r q f i (r (2 * j)) (r (2 * k + 1)) hi r2 q4 f6 hd1) ⟨rfl, yk_X3_reshape⟩ wm_1_212 wm_1_213 wm_1_214 wm_1_2 wm_1_215 ⟨Nat.le_of_ble_eq_true rfl, Nat.le_of_ble_eq_true rfl⟩ ⟨Nat.le_of_ble_eq_true rfl, Nat.le_of_ble_eq_true rfl⟩ (cwG (i := i) hi) rfl rfl rfl hl.1 rfl (Nat.le_of_ble_eq_true rfl) dX3_becomeProduct_9 (fun o w' H locs hp hB => ?_)
  obtain ⟨rfl, ho3, hq5, rfl⟩ := hp
  refine W.eq (g2 := F0 m 12 ls []) rfl ?_
  refine lv_iconst (v := 0) hx hb dX3_becomeProduct_12 (by decide) ?_
  refine lv_istore_n (lv' := [(3, .int 0), (0, .ref (a (6 + 2 * i))), (1, .ref (a (6 + 2 * j))), (2, .ref (a (6 + 2 * k)))]) hx hb dX3_becomeProduct_13 rfl hl (by decide) rfl (fun ls hl => ?_)
  have lp14 : ∀ (nn14 : Nat) (y3_14 : Int32) (f_14 : Nat → Nat → Int64) (H : Heap) (locs : List Loc), gap (r2 (2 * i)) y3_14 < nn14 → D_X3_becomeProduct_14 i j k r2 q4 nn14 y3_14 f_14 = (o_r, o_q, o_f) → Bd κ A s (cw κ a r2 q4 f_14) H locs → ∀ ls : Array Slot, lv_has ls 8 [(3, .int y3_14), (0, .ref (a (6 + 2 * i))), (1, .ref (a (6 + 2 * j))), (2, .ref (a (6 + 2 * k)))] → W p l e (Rm 2 44 0 0) s m args below meth c H locs 0 0 Q (F0 m 14 ls []) := by
    intro nn14
    induction nn14 with
    | zero => intro y3_14 f_14 H locs hμ; exact absurd hμ (Nat.not_lt_zero _)
    | succ nn14 ih14 =>
      intro y3_14 f_14 H locs hμ14 hR hB ls hl
      replace hR := (D_X3_becomeProduct_14_s).symm.trans hR
      refine lv_iload_n hx hb dX3_becomeProduct_14 rfl (lv_at hl 0 rfl) ?_
      refine lv_aload_n hx hb dX3_becomeProduct_15 rfl (lv_at hl 1 rfl) ?_
      refine gf hX hB (cwG (i := i) hi) rfl in3 1 (by decide) wm_1_46 rfl rfl dX3_becomeProduct_16 ?_
      refine lv_icmp_ge (tgt := 97) hx hb dX3_becomeProduct_19 (by decide) (fun c231 => ?_) (fun c231 => ?_)
      · replace hR := ifp c231 hR
        rw [← hQ]
        exact end_v hX hB hA3 rfl (by obtain ⟨rfl, rfl, rfl⟩ := pr3 hR; exact ⟨rfl, (fun h => ho3 ((fun h => h) h)), (hq5.trans rfl), rfl⟩) (Nat.le_of_ble_eq_true rfl) (Nat.le_of_ble_eq_true rfl) dX3_becomeProduct_97
      · replace hR := ifn c231 hR
        refine lv_iconst (v := 0) hx hb dX3_becomeProduct_22 (by decide) ?_
        refine lv_istore (lv' := [(4, .int 0), (3, .int y3_14), (0, .ref (a (6 + 2 * i))), (1, .ref (a (6 + 2 * j))), (2, .ref (a (6 + 2 * k)))]) hx hb dX3_becomeProduct_23 hl (by decide) rfl (fun ls hl => ?_)
        have lp25 : ∀ (nn25 : Nat) (y4_25 : Int32) (f_25 : Nat → Nat → Int64) (H : Heap) (locs : List Loc), gap (r2 (2 * i + 1)) y4_25 < nn25 → D_X3_becomeProduct_25 i j k r2 q4 (D_X3_becomeProduct_14 i j k r2 q4 nn14) y3_14 nn25 y4_25 f_25 = (o_r, o_q, o_f) → Bd κ A s (cw κ a r2 q4 f_25) H locs → ∀ ls : Array Slot, lv_has ls 8 [(4, .int y4_25), (3, .int y3_14), (0, .ref (a (6 + 2 * i))), (1, .ref (a (6 + 2 * j))), (2, .ref (a (6 + 2 * k)))] → W p l e (Rm 2 44 0 0) s m args below meth c H locs 0 0 Q (F0 m 25 ls []) := by
          intro nn25
          induction nn25 with
          | zero => intro y4_25 f_25 H locs hμ; exact absurd hμ (Nat.not_lt_zero _)
          | succ nn25 ih25 =>
            intro y4_25 f_25 H locs hμ25 hR hB ls hl
            replace hR := (D_X3_becomeProduct_25_s).symm.trans hR
            refine lv_iload hx hb dX3_becomeProduct_25 (lv_at hl 0 rfl) ?_
            refine lv_aload_n hx hb dX3_becomeProduct_27 rfl (lv_at hl 2 rfl) ?_
            refine gf hX hB (cwG (i := i) hi) rfl in3 2 (by decide) wm_1_52 rfl rfl dX3_becomeProduct_28 ?_
            refine lv_icmp_ge (tgt := 91) hx hb dX3_becomeProduct_31 (by decide) (fun c306 => ?_) (fun c306 => ?_)
            · replace hR := ifp c306 hR
              refine lv_iinc (v := y3_14 + 1) (lv' := [(3, .int (y3_14 + 1)), (4, .int y4_25), (0, .ref (a (6 + 2 * i))), (1, .ref (a (6 + 2 * j))), (2, .ref (a (6 + 2 * k)))]) hx hb dX3_becomeProduct_91 hl (k := 1) rfl rfl (by decide) rfl (fun ls hl => ?_)
              refine lv_goto (tgt := 14) hx hb dX3_becomeProduct_94 (by decide) ?_
              exact ih14 (y3_14 + 1) f_25 _ _  (gap_step c231 hμ14) hR hB _ (lv_sub hl [0, 2, 3, 4] rfl)
            · replace hR := ifn c306 hR
              refine lv_lconst (v := 0) hx hb dX3_becomeProduct_34 (by decide) ?_
              refine lv_lstore (lv' := [(5, .long 0), (4, .int y4_25), (3, .int y3_14), (0, .ref (a (6 + 2 * i))), (1, .ref (a (6 + 2 * j))), (2, .ref (a (6 + 2 * k)))]) hx hb dX3_becomeProduct_35 hl (by decide) rfl (fun ls hl => ?_)
              refine lv_iconst (v := 0) hx hb dX3_becomeProduct_37 (by decide) ?_
              refine lv_istore (lv' := [(7, .int 0), (5, .long 0), (4, .int y4_25), (3, .int y3_14), (0, .ref (a (6 + 2 * i))), (1, .ref (a (6 + 2 * j))), (2, .ref (a (6 + 2 * k)))]) hx hb dX3_becomeProduct_38 hl (by decide) rfl (fun ls hl => ?_)
              have lp40 : ∀ (nn40 : Nat) (y7_40 : Int32) (y5_40 : Int64) (H : Heap) (locs : List Loc), gap (r2 (2 * j + 1)) y7_40 < nn40 → D_X3_becomeProduct_40 i j k r2 q4 y3_14 (D_X3_becomeProduct_25 i j k r2 q4 (D_X3_becomeProduct_14 i j k r2 q4 nn14) y3_14 nn25) y4_25 f_25 nn40 y7_40 y5_40 = (o_r, o_q, o_f) → Bd κ A s (cw κ a r2 q4 f_25) H locs → ∀ ls : Array Slot, lv_has ls 8 [(7, .int y7_40), (5, .long y5_40), (4, .int y4_25), (3, .int y3_14), (0, .ref (a (6 + 2 * i))), (1, .ref (a (6 + 2 * j))), (2, .ref (a (6 + 2 * k)))] → W p l e (Rm 2 44 0 0) s m args below meth c H locs 0 0 Q (F0 m 40 ls []) := by
                intro nn40
                induction nn40 with
                | zero => intro y7_40 y5_40 H locs hμ; exact absurd hμ (Nat.not_lt_zero _)
                | succ nn40 ih40 =>
                  intro y7_40 y5_40 H locs hμ40 hR hB ls hl
                  replace hR := (D_X3_becomeProduct_40_s).symm.trans hR
                  refine lv_iload hx hb dX3_becomeProduct_40 (lv_at hl 0 rfl) ?_
                  refine lv_aload_n hx hb dX3_becomeProduct_42 rfl (lv_at hl 5 rfl) ?_
                  refine gf hX hB (cwG (i := j) hj) rfl in3 2 (by decide) wm_1_52 rfl rfl dX3_becomeProduct_43 ?_
                  refine lv_icmp_ge (tgt := 76) hx hb dX3_becomeProduct_46 (by decide) (fun c336 => ?_) (fun c336 => ?_)
                  · replace hR := ifp c336 hR
                    refine lv_aload_n hx hb dX3_becomeProduct_76 rfl (lv_at hl 4 rfl) ?_
                    refine lv_iload_n hx hb dX3_becomeProduct_77 rfl (lv_at hl 3 rfl) ?_
                    refine lv_iload hx hb dX3_becomeProduct_78 (lv_at hl 2 rfl) ?_
                    refine lv_lload hx hb dX3_becomeProduct_80 (lv_at hl 1 rfl) ?_
                    obtain ⟨f338, hd337⟩ := ex1 (D_X3_set r2 q4 f_25 i y3_14 y4_25 y5_40)
                    replace hR := bnd1_use hd337 hR
                    refine call_V (n := 3) (As := [.int y3_14, .int y4_25, .long y5_40]) (rest := []) hX hB (k_X3_set κ l a r2 q4 f_25 i y3_14 y4_25 y5_40 hi f338 hd337) ⟨rfl, yk_X3_set⟩ wm_1_222 wm_1_223 wm_1_224 wm_1_2 wm_1_225 ⟨Nat.le_of_ble_eq_true rfl, Nat.le_of_ble_eq_true rfl⟩ ⟨Nat.le_of_ble_eq_true rfl, Nat.le_of_ble_eq_true rfl⟩ (cwG (i := i) hi) rfl rfl rfl hl.1 rfl (Nat.le_of_ble_eq_true rfl) dX3_becomeProduct_82 (fun o w' H locs hp hB => ?_)
                    obtain ⟨rfl, rfl⟩ := hp
                    refine W.eq (g2 := F0 m 85 ls []) rfl ?_
                    refine lv_iinc (v := y4_25 + 1) (lv' := [(4, .int (y4_25 + 1)), (7, .int y7_40), (5, .long y5_40), (3, .int y3_14), (0, .ref (a (6 + 2 * i))), (1, .ref (a (6 + 2 * j))), (2, .ref (a (6 + 2 * k)))]) hx hb dX3_becomeProduct_85 hl (k := 2) rfl rfl (by decide) rfl (fun ls hl => ?_)
                    refine lv_goto (tgt := 25) hx hb dX3_becomeProduct_88 (by decide) ?_
                    exact ih25 (y4_25 + 1) f338 _ _  (gap_step c306 hμ25) hR hB _ (lv_sub hl [0, 3, 4, 5, 6] rfl)
                  · replace hR := ifn c336 hR
                    refine lv_lload hx hb dX3_becomeProduct_49 (lv_at hl 1 rfl) ?_
                    refine lv_aload_n hx hb dX3_becomeProduct_51 rfl (lv_at hl 5 rfl) ?_
                    refine lv_iload_n hx hb dX3_becomeProduct_52 rfl (lv_at hl 3 rfl) ?_
                    refine lv_iload hx hb dX3_becomeProduct_53 (lv_at hl 0 rfl) ?_
                    obtain ⟨x340, hd339⟩ := ex1 (D_X3_get r2 q4 f_25 j y3_14 y7_40)
                    replace hR := bnd1_use hd339 hR
                    refine call_V (n := 2) (As := [.int y3_14, .int y7_40]) (rest := [.long y5_40]) hX hB (k_X3_get κ l a r2 q4 f_25 j y3_14 y7_40 hj x340 hd339) ⟨rfl, yk_X3_get⟩ wm_2_7 wm_1_187 wm_1_188 wm_1_2 wm_1_189 ⟨Nat.le_of_ble_eq_true rfl, Nat.le_of_ble_eq_true rfl⟩ ⟨Nat.le_of_ble_eq_true rfl, Nat.le_of_ble_eq_true rfl⟩ (cwG (i := j) hj) rfl rfl rfl hl.1 rfl (Nat.le_of_ble_eq_true rfl) dX3_becomeProduct_55 (fun o w' H locs hp hB => ?_)
                    obtain ⟨rfl, rfl⟩ := hp
                    refine W.eq (g2 := F0 m 58 ls [.long x340, .long y5_40]) rfl ?_
                    refine lv_aload_n hx hb dX3_becomeProduct_58 rfl (lv_at hl 6 rfl) ?_
                    refine lv_iload hx hb dX3_becomeProduct_59 (lv_at hl 0 rfl) ?_
                    refine lv_iload hx hb dX3_becomeProduct_61 (lv_at hl 2 rfl) ?_
                    obtain ⟨x342, hd341⟩ := ex1 (D_X3_get r2 q4 f_25 k y7_40 y4_25)
                    replace hR := bnd1_use hd341 hR
                    refine call_V (n := 2) (As := [.int y7_40, .int y4_25]) (rest := [.long x340, .long y5_40]) hX hB (k_X3_get κ l a r2 q4 f_25 k y7_40 y4_25 hk x342 hd341) ⟨rfl, yk_X3_get⟩ wm_2_7 wm_1_187 wm_1_188 wm_1_2 wm_1_189 ⟨Nat.le_of_ble_eq_true rfl, Nat.le_of_ble_eq_true rfl⟩ ⟨Nat.le_of_ble_eq_true rfl, Nat.le_of_ble_eq_true rfl⟩ (cwG (i := k) hk) rfl rfl rfl hl.1 rfl (Nat.le_of_ble_eq_true rfl) dX3_becomeProduct_63 (fun o w' H locs hp hB => ?_)
                    obtain ⟨rfl, rfl⟩ := hp
                    refine W.eq (g2 := F0 m 66 ls [.long x342, .long x340, .long y5_40]) rfl ?_
                    refine lv_lmul hx hb dX3_becomeProduct_66 ?_
                    refine lv_ladd hx hb dX3_becomeProduct_67 ?_
                    refine lv_lstore (lv' := [(5, .long (y5_40 + (x340 * x342))), (7, .int y7_40), (4, .int y4_25), (3, .int y3_14), (0, .ref (a (6 + 2 * i))), (1, .ref (a (6 + 2 * j))), (2, .ref (a (6 + 2 * k)))]) hx hb dX3_becomeProduct_68 hl (by decide) rfl (fun ls hl => ?_)
                    refine lv_iinc (v := y7_40 + 1) (lv' := [(7, .int (y7_40 + 1)), (5, .long (y5_40 + (x340 * x342))), (4, .int y4_25), (3, .int y3_14), (0, .ref (a (6 + 2 * i))), (1, .ref (a (6 + 2 * j))), (2, .ref (a (6 + 2 * k)))]) hx hb dX3_becomeProduct_70 hl (k := 1) rfl rfl (by decide) rfl (fun ls hl => ?_)
                    refine lv_goto (tgt := 40) hx hb dX3_becomeProduct_73 (by decide) ?_
                    exact ih40 (y7_40 + 1) (y5_40 + (x340 * x342)) _ _  (gap_step c336 hμ40) hR hB _ hl
              exact lp40 _ 0 0 _ _  (Nat.lt_succ_self _) hR hB _ hl
        exact lp25 _ 0 f_14 _ _  (Nat.lt_succ_self _) hR hB _ hl
  exact lp14 _ 0 f6 _ _  (Nat.lt_succ_self _) hR hB _ hl
noncomputable def D_X3_exchangeLines_j48 (r : Nat → Int32) (q : Nat → Int32) (i : Nat) (p0 : Int32) (p1 : Int32) (p2 : Int32) (lb20 : Int32 → (Nat → Nat → Int64) → (Nat → Nat → Int64)) (y5_20 : Int32) (f_20 : Nat → Nat → Int64) (z0_48 : Int64) : (Nat → Nat → Int64) := (if p0 = 0 then bnd1 (D_X3_get r q f_20 i p2 y5_20) (fun (x58 : Int64) => bnd1 (D_X3_set r q f_20 i p1 y5_20 x58) (fun (f60 : Nat → Nat → Int64) => bnd1 (D_X3_set r q f60 i p2 y5_20 z0_48) (fun (f62 : Nat → Nat → Int64) => (lb20 (y5_20 + 1) f62)))) else bnd1 (D_X3_get r q f_20 i y5_20 p2) (fun (x64 : Int64) => bnd1 (D_X3_set r q f_20 i y5_20 p1 x64) (fun (f66 : Nat → Nat → Int64) => bnd1 (D_X3_set r q f66 i y5_20 p2 z0_48) (fun (f68 : Nat → Nat → Int64) => (lb20 (y5_20 + 1) f68)))))
theorem D_X3_exchangeLines_j48_s {r : Nat → Int32} {q : Nat → Int32} {i : Nat} {p0 : Int32} {p1 : Int32} {p2 : Int32} {lb20 : Int32 → (Nat → Nat → Int64) → (Nat → Nat → Int64)} {y5_20 : Int32} {f_20 : Nat → Nat → Int64} {z0_48 : Int64} : D_X3_exchangeLines_j48 r q i p0 p1 p2 lb20 y5_20 f_20 z0_48 = (if p0 = 0 then bnd1 (D_X3_get r q f_20 i p2 y5_20) (fun (x58 : Int64) => bnd1 (D_X3_set r q f_20 i p1 y5_20 x58) (fun (f60 : Nat → Nat → Int64) => bnd1 (D_X3_set r q f60 i p2 y5_20 z0_48) (fun (f62 : Nat → Nat → Int64) => (lb20 (y5_20 + 1) f62)))) else bnd1 (D_X3_get r q f_20 i y5_20 p2) (fun (x64 : Int64) => bnd1 (D_X3_set r q f_20 i y5_20 p1 x64) (fun (f66 : Nat → Nat → Int64) => bnd1 (D_X3_set r q f66 i y5_20 p2 z0_48) (fun (f68 : Nat → Nat → Int64) => (lb20 (y5_20 + 1) f68))))) := rfl
noncomputable def D_X3_exchangeLines_20 (r : Nat → Int32) (q : Nat → Int32) (i : Nat) (p0 : Int32) (p1 : Int32) (p2 : Int32) (nn : Nat) : Int32 → (Nat → Nat → Int64) → (Nat → Nat → Int64) := @Nat.rec (fun _ => Int32 → (Nat → Nat → Int64) → (Nat → Nat → Int64)) (fun _ _ => default) (fun _ lb20 (y5_20 : Int32) (f_20 : Nat → Nat → Int64) => (if (r (2 * i + 1)) ≤ y5_20 then f_20 else (if p0 = 0 then bnd1 (D_X3_get r q f_20 i p1 y5_20) (fun (x71 : Int64) => (D_X3_exchangeLines_j48 r q i p0 p1 p2 lb20 y5_20 f_20 x71)) else bnd1 (D_X3_get r q f_20 i y5_20 p1) (fun (x73 : Int64) => (D_X3_exchangeLines_j48 r q i p0 p1 p2 lb20 y5_20 f_20 x73))))) nn
theorem D_X3_exchangeLines_20_s {r : Nat → Int32} {q : Nat → Int32} {i : Nat} {p0 : Int32} {p1 : Int32} {p2 : Int32} {nn : Nat} {y5_20 : Int32} {f_20 : Nat → Nat → Int64} : D_X3_exchangeLines_20 r q i p0 p1 p2 (nn + 1) y5_20 f_20 = (if (r (2 * i + 1)) ≤ y5_20 then f_20 else (if p0 = 0 then bnd1 (D_X3_get r q f_20 i p1 y5_20) (fun (x71 : Int64) => (D_X3_exchangeLines_j48 r q i p0 p1 p2 (D_X3_exchangeLines_20 r q i p0 p1 p2 nn) y5_20 f_20 x71)) else bnd1 (D_X3_get r q f_20 i y5_20 p1) (fun (x73 : Int64) => (D_X3_exchangeLines_j48 r q i p0 p1 p2 (D_X3_exchangeLines_20 r q i p0 p1 p2 nn) y5_20 f_20 x73)))) := rfl
noncomputable def D_X3_exchangeLines_j48_1 (r : Nat → Int32) (q : Nat → Int32) (i : Nat) (p0 : Int32) (p1 : Int32) (p2 : Int32) (y5_20 : Int32) (f_20 : Nat → Nat → Int64) (lb20 : Int32 → (Nat → Nat → Int64) → (Nat → Nat → Int64)) (z0_48 : Int64) : (Nat → Nat → Int64) := (if p0 = 0 then bnd1 (D_X3_get r q f_20 i p2 y5_20) (fun (x130 : Int64) => bnd1 (D_X3_set r q f_20 i p1 y5_20 x130) (fun (f132 : Nat → Nat → Int64) => bnd1 (D_X3_set r q f132 i p2 y5_20 z0_48) (fun (f134 : Nat → Nat → Int64) => (lb20 (y5_20 + 1) f134)))) else bnd1 (D_X3_get r q f_20 i y5_20 p2) (fun (x136 : Int64) => bnd1 (D_X3_set r q f_20 i y5_20 p1 x136) (fun (f138 : Nat → Nat → Int64) => bnd1 (D_X3_set r q f138 i y5_20 p2 z0_48) (fun (f140 : Nat → Nat → Int64) => (lb20 (y5_20 + 1) f140)))))
theorem D_X3_exchangeLines_j48_1_s {r : Nat → Int32} {q : Nat → Int32} {i : Nat} {p0 : Int32} {p1 : Int32} {p2 : Int32} {y5_20 : Int32} {f_20 : Nat → Nat → Int64} {lb20 : Int32 → (Nat → Nat → Int64) → (Nat → Nat → Int64)} {z0_48 : Int64} : D_X3_exchangeLines_j48_1 r q i p0 p1 p2 y5_20 f_20 lb20 z0_48 = (if p0 = 0 then bnd1 (D_X3_get r q f_20 i p2 y5_20) (fun (x130 : Int64) => bnd1 (D_X3_set r q f_20 i p1 y5_20 x130) (fun (f132 : Nat → Nat → Int64) => bnd1 (D_X3_set r q f132 i p2 y5_20 z0_48) (fun (f134 : Nat → Nat → Int64) => (lb20 (y5_20 + 1) f134)))) else bnd1 (D_X3_get r q f_20 i y5_20 p2) (fun (x136 : Int64) => bnd1 (D_X3_set r q f_20 i y5_20 p1 x136) (fun (f138 : Nat → Nat → Int64) => bnd1 (D_X3_set r q f138 i y5_20 p2 z0_48) (fun (f140 : Nat → Nat → Int64) => (lb20 (y5_20 + 1) f140))))) := rfl
noncomputable def D_X3_exchangeLines_20_1 (r : Nat → Int32) (q : Nat → Int32) (i : Nat) (p0 : Int32) (p1 : Int32) (p2 : Int32) (nn : Nat) : Int32 → (Nat → Nat → Int64) → (Nat → Nat → Int64) := @Nat.rec (fun _ => Int32 → (Nat → Nat → Int64) → (Nat → Nat → Int64)) (fun _ _ => default) (fun _ lb20 (y5_20 : Int32) (f_20 : Nat → Nat → Int64) => (if (r (2 * i)) ≤ y5_20 then f_20 else (if p0 = 0 then bnd1 (D_X3_get r q f_20 i p1 y5_20) (fun (x143 : Int64) => (D_X3_exchangeLines_j48_1 r q i p0 p1 p2 y5_20 f_20 lb20 x143)) else bnd1 (D_X3_get r q f_20 i y5_20 p1) (fun (x145 : Int64) => (D_X3_exchangeLines_j48_1 r q i p0 p1 p2 y5_20 f_20 lb20 x145))))) nn
theorem D_X3_exchangeLines_20_1_s {r : Nat → Int32} {q : Nat → Int32} {i : Nat} {p0 : Int32} {p1 : Int32} {p2 : Int32} {nn : Nat} {y5_20 : Int32} {f_20 : Nat → Nat → Int64} : D_X3_exchangeLines_20_1 r q i p0 p1 p2 (nn + 1) y5_20 f_20 = (if (r (2 * i)) ≤ y5_20 then f_20 else (if p0 = 0 then bnd1 (D_X3_get r q f_20 i p1 y5_20) (fun (x143 : Int64) => (D_X3_exchangeLines_j48_1 r q i p0 p1 p2 y5_20 f_20 (D_X3_exchangeLines_20_1 r q i p0 p1 p2 nn) x143)) else bnd1 (D_X3_get r q f_20 i y5_20 p1) (fun (x145 : Int64) => (D_X3_exchangeLines_j48_1 r q i p0 p1 p2 y5_20 f_20 (D_X3_exchangeLines_20_1 r q i p0 p1 p2 nn) x145)))) := rfl
noncomputable def D_X3_exchangeLines (r : Nat → Int32) (q : Nat → Int32) (f : Nat → Nat → Int64) (i : Nat) (p0 : Int32) (p1 : Int32) (p2 : Int32) : (Nat → Nat → Int64) := (if p0 = 0 then (D_X3_exchangeLines_20 r q i p0 p1 p2 (gap (r (2 * i + 1)) 0 + 1) 0 f) else (D_X3_exchangeLines_20_1 r q i p0 p1 p2 (gap (r (2 * i)) 0 + 1) 0 f))
theorem D_X3_exchangeLines_s {r : Nat → Int32} {q : Nat → Int32} {f : Nat → Nat → Int64} {i : Nat} {p0 : Int32} {p1 : Int32} {p2 : Int32} : D_X3_exchangeLines r q f i p0 p1 p2 = (if p0 = 0 then (D_X3_exchangeLines_20 r q i p0 p1 p2 (gap (r (2 * i + 1)) 0 + 1) 0 f) else (D_X3_exchangeLines_20_1 r q i p0 p1 p2 (gap (r (2 * i)) 0 + 1) 0 f)) := rfl
set_option maxHeartbeats 4000000 in
set_option maxRecDepth 100000 in
theorem k_X3_exchangeLines (κ : Kt) (l : Launch) (a : Nat → Nat) (r q : Nat → Int32) (f : Nat → Nat → Int64) (i : Nat) (p0 : Int32) (p1 : Int32) (p2 : Int32) (hi : i < 15) (o_f : Nat → Nat → Int64) (hR : D_X3_exchangeLines r q f i p0 p1 p2 = o_f) : CM κ l yX3_exchangeLines cX3_exchangeLines 8 (none) 1 24 0 0 [.ref (a (6 + 2 * i)), .int p0, .int p1, .int p2] (cw κ a r q f) (fun o w' => o = none ∧ w' = cw κ a r q o_f) := by
  refine CM_begin (plainFor_of_name pn_RX3) (Nat.le_of_ble_eq_true rfl) ?_
  intro p e s m args below meth c A Q hX hnm hA3 hQ hB ls hl
  have hx := hX.1.1
  have hb := hX.1.2.1
  have hl : lv_has ls 8 [(0, .ref (a (6 + 2 * i))), (1, .int p0), (2, .int p1), (3, .int p2)] := hl
  replace hR := (D_X3_exchangeLines_s).symm.trans hR
  refine lv_iload_n hx hb dX3_exchangeLines_0 rfl (lv_at hl 1 rfl) ?_
  refine lv_if_eq (tgt := 11) hx hb dX3_exchangeLines_1 (by decide) (fun c1 => ?_) (fun c1 => ?_)
  · replace hR := ifp c1 hR
    refine lv_aload_n hx hb dX3_exchangeLines_11 rfl (lv_at hl 0 rfl) ?_
    refine gf hX hB (cwG (i := i) hi) rfl in3 2 (by decide) wm_1_52 rfl rfl dX3_exchangeLines_12 ?_
    refine lv_istore (lv' := [(4, .int (r (2 * i + 1))), (0, .ref (a (6 + 2 * i))), (1, .int p0), (2, .int p1), (3, .int p2)]) hx hb dX3_exchangeLines_15 hl (by decide) rfl (fun ls hl => ?_)
    refine lv_iconst (v := 0) hx hb dX3_exchangeLines_17 (by decide) ?_
    refine lv_istore (lv' := [(5, .int 0), (4, .int (r (2 * i + 1))), (0, .ref (a (6 + 2 * i))), (1, .int p0), (2, .int p1), (3, .int p2)]) hx hb dX3_exchangeLines_18 hl (by decide) rfl (fun ls hl => ?_)
    have lp20 : ∀ (nn20 : Nat) (y5_20 : Int32) (f_20 : Nat → Nat → Int64) (H : Heap) (locs : List Loc), gap (r (2 * i + 1)) y5_20 < nn20 → D_X3_exchangeLines_20 r q i p0 p1 p2 nn20 y5_20 f_20 = o_f → Bd κ A s (cw κ a r q f_20) H locs → ∀ ls : Array Slot, lv_has ls 8 [(5, .int y5_20), (4, .int (r (2 * i + 1))), (0, .ref (a (6 + 2 * i))), (1, .int p0), (2, .int p1), (3, .int p2)] → W p l e (Rm 1 24 0 0) s m args below meth c H locs 0 0 Q (F0 m 20 ls []) := by
      intro nn20
      induction nn20 with
      | zero => intro y5_20 f_20 H locs hμ; exact absurd hμ (Nat.not_lt_zero _)
      | succ nn20 ih20 =>
        intro y5_20 f_20 H locs hμ20 hR hB ls hl
        replace hR := (D_X3_exchangeLines_20_s).symm.trans hR
        refine lv_iload hx hb dX3_exchangeLines_20 (lv_at hl 0 rfl) ?_
        refine lv_iload hx hb dX3_exchangeLines_22 (lv_at hl 1 rfl) ?_
        refine lv_icmp_ge (tgt := 109) hx hb dX3_exchangeLines_24 (by decide) (fun c50 => ?_) (fun c50 => ?_)
        · replace hR := ifp c50 hR
          rw [← hQ]
          exact end_v hX hB hA3 rfl (by obtain rfl := hR; exact ⟨rfl, rfl⟩) (Nat.le_of_ble_eq_true rfl) (Nat.le_of_ble_eq_true rfl) dX3_exchangeLines_109
        · replace hR := ifn c50 hR
          refine lv_iload_n hx hb dX3_exchangeLines_27 rfl (lv_at hl 3 rfl) ?_
          have jn48 : ∀ (z0_48 : Int64) (H : Heap) (locs : List Loc), D_X3_exchangeLines_j48 r q i p0 p1 p2 (D_X3_exchangeLines_20 r q i p0 p1 p2 nn20) y5_20 f_20 z0_48 = o_f → Bd κ A s (cw κ a r q f_20) H locs → ∀ ls : Array Slot, lv_has ls 8 [(5, .int y5_20), (4, .int (r (2 * i + 1))), (0, .ref (a (6 + 2 * i))), (1, .int p0), (2, .int p1), (3, .int p2)] → W p l e (Rm 1 24 0 0) s m args below meth c H locs 0 0 Q (F0 m 48 ls [.long z0_48]) := by
            intro z0_48 H locs hR hB ls hl
            replace hR := (D_X3_exchangeLines_j48_s).symm.trans hR
            refine lv_lstore (lv' := [(6, .long z0_48), (5, .int y5_20), (4, .int (r (2 * i + 1))), (0, .ref (a (6 + 2 * i))), (1, .int p0), (2, .int p1), (3, .int p2)]) hx hb dX3_exchangeLines_48 hl (by decide) rfl (fun ls hl => ?_)
            refine lv_iload_n hx hb dX3_exchangeLines_50 rfl (lv_at hl 4 rfl) ?_
            refine lv_if_eq (tgt := 80) hx hb dX3_exchangeLines_51 (by decide) (fun c56 => ?_) (fun c56 => ?_)
            · replace hR := ifp c56 hR
              refine lv_aload_n hx hb dX3_exchangeLines_80 rfl (lv_at hl 3 rfl) ?_
              refine lv_iload_n hx hb dX3_exchangeLines_81 rfl (lv_at hl 5 rfl) ?_
              refine lv_iload hx hb dX3_exchangeLines_82 (lv_at hl 1 rfl) ?_
              refine lv_aload_n hx hb dX3_exchangeLines_84 rfl (lv_at hl 3 rfl) ?_
              refine lv_iload_n hx hb dX3_exchangeLines_85 rfl (lv_at hl 6 rfl) ?_
              refine lv_iload hx hb dX3_exchangeLines_86 (lv_at hl 1 rfl) ?_
              obtain ⟨x58, hd57⟩ := ex1 (D_X3_get r q f_20 i p2 y5_20)
              replace hR := bnd1_use hd57 hR
              refine call_V (n := 2) (As := [.int p2, .int y5_20]) (rest := [.int y5_20, .int p1, .ref (a (6 + 2 * i))]) hX hB (k_X3_get κ l a r q f_20 i p2 y5_20 hi x58 hd57) ⟨rfl, yk_X3_get⟩ wm_2_7 wm_1_187 wm_1_188 wm_1_2 wm_1_189 ⟨Nat.le_of_ble_eq_true rfl, Nat.le_of_ble_eq_true rfl⟩ ⟨Nat.le_of_ble_eq_true rfl, Nat.le_of_ble_eq_true rfl⟩ (cwG (i := i) hi) rfl rfl rfl hl.1 rfl (Nat.le_of_ble_eq_true rfl) dX3_exchangeLines_88 (fun o w' H locs hp hB => ?_)
              obtain ⟨rfl, rfl⟩ := hp
              refine W.eq (g2 := F0 m 91 ls [.long x58, .int y5_20, .int p1, .ref (a (6 + 2 * i))]) rfl ?_
              obtain ⟨f60, hd59⟩ := ex1 (D_X3_set r q f_20 i p1 y5_20 x58)
              replace hR := bnd1_use hd59 hR
              refine call_V (n := 3) (As := [.int p1, .int y5_20, .long x58]) (rest := []) hX hB (k_X3_set κ l a r q f_20 i p1 y5_20 x58 hi f60 hd59) ⟨rfl, yk_X3_set⟩ wm_1_222 wm_1_223 wm_1_224 wm_1_2 wm_1_225 ⟨Nat.le_of_ble_eq_true rfl, Nat.le_of_ble_eq_true rfl⟩ ⟨Nat.le_of_ble_eq_true rfl, Nat.le_of_ble_eq_true rfl⟩ (cwG (i := i) hi) rfl rfl rfl hl.1 rfl (Nat.le_of_ble_eq_true rfl) dX3_exchangeLines_91 (fun o w' H locs hp hB => ?_)
              obtain ⟨rfl, rfl⟩ := hp
              refine W.eq (g2 := F0 m 94 ls []) rfl ?_
              refine lv_aload_n hx hb dX3_exchangeLines_94 rfl (lv_at hl 3 rfl) ?_
              refine lv_iload_n hx hb dX3_exchangeLines_95 rfl (lv_at hl 6 rfl) ?_
              refine lv_iload hx hb dX3_exchangeLines_96 (lv_at hl 1 rfl) ?_
              refine lv_lload hx hb dX3_exchangeLines_98 (lv_at hl 0 rfl) ?_
              obtain ⟨f62, hd61⟩ := ex1 (D_X3_set r q f60 i p2 y5_20 z0_48)
              replace hR := bnd1_use hd61 hR
              refine call_V (n := 3) (As := [.int p2, .int y5_20, .long z0_48]) (rest := []) hX hB (k_X3_set κ l a r q f60 i p2 y5_20 z0_48 hi f62 hd61) ⟨rfl, yk_X3_set⟩ wm_1_222 wm_1_223 wm_1_224 wm_1_2 wm_1_225 ⟨Nat.le_of_ble_eq_true rfl, Nat.le_of_ble_eq_true rfl⟩ ⟨Nat.le_of_ble_eq_true rfl, Nat.le_of_ble_eq_true rfl⟩ (cwG (i := i) hi) rfl rfl rfl hl.1 rfl (Nat.le_of_ble_eq_true rfl) dX3_exchangeLines_100 (fun o w' H locs hp hB => ?_)
              obtain ⟨rfl, rfl⟩ := hp
              refine W.eq (g2 := F0 m 103 ls []) rfl ?_
              refine lv_iinc (v := y5_20 + 1) (lv' := [(5, .int (y5_20 + 1)), (6, .long z0_48), (4, .int (r (2 * i + 1))), (0, .ref (a (6 + 2 * i))), (1, .int p0), (2, .int p1), (3, .int p2)]) hx hb dX3_exchangeLines_103 hl (k := 1) rfl rfl (by decide) rfl (fun ls hl => ?_)
              refine lv_goto (tgt := 20) hx hb dX3_exchangeLines_106 (by decide) ?_
              exact ih20 (y5_20 + 1) f62 _ _  (gap_step c50 hμ20) hR hB _ (lv_sub hl [0, 2, 3, 4, 5, 6] rfl)
            · replace hR := ifn c56 hR
              refine lv_aload_n hx hb dX3_exchangeLines_54 rfl (lv_at hl 3 rfl) ?_
              refine lv_iload hx hb dX3_exchangeLines_55 (lv_at hl 1 rfl) ?_
              refine lv_iload_n hx hb dX3_exchangeLines_57 rfl (lv_at hl 5 rfl) ?_
              refine lv_aload_n hx hb dX3_exchangeLines_58 rfl (lv_at hl 3 rfl) ?_
              refine lv_iload hx hb dX3_exchangeLines_59 (lv_at hl 1 rfl) ?_
              refine lv_iload_n hx hb dX3_exchangeLines_61 rfl (lv_at hl 6 rfl) ?_
              obtain ⟨x64, hd63⟩ := ex1 (D_X3_get r q f_20 i y5_20 p2)
              replace hR := bnd1_use hd63 hR
              refine call_V (n := 2) (As := [.int y5_20, .int p2]) (rest := [.int p1, .int y5_20, .ref (a (6 + 2 * i))]) hX hB (k_X3_get κ l a r q f_20 i y5_20 p2 hi x64 hd63) ⟨rfl, yk_X3_get⟩ wm_2_7 wm_1_187 wm_1_188 wm_1_2 wm_1_189 ⟨Nat.le_of_ble_eq_true rfl, Nat.le_of_ble_eq_true rfl⟩ ⟨Nat.le_of_ble_eq_true rfl, Nat.le_of_ble_eq_true rfl⟩ (cwG (i := i) hi) rfl rfl rfl hl.1 rfl (Nat.le_of_ble_eq_true rfl) dX3_exchangeLines_62 (fun o w' H locs hp hB => ?_)
              obtain ⟨rfl, rfl⟩ := hp
              refine W.eq (g2 := F0 m 65 ls [.long x64, .int p1, .int y5_20, .ref (a (6 + 2 * i))]) rfl ?_
              obtain ⟨f66, hd65⟩ := ex1 (D_X3_set r q f_20 i y5_20 p1 x64)
              replace hR := bnd1_use hd65 hR
              refine call_V (n := 3) (As := [.int y5_20, .int p1, .long x64]) (rest := []) hX hB (k_X3_set κ l a r q f_20 i y5_20 p1 x64 hi f66 hd65) ⟨rfl, yk_X3_set⟩ wm_1_222 wm_1_223 wm_1_224 wm_1_2 wm_1_225 ⟨Nat.le_of_ble_eq_true rfl, Nat.le_of_ble_eq_true rfl⟩ ⟨Nat.le_of_ble_eq_true rfl, Nat.le_of_ble_eq_true rfl⟩ (cwG (i := i) hi) rfl rfl rfl hl.1 rfl (Nat.le_of_ble_eq_true rfl) dX3_exchangeLines_65 (fun o w' H locs hp hB => ?_)
              obtain ⟨rfl, rfl⟩ := hp
              refine W.eq (g2 := F0 m 68 ls []) rfl ?_
              refine lv_aload_n hx hb dX3_exchangeLines_68 rfl (lv_at hl 3 rfl) ?_
              refine lv_iload hx hb dX3_exchangeLines_69 (lv_at hl 1 rfl) ?_
              refine lv_iload_n hx hb dX3_exchangeLines_71 rfl (lv_at hl 6 rfl) ?_
              refine lv_lload hx hb dX3_exchangeLines_72 (lv_at hl 0 rfl) ?_
              obtain ⟨f68, hd67⟩ := ex1 (D_X3_set r q f66 i y5_20 p2 z0_48)
              replace hR := bnd1_use hd67 hR
              refine call_V (n := 3) (As := [.int y5_20, .int p2, .long z0_48]) (rest := []) hX hB (k_X3_set κ l a r q f66 i y5_20 p2 z0_48 hi f68 hd67) ⟨rfl, yk_X3_set⟩ wm_1_222 wm_1_223 wm_1_224 wm_1_2 wm_1_225 ⟨Nat.le_of_ble_eq_true rfl, Nat.le_of_ble_eq_true rfl⟩ ⟨Nat.le_of_ble_eq_true rfl, Nat.le_of_ble_eq_true rfl⟩ (cwG (i := i) hi) rfl rfl rfl hl.1 rfl (Nat.le_of_ble_eq_true rfl) dX3_exchangeLines_74 (fun o w' H locs hp hB => ?_)
              obtain ⟨rfl, rfl⟩ := hp
              refine W.eq (g2 := F0 m 77 ls []) rfl ?_
              refine lv_goto (tgt := 103) hx hb dX3_exchangeLines_77 (by decide) ?_
              refine lv_iinc (v := y5_20 + 1) (lv' := [(5, .int (y5_20 + 1)), (6, .long z0_48), (4, .int (r (2 * i + 1))), (0, .ref (a (6 + 2 * i))), (1, .int p0), (2, .int p1), (3, .int p2)]) hx hb dX3_exchangeLines_103 hl (k := 1) rfl rfl (by decide) rfl (fun ls hl => ?_)
              refine lv_goto (tgt := 20) hx hb dX3_exchangeLines_106 (by decide) ?_
              exact ih20 (y5_20 + 1) f68 _ _  (gap_step c50 hμ20) hR hB _ (lv_sub hl [0, 2, 3, 4, 5, 6] rfl)
          refine lv_if_eq (tgt := 41) hx hb dX3_exchangeLines_28 (by decide) (fun c69 => ?_) (fun c69 => ?_)
          · replace hR := ifp c69 hR
            refine lv_aload_n hx hb dX3_exchangeLines_41 rfl (lv_at hl 2 rfl) ?_
            refine lv_iload_n hx hb dX3_exchangeLines_42 rfl (lv_at hl 4 rfl) ?_
            refine lv_iload hx hb dX3_exchangeLines_43 (lv_at hl 0 rfl) ?_
            obtain ⟨x71, hd70⟩ := ex1 (D_X3_get r q f_20 i p1 y5_20)
            replace hR := bnd1_use hd70 hR
            refine call_V (n := 2) (As := [.int p1, .int y5_20]) (rest := []) hX hB (k_X3_get κ l a r q f_20 i p1 y5_20 hi x71 hd70) ⟨rfl, yk_X3_get⟩ wm_2_7 wm_1_187 wm_1_188 wm_1_2 wm_1_189 ⟨Nat.le_of_ble_eq_true rfl, Nat.le_of_ble_eq_true rfl⟩ ⟨Nat.le_of_ble_eq_true rfl, Nat.le_of_ble_eq_true rfl⟩ (cwG (i := i) hi) rfl rfl rfl hl.1 rfl (Nat.le_of_ble_eq_true rfl) dX3_exchangeLines_45 (fun o w' H locs hp hB => ?_)
            obtain ⟨rfl, rfl⟩ := hp
            refine W.eq (g2 := F0 m 48 ls [.long x71]) rfl ?_
            exact jn48 x71 _ _  hR hB _ hl
          · replace hR := ifn c69 hR
            refine lv_aload_n hx hb dX3_exchangeLines_31 rfl (lv_at hl 2 rfl) ?_
            refine lv_iload hx hb dX3_exchangeLines_32 (lv_at hl 0 rfl) ?_
            refine lv_iload_n hx hb dX3_exchangeLines_34 rfl (lv_at hl 4 rfl) ?_
            obtain ⟨x73, hd72⟩ := ex1 (D_X3_get r q f_20 i y5_20 p1)
            replace hR := bnd1_use hd72 hR
            refine call_V (n := 2) (As := [.int y5_20, .int p1]) (rest := []) hX hB (k_X3_get κ l a r q f_20 i y5_20 p1 hi x73 hd72) ⟨rfl, yk_X3_get⟩ wm_2_7 wm_1_187 wm_1_188 wm_1_2 wm_1_189 ⟨Nat.le_of_ble_eq_true rfl, Nat.le_of_ble_eq_true rfl⟩ ⟨Nat.le_of_ble_eq_true rfl, Nat.le_of_ble_eq_true rfl⟩ (cwG (i := i) hi) rfl rfl rfl hl.1 rfl (Nat.le_of_ble_eq_true rfl) dX3_exchangeLines_35 (fun o w' H locs hp hB => ?_)
            obtain ⟨rfl, rfl⟩ := hp
            refine W.eq (g2 := F0 m 38 ls [.long x73]) rfl ?_
            refine lv_goto (tgt := 48) hx hb dX3_exchangeLines_38 (by decide) ?_
            exact jn48 x73 _ _  hR hB _ hl
    exact lp20 _ 0 f _ _  (Nat.lt_succ_self _) hR hB _ hl
  · replace hR := ifn c1 hR
    refine lv_aload_n hx hb dX3_exchangeLines_4 rfl (lv_at hl 0 rfl) ?_
    refine gf hX hB (cwG (i := i) hi) rfl in3 1 (by decide) wm_1_46 rfl rfl dX3_exchangeLines_5 ?_
    refine lv_goto (tgt := 15) hx hb dX3_exchangeLines_8 (by decide) ?_
    refine lv_istore (lv' := [(4, .int (r (2 * i))), (0, .ref (a (6 + 2 * i))), (1, .int p0), (2, .int p1), (3, .int p2)]) hx hb dX3_exchangeLines_15 hl (by decide) rfl (fun ls hl => ?_)
    refine lv_iconst (v := 0) hx hb dX3_exchangeLines_17 (by decide) ?_
    refine lv_istore (lv' := [(5, .int 0), (4, .int (r (2 * i))), (0, .ref (a (6 + 2 * i))), (1, .int p0), (2, .int p1), (3, .int p2)]) hx hb dX3_exchangeLines_18 hl (by decide) rfl (fun ls hl => ?_)
    have lp20 : ∀ (nn20 : Nat) (y5_20 : Int32) (f_20 : Nat → Nat → Int64) (H : Heap) (locs : List Loc), gap (r (2 * i)) y5_20 < nn20 → D_X3_exchangeLines_20_1 r q i p0 p1 p2 nn20 y5_20 f_20 = o_f → Bd κ A s (cw κ a r q f_20) H locs → ∀ ls : Array Slot, lv_has ls 8 [(5, .int y5_20), (4, .int (r (2 * i))), (0, .ref (a (6 + 2 * i))), (1, .int p0), (2, .int p1), (3, .int p2)] → W p l e (Rm 1 24 0 0) s m args below meth c H locs 0 0 Q (F0 m 20 ls []) := by
      intro nn20
      induction nn20 with
      | zero => intro y5_20 f_20 H locs hμ; exact absurd hμ (Nat.not_lt_zero _)
      | succ nn20 ih20 =>
        intro y5_20 f_20 H locs hμ20 hR hB ls hl
        replace hR := (D_X3_exchangeLines_20_1_s).symm.trans hR
        refine lv_iload hx hb dX3_exchangeLines_20 (lv_at hl 0 rfl) ?_
        refine lv_iload hx hb dX3_exchangeLines_22 (lv_at hl 1 rfl) ?_
        refine lv_icmp_ge (tgt := 109) hx hb dX3_exchangeLines_24 (by decide) (fun c122 => ?_) (fun c122 => ?_)
        · replace hR := ifp c122 hR
          rw [← hQ]
          exact end_v hX hB hA3 rfl (by obtain rfl := hR; exact ⟨rfl, rfl⟩) (Nat.le_of_ble_eq_true rfl) (Nat.le_of_ble_eq_true rfl) dX3_exchangeLines_109
        · replace hR := ifn c122 hR
          refine lv_iload_n hx hb dX3_exchangeLines_27 rfl (lv_at hl 3 rfl) ?_
          have jn48 : ∀ (z0_48 : Int64) (H : Heap) (locs : List Loc), D_X3_exchangeLines_j48_1 r q i p0 p1 p2 y5_20 f_20 (D_X3_exchangeLines_20_1 r q i p0 p1 p2 nn20) z0_48 = o_f → Bd κ A s (cw κ a r q f_20) H locs → ∀ ls : Array Slot, lv_has ls 8 [(5, .int y5_20), (4, .int (r (2 * i))), (0, .ref (a (6 + 2 * i))), (1, .int p0), (2, .int p1), (3, .int p2)] → W p l e (Rm 1 24 0 0) s m args below meth c H locs 0 0 Q (F0 m 48 ls [.long z0_48]) := by
            intro z0_48 H locs hR hB ls hl
            replace hR := (D_X3_exchangeLines_j48_1_s).symm.trans hR
            refine lv_lstore (lv' := [(6, .long z0_48), (5, .int y5_20), (4, .int (r (2 * i))), (0, .ref (a (6 + 2 * i))), (1, .int p0), (2, .int p1), (3, .int p2)]) hx hb dX3_exchangeLines_48 hl (by decide) rfl (fun ls hl => ?_)
            refine lv_iload_n hx hb dX3_exchangeLines_50 rfl (lv_at hl 4 rfl) ?_
            refine lv_if_eq (tgt := 80) hx hb dX3_exchangeLines_51 (by decide) (fun c128 => ?_) (fun c128 => ?_)
            · replace hR := ifp c128 hR
              refine lv_aload_n hx hb dX3_exchangeLines_80 rfl (lv_at hl 3 rfl) ?_
              refine lv_iload_n hx hb dX3_exchangeLines_81 rfl (lv_at hl 5 rfl) ?_
              refine lv_iload hx hb dX3_exchangeLines_82 (lv_at hl 1 rfl) ?_
              refine lv_aload_n hx hb dX3_exchangeLines_84 rfl (lv_at hl 3 rfl) ?_
              refine lv_iload_n hx hb dX3_exchangeLines_85 rfl (lv_at hl 6 rfl) ?_
              refine lv_iload hx hb dX3_exchangeLines_86 (lv_at hl 1 rfl) ?_
              obtain ⟨x130, hd129⟩ := ex1 (D_X3_get r q f_20 i p2 y5_20)
              replace hR := bnd1_use hd129 hR
              refine call_V (n := 2) (As := [.int p2, .int y5_20]) (rest := [.int y5_20, .int p1, .ref (a (6 + 2 * i))]) hX hB (k_X3_get κ l a r q f_20 i p2 y5_20 hi x130 hd129) ⟨rfl, yk_X3_get⟩ wm_2_7 wm_1_187 wm_1_188 wm_1_2 wm_1_189 ⟨Nat.le_of_ble_eq_true rfl, Nat.le_of_ble_eq_true rfl⟩ ⟨Nat.le_of_ble_eq_true rfl, Nat.le_of_ble_eq_true rfl⟩ (cwG (i := i) hi) rfl rfl rfl hl.1 rfl (Nat.le_of_ble_eq_true rfl) dX3_exchangeLines_88 (fun o w' H locs hp hB => ?_)
              obtain ⟨rfl, rfl⟩ := hp
              refine W.eq (g2 := F0 m 91 ls [.long x130, .int y5_20, .int p1, .ref (a (6 + 2 * i))]) rfl ?_
              obtain ⟨f132, hd131⟩ := ex1 (D_X3_set r q f_20 i p1 y5_20 x130)
              replace hR := bnd1_use hd131 hR
              refine call_V (n := 3) (As := [.int p1, .int y5_20, .long x130]) (rest := []) hX hB (k_X3_set κ l a r q f_20 i p1 y5_20 x130 hi f132 hd131) ⟨rfl, yk_X3_set⟩ wm_1_222 wm_1_223 wm_1_224 wm_1_2 wm_1_225 ⟨Nat.le_of_ble_eq_true rfl, Nat.le_of_ble_eq_true rfl⟩ ⟨Nat.le_of_ble_eq_true rfl, Nat.le_of_ble_eq_true rfl⟩ (cwG (i := i) hi) rfl rfl rfl hl.1 rfl (Nat.le_of_ble_eq_true rfl) dX3_exchangeLines_91 (fun o w' H locs hp hB => ?_)
              obtain ⟨rfl, rfl⟩ := hp
              refine W.eq (g2 := F0 m 94 ls []) rfl ?_
              refine lv_aload_n hx hb dX3_exchangeLines_94 rfl (lv_at hl 3 rfl) ?_
              refine lv_iload_n hx hb dX3_exchangeLines_95 rfl (lv_at hl 6 rfl) ?_
              refine lv_iload hx hb dX3_exchangeLines_96 (lv_at hl 1 rfl) ?_
              refine lv_lload hx hb dX3_exchangeLines_98 (lv_at hl 0 rfl) ?_
              obtain ⟨f134, hd133⟩ := ex1 (D_X3_set r q f132 i p2 y5_20 z0_48)
              replace hR := bnd1_use hd133 hR
              refine call_V (n := 3) (As := [.int p2, .int y5_20, .long z0_48]) (rest := []) hX hB (k_X3_set κ l a r q f132 i p2 y5_20 z0_48 hi f134 hd133) ⟨rfl, yk_X3_set⟩ wm_1_222 wm_1_223 wm_1_224 wm_1_2 wm_1_225 ⟨Nat.le_of_ble_eq_true rfl, Nat.le_of_ble_eq_true rfl⟩ ⟨Nat.le_of_ble_eq_true rfl, Nat.le_of_ble_eq_true rfl⟩ (cwG (i := i) hi) rfl rfl rfl hl.1 rfl (Nat.le_of_ble_eq_true rfl) dX3_exchangeLines_100 (fun o w' H locs hp hB => ?_)
              obtain ⟨rfl, rfl⟩ := hp
              refine W.eq (g2 := F0 m 103 ls []) rfl ?_
              refine lv_iinc (v := y5_20 + 1) (lv' := [(5, .int (y5_20 + 1)), (6, .long z0_48), (4, .int (r (2 * i))), (0, .ref (a (6 + 2 * i))), (1, .int p0), (2, .int p1), (3, .int p2)]) hx hb dX3_exchangeLines_103 hl (k := 1) rfl rfl (by decide) rfl (fun ls hl => ?_)
              refine lv_goto (tgt := 20) hx hb dX3_exchangeLines_106 (by decide) ?_
              exact ih20 (y5_20 + 1) f134 _ _  (gap_step c122 hμ20) hR hB _ (lv_sub hl [0, 2, 3, 4, 5, 6] rfl)
            · replace hR := ifn c128 hR
              refine lv_aload_n hx hb dX3_exchangeLines_54 rfl (lv_at hl 3 rfl) ?_
              refine lv_iload hx hb dX3_exchangeLines_55 (lv_at hl 1 rfl) ?_
              refine lv_iload_n hx hb dX3_exchangeLines_57 rfl (lv_at hl 5 rfl) ?_
              refine lv_aload_n hx hb dX3_exchangeLines_58 rfl (lv_at hl 3 rfl) ?_
              refine lv_iload hx hb dX3_exchangeLines_59 (lv_at hl 1 rfl) ?_
              refine lv_iload_n hx hb dX3_exchangeLines_61 rfl (lv_at hl 6 rfl) ?_
              obtain ⟨x136, hd135⟩ := ex1 (D_X3_get r q f_20 i y5_20 p2)
              replace hR := bnd1_use hd135 hR
              refine call_V (n := 2) (As := [.int y5_20, .int p2]) (rest := [.int p1, .int y5_20, .ref (a (6 + 2 * i))]) hX hB (k_X3_get κ l a r q f_20 i y5_20 p2 hi x136 hd135) ⟨rfl, yk_X3_get⟩ wm_2_7 wm_1_187 wm_1_188 wm_1_2 wm_1_189 ⟨Nat.le_of_ble_eq_true rfl, Nat.le_of_ble_eq_true rfl⟩ ⟨Nat.le_of_ble_eq_true rfl, Nat.le_of_ble_eq_true rfl⟩ (cwG (i := i) hi) rfl rfl rfl hl.1 rfl (Nat.le_of_ble_eq_true rfl) dX3_exchangeLines_62 (fun o w' H locs hp hB => ?_)
              obtain ⟨rfl, rfl⟩ := hp
              refine W.eq (g2 := F0 m 65 ls [.long x136, .int p1, .int y5_20, .ref (a (6 + 2 * i))]) rfl ?_
              obtain ⟨f138, hd137⟩ := ex1 (D_X3_set r q f_20 i y5_20 p1 x136)
              replace hR := bnd1_use hd137 hR
              refine call_V (n := 3) (As := [.int y5_20, .int p1, .long x136]) (rest := []) hX hB (k_X3_set κ l a r q f_20 i y5_20 p1 x136 hi f138 hd137) ⟨rfl, yk_X3_set⟩ wm_1_222 wm_1_223 wm_1_224 wm_1_2 wm_1_225 ⟨Nat.le_of_ble_eq_true rfl, Nat.le_of_ble_eq_true rfl⟩ ⟨Nat.le_of_ble_eq_true rfl, Nat.le_of_ble_eq_true rfl⟩ (cwG (i := i) hi) rfl rfl rfl hl.1 rfl (Nat.le_of_ble_eq_true rfl) dX3_exchangeLines_65 (fun o w' H locs hp hB => ?_)
              obtain ⟨rfl, rfl⟩ := hp
              refine W.eq (g2 := F0 m 68 ls []) rfl ?_
              refine lv_aload_n hx hb dX3_exchangeLines_68 rfl (lv_at hl 3 rfl) ?_
              refine lv_iload hx hb dX3_exchangeLines_69 (lv_at hl 1 rfl) ?_
              refine lv_iload_n hx hb dX3_exchangeLines_71 rfl (lv_at hl 6 rfl) ?_
              refine lv_lload hx hb dX3_exchangeLines_72 (lv_at hl 0 rfl) ?_
              obtain ⟨f140, hd139⟩ := ex1 (D_X3_set r q f138 i y5_20 p2 z0_48)
              replace hR := bnd1_use hd139 hR
              refine call_V (n := 3) (As := [.int y5_20, .int p2, .long z0_48]) (rest := []) hX hB (k_X3_set κ l a r q f138 i y5_20 p2 z0_48 hi f140 hd139) ⟨rfl, yk_X3_set⟩ wm_1_222 wm_1_223 wm_1_224 wm_1_2 wm_1_225 ⟨Nat.le_of_ble_eq_true rfl, Nat.le_of_ble_eq_true rfl⟩ ⟨Nat.le_of_ble_eq_true rfl, Nat.le_of_ble_eq_true rfl⟩ (cwG (i := i) hi) rfl rfl rfl hl.1 rfl (Nat.le_of_ble_eq_true rfl) dX3_exchangeLines_74 (fun o w' H locs hp hB => ?_)
              obtain ⟨rfl, rfl⟩ := hp
              refine W.eq (g2 := F0 m 77 ls []) rfl ?_
              refine lv_goto (tgt := 103) hx hb dX3_exchangeLines_77 (by decide) ?_
              refine lv_iinc (v := y5_20 + 1) (lv' := [(5, .int (y5_20 + 1)), (6, .long z0_48), (4, .int (r (2 * i))), (0, .ref (a (6 + 2 * i))), (1, .int p0), (2, .int p1), (3, .int p2)]) hx hb dX3_exchangeLines_103 hl (k := 1) rfl rfl (by decide) rfl (fun ls hl => ?_)
              refine lv_goto (tgt := 20) hx hb dX3_exchangeLines_106 (by decide) ?_
              exact ih20 (y5_20 + 1) f140 _ _  (gap_step c122 hμ20) hR hB _ (lv_sub hl [0, 2, 3, 4, 5, 6] rfl)
          refine lv_if_eq (tgt := 41) hx hb dX3_exchangeLines_28 (by decide) (fun c141 => ?_) (fun c141 => ?_)
          · replace hR := ifp c141 hR
            refine lv_aload_n hx hb dX3_exchangeLines_41 rfl (lv_at hl 2 rfl) ?_
            refine lv_iload_n hx hb dX3_exchangeLines_42 rfl (lv_at hl 4 rfl) ?_
            refine lv_iload hx hb dX3_exchangeLines_43 (lv_at hl 0 rfl) ?_
            obtain ⟨x143, hd142⟩ := ex1 (D_X3_get r q f_20 i p1 y5_20)
            replace hR := bnd1_use hd142 hR
            refine call_V (n := 2) (As := [.int p1, .int y5_20]) (rest := []) hX hB (k_X3_get κ l a r q f_20 i p1 y5_20 hi x143 hd142) ⟨rfl, yk_X3_get⟩ wm_2_7 wm_1_187 wm_1_188 wm_1_2 wm_1_189 ⟨Nat.le_of_ble_eq_true rfl, Nat.le_of_ble_eq_true rfl⟩ ⟨Nat.le_of_ble_eq_true rfl, Nat.le_of_ble_eq_true rfl⟩ (cwG (i := i) hi) rfl rfl rfl hl.1 rfl (Nat.le_of_ble_eq_true rfl) dX3_exchangeLines_45 (fun o w' H locs hp hB => ?_)
            obtain ⟨rfl, rfl⟩ := hp
            refine W.eq (g2 := F0 m 48 ls [.long x143]) rfl ?_
            exact jn48 x143 _ _  hR hB _ hl
          · replace hR := ifn c141 hR
            refine lv_aload_n hx hb dX3_exchangeLines_31 rfl (lv_at hl 2 rfl) ?_
            refine lv_iload hx hb dX3_exchangeLines_32 (lv_at hl 0 rfl) ?_
            refine lv_iload_n hx hb dX3_exchangeLines_34 rfl (lv_at hl 4 rfl) ?_
            obtain ⟨x145, hd144⟩ := ex1 (D_X3_get r q f_20 i y5_20 p1)
            replace hR := bnd1_use hd144 hR
            refine call_V (n := 2) (As := [.int y5_20, .int p1]) (rest := []) hX hB (k_X3_get κ l a r q f_20 i y5_20 p1 hi x145 hd144) ⟨rfl, yk_X3_get⟩ wm_2_7 wm_1_187 wm_1_188 wm_1_2 wm_1_189 ⟨Nat.le_of_ble_eq_true rfl, Nat.le_of_ble_eq_true rfl⟩ ⟨Nat.le_of_ble_eq_true rfl, Nat.le_of_ble_eq_true rfl⟩ (cwG (i := i) hi) rfl rfl rfl hl.1 rfl (Nat.le_of_ble_eq_true rfl) dX3_exchangeLines_35 (fun o w' H locs hp hB => ?_)
            obtain ⟨rfl, rfl⟩ := hp
            refine W.eq (g2 := F0 m 38 ls [.long x145]) rfl ?_
            refine lv_goto (tgt := 48) hx hb dX3_exchangeLines_38 (by decide) ?_
            exact jn48 x145 _ _  hR hB _ hl
    exact lp20 _ 0 f _ _  (Nat.lt_succ_self _) hR hB _ hl
noncomputable def D_X3_turnLine_19 (r : Nat → Int32) (q : Nat → Int32) (i : Nat) (p0 : Int32) (p1 : Int32) (nn : Nat) : Int32 → (Nat → Nat → Int64) → (Nat → Nat → Int64) := @Nat.rec (fun _ => Int32 → (Nat → Nat → Int64) → (Nat → Nat → Int64)) (fun _ _ => default) (fun _ lb19 (y4_19 : Int32) (f_19 : Nat → Nat → Int64) => (if (r (2 * i + 1)) ≤ y4_19 then f_19 else (if p0 = 0 then bnd1 (D_X3_get r q f_19 i p1 y4_19) (fun (x25 : Int64) => bnd1 (D_X3_set r q f_19 i p1 y4_19 (-x25)) (fun (f27 : Nat → Nat → Int64) => (lb19 (y4_19 + 1) f27))) else bnd1 (D_X3_get r q f_19 i y4_19 p1) (fun (x29 : Int64) => bnd1 (D_X3_set r q f_19 i y4_19 p1 (-x29)) (fun (f31 : Nat → Nat → Int64) => (lb19 (y4_19 + 1) f31)))))) nn
theorem D_X3_turnLine_19_s {r : Nat → Int32} {q : Nat → Int32} {i : Nat} {p0 : Int32} {p1 : Int32} {nn : Nat} {y4_19 : Int32} {f_19 : Nat → Nat → Int64} : D_X3_turnLine_19 r q i p0 p1 (nn + 1) y4_19 f_19 = (if (r (2 * i + 1)) ≤ y4_19 then f_19 else (if p0 = 0 then bnd1 (D_X3_get r q f_19 i p1 y4_19) (fun (x25 : Int64) => bnd1 (D_X3_set r q f_19 i p1 y4_19 (-x25)) (fun (f27 : Nat → Nat → Int64) => ((D_X3_turnLine_19 r q i p0 p1 nn) (y4_19 + 1) f27))) else bnd1 (D_X3_get r q f_19 i y4_19 p1) (fun (x29 : Int64) => bnd1 (D_X3_set r q f_19 i y4_19 p1 (-x29)) (fun (f31 : Nat → Nat → Int64) => ((D_X3_turnLine_19 r q i p0 p1 nn) (y4_19 + 1) f31))))) := rfl
noncomputable def D_X3_turnLine_19_1 (r : Nat → Int32) (q : Nat → Int32) (i : Nat) (p0 : Int32) (p1 : Int32) (nn : Nat) : Int32 → (Nat → Nat → Int64) → (Nat → Nat → Int64) := @Nat.rec (fun _ => Int32 → (Nat → Nat → Int64) → (Nat → Nat → Int64)) (fun _ _ => default) (fun _ lb19 (y4_19 : Int32) (f_19 : Nat → Nat → Int64) => (if (r (2 * i)) ≤ y4_19 then f_19 else (if p0 = 0 then bnd1 (D_X3_get r q f_19 i p1 y4_19) (fun (x55 : Int64) => bnd1 (D_X3_set r q f_19 i p1 y4_19 (-x55)) (fun (f57 : Nat → Nat → Int64) => (lb19 (y4_19 + 1) f57))) else bnd1 (D_X3_get r q f_19 i y4_19 p1) (fun (x59 : Int64) => bnd1 (D_X3_set r q f_19 i y4_19 p1 (-x59)) (fun (f61 : Nat → Nat → Int64) => (lb19 (y4_19 + 1) f61)))))) nn
theorem D_X3_turnLine_19_1_s {r : Nat → Int32} {q : Nat → Int32} {i : Nat} {p0 : Int32} {p1 : Int32} {nn : Nat} {y4_19 : Int32} {f_19 : Nat → Nat → Int64} : D_X3_turnLine_19_1 r q i p0 p1 (nn + 1) y4_19 f_19 = (if (r (2 * i)) ≤ y4_19 then f_19 else (if p0 = 0 then bnd1 (D_X3_get r q f_19 i p1 y4_19) (fun (x55 : Int64) => bnd1 (D_X3_set r q f_19 i p1 y4_19 (-x55)) (fun (f57 : Nat → Nat → Int64) => ((D_X3_turnLine_19_1 r q i p0 p1 nn) (y4_19 + 1) f57))) else bnd1 (D_X3_get r q f_19 i y4_19 p1) (fun (x59 : Int64) => bnd1 (D_X3_set r q f_19 i y4_19 p1 (-x59)) (fun (f61 : Nat → Nat → Int64) => ((D_X3_turnLine_19_1 r q i p0 p1 nn) (y4_19 + 1) f61))))) := rfl
noncomputable def D_X3_turnLine (r : Nat → Int32) (q : Nat → Int32) (f : Nat → Nat → Int64) (i : Nat) (p0 : Int32) (p1 : Int32) : (Nat → Nat → Int64) := (if p0 = 0 then (D_X3_turnLine_19 r q i p0 p1 (gap (r (2 * i + 1)) 0 + 1) 0 f) else (D_X3_turnLine_19_1 r q i p0 p1 (gap (r (2 * i)) 0 + 1) 0 f))
theorem D_X3_turnLine_s {r : Nat → Int32} {q : Nat → Int32} {f : Nat → Nat → Int64} {i : Nat} {p0 : Int32} {p1 : Int32} : D_X3_turnLine r q f i p0 p1 = (if p0 = 0 then (D_X3_turnLine_19 r q i p0 p1 (gap (r (2 * i + 1)) 0 + 1) 0 f) else (D_X3_turnLine_19_1 r q i p0 p1 (gap (r (2 * i)) 0 + 1) 0 f)) := rfl
set_option maxHeartbeats 4000000 in
set_option maxRecDepth 100000 in
theorem k_X3_turnLine (κ : Kt) (l : Launch) (a : Nat → Nat) (r q : Nat → Int32) (f : Nat → Nat → Int64) (i : Nat) (p0 : Int32) (p1 : Int32) (hi : i < 15) (o_f : Nat → Nat → Int64) (hR : D_X3_turnLine r q f i p0 p1 = o_f) : CM κ l yX3_turnLine cX3_turnLine 5 (none) 1 24 0 0 [.ref (a (6 + 2 * i)), .int p0, .int p1] (cw κ a r q f) (fun o w' => o = none ∧ w' = cw κ a r q o_f) := by
  refine CM_begin (plainFor_of_name pn_RX3) (Nat.le_of_ble_eq_true rfl) ?_
  intro p e s m args below meth c A Q hX hnm hA3 hQ hB ls hl
  have hx := hX.1.1
  have hb := hX.1.2.1
  have hl : lv_has ls 5 [(0, .ref (a (6 + 2 * i))), (1, .int p0), (2, .int p1)] := hl
  replace hR := (D_X3_turnLine_s).symm.trans hR
  refine lv_iload_n hx hb dX3_turnLine_0 rfl (lv_at hl 1 rfl) ?_
  refine lv_if_eq (tgt := 11) hx hb dX3_turnLine_1 (by decide) (fun c1 => ?_) (fun c1 => ?_)
  · replace hR := ifp c1 hR
    refine lv_aload_n hx hb dX3_turnLine_11 rfl (lv_at hl 0 rfl) ?_
    refine gf hX hB (cwG (i := i) hi) rfl in3 2 (by decide) wm_1_52 rfl rfl dX3_turnLine_12 ?_
    refine lv_istore_n (lv' := [(3, .int (r (2 * i + 1))), (0, .ref (a (6 + 2 * i))), (1, .int p0), (2, .int p1)]) hx hb dX3_turnLine_15 rfl hl (by decide) rfl (fun ls hl => ?_)
    refine lv_iconst (v := 0) hx hb dX3_turnLine_16 (by decide) ?_
    refine lv_istore (lv' := [(4, .int 0), (3, .int (r (2 * i + 1))), (0, .ref (a (6 + 2 * i))), (1, .int p0), (2, .int p1)]) hx hb dX3_turnLine_17 hl (by decide) rfl (fun ls hl => ?_)
    have lp19 : ∀ (nn19 : Nat) (y4_19 : Int32) (f_19 : Nat → Nat → Int64) (H : Heap) (locs : List Loc), gap (r (2 * i + 1)) y4_19 < nn19 → D_X3_turnLine_19 r q i p0 p1 nn19 y4_19 f_19 = o_f → Bd κ A s (cw κ a r q f_19) H locs → ∀ ls : Array Slot, lv_has ls 5 [(4, .int y4_19), (3, .int (r (2 * i + 1))), (0, .ref (a (6 + 2 * i))), (1, .int p0), (2, .int p1)] → W p l e (Rm 1 24 0 0) s m args below meth c H locs 0 0 Q (F0 m 19 ls []) := by
      intro nn19
      induction nn19 with
      | zero => intro y4_19 f_19 H locs hμ; exact absurd hμ (Nat.not_lt_zero _)
      | succ nn19 ih19 =>
        intro y4_19 f_19 H locs hμ19 hR hB ls hl
        replace hR := (D_X3_turnLine_19_s).symm.trans hR
        refine lv_iload hx hb dX3_turnLine_19 (lv_at hl 0 rfl) ?_
        refine lv_iload_n hx hb dX3_turnLine_21 rfl (lv_at hl 1 rfl) ?_
        refine lv_icmp_ge (tgt := 68) hx hb dX3_turnLine_22 (by decide) (fun c22 => ?_) (fun c22 => ?_)
        · replace hR := ifp c22 hR
          rw [← hQ]
          exact end_v hX hB hA3 rfl (by obtain rfl := hR; exact ⟨rfl, rfl⟩) (Nat.le_of_ble_eq_true rfl) (Nat.le_of_ble_eq_true rfl) dX3_turnLine_68
        · replace hR := ifn c22 hR
          refine lv_iload_n hx hb dX3_turnLine_25 rfl (lv_at hl 3 rfl) ?_
          refine lv_if_eq (tgt := 47) hx hb dX3_turnLine_26 (by decide) (fun c23 => ?_) (fun c23 => ?_)
          · replace hR := ifp c23 hR
            refine lv_aload_n hx hb dX3_turnLine_47 rfl (lv_at hl 2 rfl) ?_
            refine lv_iload_n hx hb dX3_turnLine_48 rfl (lv_at hl 4 rfl) ?_
            refine lv_iload hx hb dX3_turnLine_49 (lv_at hl 0 rfl) ?_
            refine lv_aload_n hx hb dX3_turnLine_51 rfl (lv_at hl 2 rfl) ?_
            refine lv_iload_n hx hb dX3_turnLine_52 rfl (lv_at hl 4 rfl) ?_
            refine lv_iload hx hb dX3_turnLine_53 (lv_at hl 0 rfl) ?_
            obtain ⟨x25, hd24⟩ := ex1 (D_X3_get r q f_19 i p1 y4_19)
            replace hR := bnd1_use hd24 hR
            refine call_V (n := 2) (As := [.int p1, .int y4_19]) (rest := [.int y4_19, .int p1, .ref (a (6 + 2 * i))]) hX hB (k_X3_get κ l a r q f_19 i p1 y4_19 hi x25 hd24) ⟨rfl, yk_X3_get⟩ wm_2_7 wm_1_187 wm_1_188 wm_1_2 wm_1_189 ⟨Nat.le_of_ble_eq_true rfl, Nat.le_of_ble_eq_true rfl⟩ ⟨Nat.le_of_ble_eq_true rfl, Nat.le_of_ble_eq_true rfl⟩ (cwG (i := i) hi) rfl rfl rfl hl.1 rfl (Nat.le_of_ble_eq_true rfl) dX3_turnLine_55 (fun o w' H locs hp hB => ?_)
            obtain ⟨rfl, rfl⟩ := hp
            refine W.eq (g2 := F0 m 58 ls [.long x25, .int y4_19, .int p1, .ref (a (6 + 2 * i))]) rfl ?_
            refine lv_lneg hx hb dX3_turnLine_58 ?_
            obtain ⟨f27, hd26⟩ := ex1 (D_X3_set r q f_19 i p1 y4_19 (-x25))
            replace hR := bnd1_use hd26 hR
            refine call_V (n := 3) (As := [.int p1, .int y4_19, .long (-x25)]) (rest := []) hX hB (k_X3_set κ l a r q f_19 i p1 y4_19 (-x25) hi f27 hd26) ⟨rfl, yk_X3_set⟩ wm_1_222 wm_1_223 wm_1_224 wm_1_2 wm_1_225 ⟨Nat.le_of_ble_eq_true rfl, Nat.le_of_ble_eq_true rfl⟩ ⟨Nat.le_of_ble_eq_true rfl, Nat.le_of_ble_eq_true rfl⟩ (cwG (i := i) hi) rfl rfl rfl hl.1 rfl (Nat.le_of_ble_eq_true rfl) dX3_turnLine_59 (fun o w' H locs hp hB => ?_)
            obtain ⟨rfl, rfl⟩ := hp
            refine W.eq (g2 := F0 m 62 ls []) rfl ?_
            refine lv_iinc (v := y4_19 + 1) (lv' := [(4, .int (y4_19 + 1)), (3, .int (r (2 * i + 1))), (0, .ref (a (6 + 2 * i))), (1, .int p0), (2, .int p1)]) hx hb dX3_turnLine_62 hl (k := 0) rfl rfl (by decide) rfl (fun ls hl => ?_)
            refine lv_goto (tgt := 19) hx hb dX3_turnLine_65 (by decide) ?_
            exact ih19 (y4_19 + 1) f27 _ _  (gap_step c22 hμ19) hR hB _ hl
          · replace hR := ifn c23 hR
            refine lv_aload_n hx hb dX3_turnLine_29 rfl (lv_at hl 2 rfl) ?_
            refine lv_iload hx hb dX3_turnLine_30 (lv_at hl 0 rfl) ?_
            refine lv_iload_n hx hb dX3_turnLine_32 rfl (lv_at hl 4 rfl) ?_
            refine lv_aload_n hx hb dX3_turnLine_33 rfl (lv_at hl 2 rfl) ?_
            refine lv_iload hx hb dX3_turnLine_34 (lv_at hl 0 rfl) ?_
            refine lv_iload_n hx hb dX3_turnLine_36 rfl (lv_at hl 4 rfl) ?_
            obtain ⟨x29, hd28⟩ := ex1 (D_X3_get r q f_19 i y4_19 p1)
            replace hR := bnd1_use hd28 hR
            refine call_V (n := 2) (As := [.int y4_19, .int p1]) (rest := [.int p1, .int y4_19, .ref (a (6 + 2 * i))]) hX hB (k_X3_get κ l a r q f_19 i y4_19 p1 hi x29 hd28) ⟨rfl, yk_X3_get⟩ wm_2_7 wm_1_187 wm_1_188 wm_1_2 wm_1_189 ⟨Nat.le_of_ble_eq_true rfl, Nat.le_of_ble_eq_true rfl⟩ ⟨Nat.le_of_ble_eq_true rfl, Nat.le_of_ble_eq_true rfl⟩ (cwG (i := i) hi) rfl rfl rfl hl.1 rfl (Nat.le_of_ble_eq_true rfl) dX3_turnLine_37 (fun o w' H locs hp hB => ?_)
            obtain ⟨rfl, rfl⟩ := hp
            refine W.eq (g2 := F0 m 40 ls [.long x29, .int p1, .int y4_19, .ref (a (6 + 2 * i))]) rfl ?_
            refine lv_lneg hx hb dX3_turnLine_40 ?_
            obtain ⟨f31, hd30⟩ := ex1 (D_X3_set r q f_19 i y4_19 p1 (-x29))
            replace hR := bnd1_use hd30 hR
            refine call_V (n := 3) (As := [.int y4_19, .int p1, .long (-x29)]) (rest := []) hX hB (k_X3_set κ l a r q f_19 i y4_19 p1 (-x29) hi f31 hd30) ⟨rfl, yk_X3_set⟩ wm_1_222 wm_1_223 wm_1_224 wm_1_2 wm_1_225 ⟨Nat.le_of_ble_eq_true rfl, Nat.le_of_ble_eq_true rfl⟩ ⟨Nat.le_of_ble_eq_true rfl, Nat.le_of_ble_eq_true rfl⟩ (cwG (i := i) hi) rfl rfl rfl hl.1 rfl (Nat.le_of_ble_eq_true rfl) dX3_turnLine_41 (fun o w' H locs hp hB => ?_)
            obtain ⟨rfl, rfl⟩ := hp
            refine W.eq (g2 := F0 m 44 ls []) rfl ?_
            refine lv_goto (tgt := 62) hx hb dX3_turnLine_44 (by decide) ?_
            refine lv_iinc (v := y4_19 + 1) (lv' := [(4, .int (y4_19 + 1)), (3, .int (r (2 * i + 1))), (0, .ref (a (6 + 2 * i))), (1, .int p0), (2, .int p1)]) hx hb dX3_turnLine_62 hl (k := 0) rfl rfl (by decide) rfl (fun ls hl => ?_)
            refine lv_goto (tgt := 19) hx hb dX3_turnLine_65 (by decide) ?_
            exact ih19 (y4_19 + 1) f31 _ _  (gap_step c22 hμ19) hR hB _ hl
    exact lp19 _ 0 f _ _  (Nat.lt_succ_self _) hR hB _ hl
  · replace hR := ifn c1 hR
    refine lv_aload_n hx hb dX3_turnLine_4 rfl (lv_at hl 0 rfl) ?_
    refine gf hX hB (cwG (i := i) hi) rfl in3 1 (by decide) wm_1_46 rfl rfl dX3_turnLine_5 ?_
    refine lv_goto (tgt := 15) hx hb dX3_turnLine_8 (by decide) ?_
    refine lv_istore_n (lv' := [(3, .int (r (2 * i))), (0, .ref (a (6 + 2 * i))), (1, .int p0), (2, .int p1)]) hx hb dX3_turnLine_15 rfl hl (by decide) rfl (fun ls hl => ?_)
    refine lv_iconst (v := 0) hx hb dX3_turnLine_16 (by decide) ?_
    refine lv_istore (lv' := [(4, .int 0), (3, .int (r (2 * i))), (0, .ref (a (6 + 2 * i))), (1, .int p0), (2, .int p1)]) hx hb dX3_turnLine_17 hl (by decide) rfl (fun ls hl => ?_)
    have lp19 : ∀ (nn19 : Nat) (y4_19 : Int32) (f_19 : Nat → Nat → Int64) (H : Heap) (locs : List Loc), gap (r (2 * i)) y4_19 < nn19 → D_X3_turnLine_19_1 r q i p0 p1 nn19 y4_19 f_19 = o_f → Bd κ A s (cw κ a r q f_19) H locs → ∀ ls : Array Slot, lv_has ls 5 [(4, .int y4_19), (3, .int (r (2 * i))), (0, .ref (a (6 + 2 * i))), (1, .int p0), (2, .int p1)] → W p l e (Rm 1 24 0 0) s m args below meth c H locs 0 0 Q (F0 m 19 ls []) := by
      intro nn19
      induction nn19 with
      | zero => intro y4_19 f_19 H locs hμ; exact absurd hμ (Nat.not_lt_zero _)
      | succ nn19 ih19 =>
        intro y4_19 f_19 H locs hμ19 hR hB ls hl
        replace hR := (D_X3_turnLine_19_1_s).symm.trans hR
        refine lv_iload hx hb dX3_turnLine_19 (lv_at hl 0 rfl) ?_
        refine lv_iload_n hx hb dX3_turnLine_21 rfl (lv_at hl 1 rfl) ?_
        refine lv_icmp_ge (tgt := 68) hx hb dX3_turnLine_22 (by decide) (fun c52 => ?_) (fun c52 => ?_)
        · replace hR := ifp c52 hR
          rw [← hQ]
          exact end_v hX hB hA3 rfl (by obtain rfl := hR; exact ⟨rfl, rfl⟩) (Nat.le_of_ble_eq_true rfl) (Nat.le_of_ble_eq_true rfl) dX3_turnLine_68
        · replace hR := ifn c52 hR
          refine lv_iload_n hx hb dX3_turnLine_25 rfl (lv_at hl 3 rfl) ?_
          refine lv_if_eq (tgt := 47) hx hb dX3_turnLine_26 (by decide) (fun c53 => ?_) (fun c53 => ?_)
          · replace hR := ifp c53 hR
            refine lv_aload_n hx hb dX3_turnLine_47 rfl (lv_at hl 2 rfl) ?_
            refine lv_iload_n hx hb dX3_turnLine_48 rfl (lv_at hl 4 rfl) ?_
            refine lv_iload hx hb dX3_turnLine_49 (lv_at hl 0 rfl) ?_
            refine lv_aload_n hx hb dX3_turnLine_51 rfl (lv_at hl 2 rfl) ?_
            refine lv_iload_n hx hb dX3_turnLine_52 rfl (lv_at hl 4 rfl) ?_
            refine lv_iload hx hb dX3_turnLine_53 (lv_at hl 0 rfl) ?_
            obtain ⟨x55, hd54⟩ := ex1 (D_X3_get r q f_19 i p1 y4_19)
            replace hR := bnd1_use hd54 hR
            refine call_V (n := 2) (As := [.int p1, .int y4_19]) (rest := [.int y4_19, .int p1, .ref (a (6 + 2 * i))]) hX hB (k_X3_get κ l a r q f_19 i p1 y4_19 hi x55 hd54) ⟨rfl, yk_X3_get⟩ wm_2_7 wm_1_187 wm_1_188 wm_1_2 wm_1_189 ⟨Nat.le_of_ble_eq_true rfl, Nat.le_of_ble_eq_true rfl⟩ ⟨Nat.le_of_ble_eq_true rfl, Nat.le_of_ble_eq_true rfl⟩ (cwG (i := i) hi) rfl rfl rfl hl.1 rfl (Nat.le_of_ble_eq_true rfl) dX3_turnLine_55 (fun o w' H locs hp hB => ?_)
            obtain ⟨rfl, rfl⟩ := hp
            refine W.eq (g2 := F0 m 58 ls [.long x55, .int y4_19, .int p1, .ref (a (6 + 2 * i))]) rfl ?_
            refine lv_lneg hx hb dX3_turnLine_58 ?_
            obtain ⟨f57, hd56⟩ := ex1 (D_X3_set r q f_19 i p1 y4_19 (-x55))
            replace hR := bnd1_use hd56 hR
            refine call_V (n := 3) (As := [.int p1, .int y4_19, .long (-x55)]) (rest := []) hX hB (k_X3_set κ l a r q f_19 i p1 y4_19 (-x55) hi f57 hd56) ⟨rfl, yk_X3_set⟩ wm_1_222 wm_1_223 wm_1_224 wm_1_2 wm_1_225 ⟨Nat.le_of_ble_eq_true rfl, Nat.le_of_ble_eq_true rfl⟩ ⟨Nat.le_of_ble_eq_true rfl, Nat.le_of_ble_eq_true rfl⟩ (cwG (i := i) hi) rfl rfl rfl hl.1 rfl (Nat.le_of_ble_eq_true rfl) dX3_turnLine_59 (fun o w' H locs hp hB => ?_)
            obtain ⟨rfl, rfl⟩ := hp
            refine W.eq (g2 := F0 m 62 ls []) rfl ?_
            refine lv_iinc (v := y4_19 + 1) (lv' := [(4, .int (y4_19 + 1)), (3, .int (r (2 * i))), (0, .ref (a (6 + 2 * i))), (1, .int p0), (2, .int p1)]) hx hb dX3_turnLine_62 hl (k := 0) rfl rfl (by decide) rfl (fun ls hl => ?_)
            refine lv_goto (tgt := 19) hx hb dX3_turnLine_65 (by decide) ?_
            exact ih19 (y4_19 + 1) f57 _ _  (gap_step c52 hμ19) hR hB _ hl
          · replace hR := ifn c53 hR
            refine lv_aload_n hx hb dX3_turnLine_29 rfl (lv_at hl 2 rfl) ?_
            refine lv_iload hx hb dX3_turnLine_30 (lv_at hl 0 rfl) ?_
            refine lv_iload_n hx hb dX3_turnLine_32 rfl (lv_at hl 4 rfl) ?_
            refine lv_aload_n hx hb dX3_turnLine_33 rfl (lv_at hl 2 rfl) ?_
            refine lv_iload hx hb dX3_turnLine_34 (lv_at hl 0 rfl) ?_
            refine lv_iload_n hx hb dX3_turnLine_36 rfl (lv_at hl 4 rfl) ?_
            obtain ⟨x59, hd58⟩ := ex1 (D_X3_get r q f_19 i y4_19 p1)
            replace hR := bnd1_use hd58 hR
            refine call_V (n := 2) (As := [.int y4_19, .int p1]) (rest := [.int p1, .int y4_19, .ref (a (6 + 2 * i))]) hX hB (k_X3_get κ l a r q f_19 i y4_19 p1 hi x59 hd58) ⟨rfl, yk_X3_get⟩ wm_2_7 wm_1_187 wm_1_188 wm_1_2 wm_1_189 ⟨Nat.le_of_ble_eq_true rfl, Nat.le_of_ble_eq_true rfl⟩ ⟨Nat.le_of_ble_eq_true rfl, Nat.le_of_ble_eq_true rfl⟩ (cwG (i := i) hi) rfl rfl rfl hl.1 rfl (Nat.le_of_ble_eq_true rfl) dX3_turnLine_37 (fun o w' H locs hp hB => ?_)
            obtain ⟨rfl, rfl⟩ := hp
            refine W.eq (g2 := F0 m 40 ls [.long x59, .int p1, .int y4_19, .ref (a (6 + 2 * i))]) rfl ?_
            refine lv_lneg hx hb dX3_turnLine_40 ?_
            obtain ⟨f61, hd60⟩ := ex1 (D_X3_set r q f_19 i y4_19 p1 (-x59))
            replace hR := bnd1_use hd60 hR
            refine call_V (n := 3) (As := [.int y4_19, .int p1, .long (-x59)]) (rest := []) hX hB (k_X3_set κ l a r q f_19 i y4_19 p1 (-x59) hi f61 hd60) ⟨rfl, yk_X3_set⟩ wm_1_222 wm_1_223 wm_1_224 wm_1_2 wm_1_225 ⟨Nat.le_of_ble_eq_true rfl, Nat.le_of_ble_eq_true rfl⟩ ⟨Nat.le_of_ble_eq_true rfl, Nat.le_of_ble_eq_true rfl⟩ (cwG (i := i) hi) rfl rfl rfl hl.1 rfl (Nat.le_of_ble_eq_true rfl) dX3_turnLine_41 (fun o w' H locs hp hB => ?_)
            obtain ⟨rfl, rfl⟩ := hp
            refine W.eq (g2 := F0 m 44 ls []) rfl ?_
            refine lv_goto (tgt := 62) hx hb dX3_turnLine_44 (by decide) ?_
            refine lv_iinc (v := y4_19 + 1) (lv' := [(4, .int (y4_19 + 1)), (3, .int (r (2 * i))), (0, .ref (a (6 + 2 * i))), (1, .int p0), (2, .int p1)]) hx hb dX3_turnLine_62 hl (k := 0) rfl rfl (by decide) rfl (fun ls hl => ?_)
            refine lv_goto (tgt := 19) hx hb dX3_turnLine_65 (by decide) ?_
            exact ih19 (y4_19 + 1) f61 _ _  (gap_step c52 hμ19) hR hB _ hl
    exact lp19 _ 0 f _ _  (Nat.lt_succ_self _) hR hB _ hl
noncomputable def D_X3_addLine_20 (r : Nat → Int32) (q : Nat → Int32) (i : Nat) (p0 : Int32) (p1 : Int32) (p2 : Int32) (p3 : Int64) (nn : Nat) : Int32 → (Nat → Nat → Int64) → (Nat → Nat → Int64) := @Nat.rec (fun _ => Int32 → (Nat → Nat → Int64) → (Nat → Nat → Int64)) (fun _ _ => default) (fun _ lb20 (y7_20 : Int32) (f_20 : Nat → Nat → Int64) => (if (r (2 * i + 1)) ≤ y7_20 then f_20 else (if p0 = 0 then bnd1 (D_X3_get r q f_20 i p1 y7_20) (fun (x33 : Int64) => bnd1 (D_X3_get r q f_20 i p2 y7_20) (fun (x35 : Int64) => bnd1 (D_X3_set r q f_20 i p1 y7_20 (x33 + (p3 * x35))) (fun (f37 : Nat → Nat → Int64) => (lb20 (y7_20 + 1) f37)))) else bnd1 (D_X3_get r q f_20 i y7_20 p1) (fun (x39 : Int64) => bnd1 (D_X3_get r q f_20 i y7_20 p2) (fun (x41 : Int64) => bnd1 (D_X3_set r q f_20 i y7_20 p1 (x39 + (p3 * x41))) (fun (f43 : Nat → Nat → Int64) => (lb20 (y7_20 + 1) f43))))))) nn
theorem D_X3_addLine_20_s {r : Nat → Int32} {q : Nat → Int32} {i : Nat} {p0 : Int32} {p1 : Int32} {p2 : Int32} {p3 : Int64} {nn : Nat} {y7_20 : Int32} {f_20 : Nat → Nat → Int64} : D_X3_addLine_20 r q i p0 p1 p2 p3 (nn + 1) y7_20 f_20 = (if (r (2 * i + 1)) ≤ y7_20 then f_20 else (if p0 = 0 then bnd1 (D_X3_get r q f_20 i p1 y7_20) (fun (x33 : Int64) => bnd1 (D_X3_get r q f_20 i p2 y7_20) (fun (x35 : Int64) => bnd1 (D_X3_set r q f_20 i p1 y7_20 (x33 + (p3 * x35))) (fun (f37 : Nat → Nat → Int64) => ((D_X3_addLine_20 r q i p0 p1 p2 p3 nn) (y7_20 + 1) f37)))) else bnd1 (D_X3_get r q f_20 i y7_20 p1) (fun (x39 : Int64) => bnd1 (D_X3_get r q f_20 i y7_20 p2) (fun (x41 : Int64) => bnd1 (D_X3_set r q f_20 i y7_20 p1 (x39 + (p3 * x41))) (fun (f43 : Nat → Nat → Int64) => ((D_X3_addLine_20 r q i p0 p1 p2 p3 nn) (y7_20 + 1) f43)))))) := rfl
noncomputable def D_X3_addLine_20_1 (r : Nat → Int32) (q : Nat → Int32) (i : Nat) (p0 : Int32) (p1 : Int32) (p2 : Int32) (p3 : Int64) (nn : Nat) : Int32 → (Nat → Nat → Int64) → (Nat → Nat → Int64) := @Nat.rec (fun _ => Int32 → (Nat → Nat → Int64) → (Nat → Nat → Int64)) (fun _ _ => default) (fun _ lb20 (y7_20 : Int32) (f_20 : Nat → Nat → Int64) => (if (r (2 * i)) ≤ y7_20 then f_20 else (if p0 = 0 then bnd1 (D_X3_get r q f_20 i p1 y7_20) (fun (x75 : Int64) => bnd1 (D_X3_get r q f_20 i p2 y7_20) (fun (x77 : Int64) => bnd1 (D_X3_set r q f_20 i p1 y7_20 (x75 + (p3 * x77))) (fun (f79 : Nat → Nat → Int64) => (lb20 (y7_20 + 1) f79)))) else bnd1 (D_X3_get r q f_20 i y7_20 p1) (fun (x81 : Int64) => bnd1 (D_X3_get r q f_20 i y7_20 p2) (fun (x83 : Int64) => bnd1 (D_X3_set r q f_20 i y7_20 p1 (x81 + (p3 * x83))) (fun (f85 : Nat → Nat → Int64) => (lb20 (y7_20 + 1) f85))))))) nn
theorem D_X3_addLine_20_1_s {r : Nat → Int32} {q : Nat → Int32} {i : Nat} {p0 : Int32} {p1 : Int32} {p2 : Int32} {p3 : Int64} {nn : Nat} {y7_20 : Int32} {f_20 : Nat → Nat → Int64} : D_X3_addLine_20_1 r q i p0 p1 p2 p3 (nn + 1) y7_20 f_20 = (if (r (2 * i)) ≤ y7_20 then f_20 else (if p0 = 0 then bnd1 (D_X3_get r q f_20 i p1 y7_20) (fun (x75 : Int64) => bnd1 (D_X3_get r q f_20 i p2 y7_20) (fun (x77 : Int64) => bnd1 (D_X3_set r q f_20 i p1 y7_20 (x75 + (p3 * x77))) (fun (f79 : Nat → Nat → Int64) => ((D_X3_addLine_20_1 r q i p0 p1 p2 p3 nn) (y7_20 + 1) f79)))) else bnd1 (D_X3_get r q f_20 i y7_20 p1) (fun (x81 : Int64) => bnd1 (D_X3_get r q f_20 i y7_20 p2) (fun (x83 : Int64) => bnd1 (D_X3_set r q f_20 i y7_20 p1 (x81 + (p3 * x83))) (fun (f85 : Nat → Nat → Int64) => ((D_X3_addLine_20_1 r q i p0 p1 p2 p3 nn) (y7_20 + 1) f85)))))) := rfl
noncomputable def D_X3_addLine (r : Nat → Int32) (q : Nat → Int32) (f : Nat → Nat → Int64) (i : Nat) (p0 : Int32) (p1 : Int32) (p2 : Int32) (p3 : Int64) : (Nat → Nat → Int64) := (if p0 = 0 then (D_X3_addLine_20 r q i p0 p1 p2 p3 (gap (r (2 * i + 1)) 0 + 1) 0 f) else (D_X3_addLine_20_1 r q i p0 p1 p2 p3 (gap (r (2 * i)) 0 + 1) 0 f))
theorem D_X3_addLine_s {r : Nat → Int32} {q : Nat → Int32} {f : Nat → Nat → Int64} {i : Nat} {p0 : Int32} {p1 : Int32} {p2 : Int32} {p3 : Int64} : D_X3_addLine r q f i p0 p1 p2 p3 = (if p0 = 0 then (D_X3_addLine_20 r q i p0 p1 p2 p3 (gap (r (2 * i + 1)) 0 + 1) 0 f) else (D_X3_addLine_20_1 r q i p0 p1 p2 p3 (gap (r (2 * i)) 0 + 1) 0 f)) := rfl
set_option maxHeartbeats 4000000 in
set_option maxRecDepth 100000 in
theorem k_X3_addLine (κ : Kt) (l : Launch) (a : Nat → Nat) (r q : Nat → Int32) (f : Nat → Nat → Int64) (i : Nat) (p0 : Int32) (p1 : Int32) (p2 : Int32) (p3 : Int64) (hi : i < 15) (o_f : Nat → Nat → Int64) (hR : D_X3_addLine r q f i p0 p1 p2 p3 = o_f) : CM κ l yX3_addLine cX3_addLine 8 (none) 1 24 0 0 [.ref (a (6 + 2 * i)), .int p0, .int p1, .int p2, .long p3] (cw κ a r q f) (fun o w' => o = none ∧ w' = cw κ a r q o_f) := by
  refine CM_begin (plainFor_of_name pn_RX3) (Nat.le_of_ble_eq_true rfl) ?_
  intro p e s m args below meth c A Q hX hnm hA3 hQ hB ls hl
  have hx := hX.1.1
  have hb := hX.1.2.1
  have hl : lv_has ls 8 [(0, .ref (a (6 + 2 * i))), (1, .int p0), (2, .int p1), (3, .int p2), (4, .long p3)] := hl
  replace hR := (D_X3_addLine_s).symm.trans hR
  refine lv_iload_n hx hb dX3_addLine_0 rfl (lv_at hl 1 rfl) ?_
  refine lv_if_eq (tgt := 11) hx hb dX3_addLine_1 (by decide) (fun c1 => ?_) (fun c1 => ?_)
  · replace hR := ifp c1 hR
    refine lv_aload_n hx hb dX3_addLine_11 rfl (lv_at hl 0 rfl) ?_
    refine gf hX hB (cwG (i := i) hi) rfl in3 2 (by decide) wm_1_52 rfl rfl dX3_addLine_12 ?_
    refine lv_istore (lv' := [(6, .int (r (2 * i + 1))), (0, .ref (a (6 + 2 * i))), (1, .int p0), (2, .int p1), (3, .int p2), (4, .long p3)]) hx hb dX3_addLine_15 hl (by decide) rfl (fun ls hl => ?_)
    refine lv_iconst (v := 0) hx hb dX3_addLine_17 (by decide) ?_
    refine lv_istore (lv' := [(7, .int 0), (6, .int (r (2 * i + 1))), (0, .ref (a (6 + 2 * i))), (1, .int p0), (2, .int p1), (3, .int p2), (4, .long p3)]) hx hb dX3_addLine_18 hl (by decide) rfl (fun ls hl => ?_)
    have lp20 : ∀ (nn20 : Nat) (y7_20 : Int32) (f_20 : Nat → Nat → Int64) (H : Heap) (locs : List Loc), gap (r (2 * i + 1)) y7_20 < nn20 → D_X3_addLine_20 r q i p0 p1 p2 p3 nn20 y7_20 f_20 = o_f → Bd κ A s (cw κ a r q f_20) H locs → ∀ ls : Array Slot, lv_has ls 8 [(7, .int y7_20), (6, .int (r (2 * i + 1))), (0, .ref (a (6 + 2 * i))), (1, .int p0), (2, .int p1), (3, .int p2), (4, .long p3)] → W p l e (Rm 1 24 0 0) s m args below meth c H locs 0 0 Q (F0 m 20 ls []) := by
      intro nn20
      induction nn20 with
      | zero => intro y7_20 f_20 H locs hμ; exact absurd hμ (Nat.not_lt_zero _)
      | succ nn20 ih20 =>
        intro y7_20 f_20 H locs hμ20 hR hB ls hl
        replace hR := (D_X3_addLine_20_s).symm.trans hR
        refine lv_iload hx hb dX3_addLine_20 (lv_at hl 0 rfl) ?_
        refine lv_iload hx hb dX3_addLine_22 (lv_at hl 1 rfl) ?_
        refine lv_icmp_ge (tgt := 90) hx hb dX3_addLine_24 (by decide) (fun c30 => ?_) (fun c30 => ?_)
        · replace hR := ifp c30 hR
          rw [← hQ]
          exact end_v hX hB hA3 rfl (by obtain rfl := hR; exact ⟨rfl, rfl⟩) (Nat.le_of_ble_eq_true rfl) (Nat.le_of_ble_eq_true rfl) dX3_addLine_90
        · replace hR := ifn c30 hR
          refine lv_iload_n hx hb dX3_addLine_27 rfl (lv_at hl 3 rfl) ?_
          refine lv_if_eq (tgt := 59) hx hb dX3_addLine_28 (by decide) (fun c31 => ?_) (fun c31 => ?_)
          · replace hR := ifp c31 hR
            refine lv_aload_n hx hb dX3_addLine_59 rfl (lv_at hl 2 rfl) ?_
            refine lv_iload_n hx hb dX3_addLine_60 rfl (lv_at hl 4 rfl) ?_
            refine lv_iload hx hb dX3_addLine_61 (lv_at hl 0 rfl) ?_
            refine lv_aload_n hx hb dX3_addLine_63 rfl (lv_at hl 2 rfl) ?_
            refine lv_iload_n hx hb dX3_addLine_64 rfl (lv_at hl 4 rfl) ?_
            refine lv_iload hx hb dX3_addLine_65 (lv_at hl 0 rfl) ?_
            obtain ⟨x33, hd32⟩ := ex1 (D_X3_get r q f_20 i p1 y7_20)
            replace hR := bnd1_use hd32 hR
            refine call_V (n := 2) (As := [.int p1, .int y7_20]) (rest := [.int y7_20, .int p1, .ref (a (6 + 2 * i))]) hX hB (k_X3_get κ l a r q f_20 i p1 y7_20 hi x33 hd32) ⟨rfl, yk_X3_get⟩ wm_2_7 wm_1_187 wm_1_188 wm_1_2 wm_1_189 ⟨Nat.le_of_ble_eq_true rfl, Nat.le_of_ble_eq_true rfl⟩ ⟨Nat.le_of_ble_eq_true rfl, Nat.le_of_ble_eq_true rfl⟩ (cwG (i := i) hi) rfl rfl rfl hl.1 rfl (Nat.le_of_ble_eq_true rfl) dX3_addLine_67 (fun o w' H locs hp hB => ?_)
            obtain ⟨rfl, rfl⟩ := hp
            refine W.eq (g2 := F0 m 70 ls [.long x33, .int y7_20, .int p1, .ref (a (6 + 2 * i))]) rfl ?_
            refine lv_lload hx hb dX3_addLine_70 (lv_at hl 6 rfl) ?_
            refine lv_aload_n hx hb dX3_addLine_72 rfl (lv_at hl 2 rfl) ?_
            refine lv_iload_n hx hb dX3_addLine_73 rfl (lv_at hl 5 rfl) ?_
            refine lv_iload hx hb dX3_addLine_74 (lv_at hl 0 rfl) ?_
            obtain ⟨x35, hd34⟩ := ex1 (D_X3_get r q f_20 i p2 y7_20)
            replace hR := bnd1_use hd34 hR
            refine call_V (n := 2) (As := [.int p2, .int y7_20]) (rest := [.long p3, .long x33, .int y7_20, .int p1, .ref (a (6 + 2 * i))]) hX hB (k_X3_get κ l a r q f_20 i p2 y7_20 hi x35 hd34) ⟨rfl, yk_X3_get⟩ wm_2_7 wm_1_187 wm_1_188 wm_1_2 wm_1_189 ⟨Nat.le_of_ble_eq_true rfl, Nat.le_of_ble_eq_true rfl⟩ ⟨Nat.le_of_ble_eq_true rfl, Nat.le_of_ble_eq_true rfl⟩ (cwG (i := i) hi) rfl rfl rfl hl.1 rfl (Nat.le_of_ble_eq_true rfl) dX3_addLine_76 (fun o w' H locs hp hB => ?_)
            obtain ⟨rfl, rfl⟩ := hp
            refine W.eq (g2 := F0 m 79 ls [.long x35, .long p3, .long x33, .int y7_20, .int p1, .ref (a (6 + 2 * i))]) rfl ?_
            refine lv_lmul hx hb dX3_addLine_79 ?_
            refine lv_ladd hx hb dX3_addLine_80 ?_
            obtain ⟨f37, hd36⟩ := ex1 (D_X3_set r q f_20 i p1 y7_20 (x33 + (p3 * x35)))
            replace hR := bnd1_use hd36 hR
            refine call_V (n := 3) (As := [.int p1, .int y7_20, .long (x33 + (p3 * x35))]) (rest := []) hX hB (k_X3_set κ l a r q f_20 i p1 y7_20 (x33 + (p3 * x35)) hi f37 hd36) ⟨rfl, yk_X3_set⟩ wm_1_222 wm_1_223 wm_1_224 wm_1_2 wm_1_225 ⟨Nat.le_of_ble_eq_true rfl, Nat.le_of_ble_eq_true rfl⟩ ⟨Nat.le_of_ble_eq_true rfl, Nat.le_of_ble_eq_true rfl⟩ (cwG (i := i) hi) rfl rfl rfl hl.1 rfl (Nat.le_of_ble_eq_true rfl) dX3_addLine_81 (fun o w' H locs hp hB => ?_)
            obtain ⟨rfl, rfl⟩ := hp
            refine W.eq (g2 := F0 m 84 ls []) rfl ?_
            refine lv_iinc (v := y7_20 + 1) (lv' := [(7, .int (y7_20 + 1)), (6, .int (r (2 * i + 1))), (0, .ref (a (6 + 2 * i))), (1, .int p0), (2, .int p1), (3, .int p2), (4, .long p3)]) hx hb dX3_addLine_84 hl (k := 0) rfl rfl (by decide) rfl (fun ls hl => ?_)
            refine lv_goto (tgt := 20) hx hb dX3_addLine_87 (by decide) ?_
            exact ih20 (y7_20 + 1) f37 _ _  (gap_step c30 hμ20) hR hB _ hl
          · replace hR := ifn c31 hR
            refine lv_aload_n hx hb dX3_addLine_31 rfl (lv_at hl 2 rfl) ?_
            refine lv_iload hx hb dX3_addLine_32 (lv_at hl 0 rfl) ?_
            refine lv_iload_n hx hb dX3_addLine_34 rfl (lv_at hl 4 rfl) ?_
            refine lv_aload_n hx hb dX3_addLine_35 rfl (lv_at hl 2 rfl) ?_
            refine lv_iload hx hb dX3_addLine_36 (lv_at hl 0 rfl) ?_
            refine lv_iload_n hx hb dX3_addLine_38 rfl (lv_at hl 4 rfl) ?_
            obtain ⟨x39, hd38⟩ := ex1 (D_X3_get r q f_20 i y7_20 p1)
            replace hR := bnd1_use hd38 hR
            refine call_V (n := 2) (As := [.int y7_20, .int p1]) (rest := [.int p1, .int y7_20, .ref (a (6 + 2 * i))]) hX hB (k_X3_get κ l a r q f_20 i y7_20 p1 hi x39 hd38) ⟨rfl, yk_X3_get⟩ wm_2_7 wm_1_187 wm_1_188 wm_1_2 wm_1_189 ⟨Nat.le_of_ble_eq_true rfl, Nat.le_of_ble_eq_true rfl⟩ ⟨Nat.le_of_ble_eq_true rfl, Nat.le_of_ble_eq_true rfl⟩ (cwG (i := i) hi) rfl rfl rfl hl.1 rfl (Nat.le_of_ble_eq_true rfl) dX3_addLine_39 (fun o w' H locs hp hB => ?_)
            obtain ⟨rfl, rfl⟩ := hp
            refine W.eq (g2 := F0 m 42 ls [.long x39, .int p1, .int y7_20, .ref (a (6 + 2 * i))]) rfl ?_
            refine lv_lload hx hb dX3_addLine_42 (lv_at hl 6 rfl) ?_
            refine lv_aload_n hx hb dX3_addLine_44 rfl (lv_at hl 2 rfl) ?_
            refine lv_iload hx hb dX3_addLine_45 (lv_at hl 0 rfl) ?_
            refine lv_iload_n hx hb dX3_addLine_47 rfl (lv_at hl 5 rfl) ?_
            obtain ⟨x41, hd40⟩ := ex1 (D_X3_get r q f_20 i y7_20 p2)
            replace hR := bnd1_use hd40 hR
            refine call_V (n := 2) (As := [.int y7_20, .int p2]) (rest := [.long p3, .long x39, .int p1, .int y7_20, .ref (a (6 + 2 * i))]) hX hB (k_X3_get κ l a r q f_20 i y7_20 p2 hi x41 hd40) ⟨rfl, yk_X3_get⟩ wm_2_7 wm_1_187 wm_1_188 wm_1_2 wm_1_189 ⟨Nat.le_of_ble_eq_true rfl, Nat.le_of_ble_eq_true rfl⟩ ⟨Nat.le_of_ble_eq_true rfl, Nat.le_of_ble_eq_true rfl⟩ (cwG (i := i) hi) rfl rfl rfl hl.1 rfl (Nat.le_of_ble_eq_true rfl) dX3_addLine_48 (fun o w' H locs hp hB => ?_)
            obtain ⟨rfl, rfl⟩ := hp
            refine W.eq (g2 := F0 m 51 ls [.long x41, .long p3, .long x39, .int p1, .int y7_20, .ref (a (6 + 2 * i))]) rfl ?_
            refine lv_lmul hx hb dX3_addLine_51 ?_
            refine lv_ladd hx hb dX3_addLine_52 ?_
            obtain ⟨f43, hd42⟩ := ex1 (D_X3_set r q f_20 i y7_20 p1 (x39 + (p3 * x41)))
            replace hR := bnd1_use hd42 hR
            refine call_V (n := 3) (As := [.int y7_20, .int p1, .long (x39 + (p3 * x41))]) (rest := []) hX hB (k_X3_set κ l a r q f_20 i y7_20 p1 (x39 + (p3 * x41)) hi f43 hd42) ⟨rfl, yk_X3_set⟩ wm_1_222 wm_1_223 wm_1_224 wm_1_2 wm_1_225 ⟨Nat.le_of_ble_eq_true rfl, Nat.le_of_ble_eq_true rfl⟩ ⟨Nat.le_of_ble_eq_true rfl, Nat.le_of_ble_eq_true rfl⟩ (cwG (i := i) hi) rfl rfl rfl hl.1 rfl (Nat.le_of_ble_eq_true rfl) dX3_addLine_53 (fun o w' H locs hp hB => ?_)
            obtain ⟨rfl, rfl⟩ := hp
            refine W.eq (g2 := F0 m 56 ls []) rfl ?_
            refine lv_goto (tgt := 84) hx hb dX3_addLine_56 (by decide) ?_
            refine lv_iinc (v := y7_20 + 1) (lv' := [(7, .int (y7_20 + 1)), (6, .int (r (2 * i + 1))), (0, .ref (a (6 + 2 * i))), (1, .int p0), (2, .int p1), (3, .int p2), (4, .long p3)]) hx hb dX3_addLine_84 hl (k := 0) rfl rfl (by decide) rfl (fun ls hl => ?_)
            refine lv_goto (tgt := 20) hx hb dX3_addLine_87 (by decide) ?_
            exact ih20 (y7_20 + 1) f43 _ _  (gap_step c30 hμ20) hR hB _ hl
    exact lp20 _ 0 f _ _  (Nat.lt_succ_self _) hR hB _ hl
  · replace hR := ifn c1 hR
    refine lv_aload_n hx hb dX3_addLine_4 rfl (lv_at hl 0 rfl) ?_
    refine gf hX hB (cwG (i := i) hi) rfl in3 1 (by decide) wm_1_46 rfl rfl dX3_addLine_5 ?_
    refine lv_goto (tgt := 15) hx hb dX3_addLine_8 (by decide) ?_
    refine lv_istore (lv' := [(6, .int (r (2 * i))), (0, .ref (a (6 + 2 * i))), (1, .int p0), (2, .int p1), (3, .int p2), (4, .long p3)]) hx hb dX3_addLine_15 hl (by decide) rfl (fun ls hl => ?_)
    refine lv_iconst (v := 0) hx hb dX3_addLine_17 (by decide) ?_
    refine lv_istore (lv' := [(7, .int 0), (6, .int (r (2 * i))), (0, .ref (a (6 + 2 * i))), (1, .int p0), (2, .int p1), (3, .int p2), (4, .long p3)]) hx hb dX3_addLine_18 hl (by decide) rfl (fun ls hl => ?_)
    have lp20 : ∀ (nn20 : Nat) (y7_20 : Int32) (f_20 : Nat → Nat → Int64) (H : Heap) (locs : List Loc), gap (r (2 * i)) y7_20 < nn20 → D_X3_addLine_20_1 r q i p0 p1 p2 p3 nn20 y7_20 f_20 = o_f → Bd κ A s (cw κ a r q f_20) H locs → ∀ ls : Array Slot, lv_has ls 8 [(7, .int y7_20), (6, .int (r (2 * i))), (0, .ref (a (6 + 2 * i))), (1, .int p0), (2, .int p1), (3, .int p2), (4, .long p3)] → W p l e (Rm 1 24 0 0) s m args below meth c H locs 0 0 Q (F0 m 20 ls []) := by
      intro nn20
      induction nn20 with
      | zero => intro y7_20 f_20 H locs hμ; exact absurd hμ (Nat.not_lt_zero _)
      | succ nn20 ih20 =>
        intro y7_20 f_20 H locs hμ20 hR hB ls hl
        replace hR := (D_X3_addLine_20_1_s).symm.trans hR
        refine lv_iload hx hb dX3_addLine_20 (lv_at hl 0 rfl) ?_
        refine lv_iload hx hb dX3_addLine_22 (lv_at hl 1 rfl) ?_
        refine lv_icmp_ge (tgt := 90) hx hb dX3_addLine_24 (by decide) (fun c72 => ?_) (fun c72 => ?_)
        · replace hR := ifp c72 hR
          rw [← hQ]
          exact end_v hX hB hA3 rfl (by obtain rfl := hR; exact ⟨rfl, rfl⟩) (Nat.le_of_ble_eq_true rfl) (Nat.le_of_ble_eq_true rfl) dX3_addLine_90
        · replace hR := ifn c72 hR
          refine lv_iload_n hx hb dX3_addLine_27 rfl (lv_at hl 3 rfl) ?_
          refine lv_if_eq (tgt := 59) hx hb dX3_addLine_28 (by decide) (fun c73 => ?_) (fun c73 => ?_)
          · replace hR := ifp c73 hR
            refine lv_aload_n hx hb dX3_addLine_59 rfl (lv_at hl 2 rfl) ?_
            refine lv_iload_n hx hb dX3_addLine_60 rfl (lv_at hl 4 rfl) ?_
            refine lv_iload hx hb dX3_addLine_61 (lv_at hl 0 rfl) ?_
            refine lv_aload_n hx hb dX3_addLine_63 rfl (lv_at hl 2 rfl) ?_
            refine lv_iload_n hx hb dX3_addLine_64 rfl (lv_at hl 4 rfl) ?_
            refine lv_iload hx hb dX3_addLine_65 (lv_at hl 0 rfl) ?_
            obtain ⟨x75, hd74⟩ := ex1 (D_X3_get r q f_20 i p1 y7_20)
            replace hR := bnd1_use hd74 hR
            refine call_V (n := 2) (As := [.int p1, .int y7_20]) (rest := [.int y7_20, .int p1, .ref (a (6 + 2 * i))]) hX hB (k_X3_get κ l a r q f_20 i p1 y7_20 hi x75 hd74) ⟨rfl, yk_X3_get⟩ wm_2_7 wm_1_187 wm_1_188 wm_1_2 wm_1_189 ⟨Nat.le_of_ble_eq_true rfl, Nat.le_of_ble_eq_true rfl⟩ ⟨Nat.le_of_ble_eq_true rfl, Nat.le_of_ble_eq_true rfl⟩ (cwG (i := i) hi) rfl rfl rfl hl.1 rfl (Nat.le_of_ble_eq_true rfl) dX3_addLine_67 (fun o w' H locs hp hB => ?_)
            obtain ⟨rfl, rfl⟩ := hp
            refine W.eq (g2 := F0 m 70 ls [.long x75, .int y7_20, .int p1, .ref (a (6 + 2 * i))]) rfl ?_
            refine lv_lload hx hb dX3_addLine_70 (lv_at hl 6 rfl) ?_
            refine lv_aload_n hx hb dX3_addLine_72 rfl (lv_at hl 2 rfl) ?_
            refine lv_iload_n hx hb dX3_addLine_73 rfl (lv_at hl 5 rfl) ?_
            refine lv_iload hx hb dX3_addLine_74 (lv_at hl 0 rfl) ?_
            obtain ⟨x77, hd76⟩ := ex1 (D_X3_get r q f_20 i p2 y7_20)
            replace hR := bnd1_use hd76 hR
            refine call_V (n := 2) (As := [.int p2, .int y7_20]) (rest := [.long p3, .long x75, .int y7_20, .int p1, .ref (a (6 + 2 * i))]) hX hB (k_X3_get κ l a r q f_20 i p2 y7_20 hi x77 hd76) ⟨rfl, yk_X3_get⟩ wm_2_7 wm_1_187 wm_1_188 wm_1_2 wm_1_189 ⟨Nat.le_of_ble_eq_true rfl, Nat.le_of_ble_eq_true rfl⟩ ⟨Nat.le_of_ble_eq_true rfl, Nat.le_of_ble_eq_true rfl⟩ (cwG (i := i) hi) rfl rfl rfl hl.1 rfl (Nat.le_of_ble_eq_true rfl) dX3_addLine_76 (fun o w' H locs hp hB => ?_)
            obtain ⟨rfl, rfl⟩ := hp
            refine W.eq (g2 := F0 m 79 ls [.long x77, .long p3, .long x75, .int y7_20, .int p1, .ref (a (6 + 2 * i))]) rfl ?_
            refine lv_lmul hx hb dX3_addLine_79 ?_
            refine lv_ladd hx hb dX3_addLine_80 ?_
            obtain ⟨f79, hd78⟩ := ex1 (D_X3_set r q f_20 i p1 y7_20 (x75 + (p3 * x77)))
            replace hR := bnd1_use hd78 hR
            refine call_V (n := 3) (As := [.int p1, .int y7_20, .long (x75 + (p3 * x77))]) (rest := []) hX hB (k_X3_set κ l a r q f_20 i p1 y7_20 (x75 + (p3 * x77)) hi f79 hd78) ⟨rfl, yk_X3_set⟩ wm_1_222 wm_1_223 wm_1_224 wm_1_2 wm_1_225 ⟨Nat.le_of_ble_eq_true rfl, Nat.le_of_ble_eq_true rfl⟩ ⟨Nat.le_of_ble_eq_true rfl, Nat.le_of_ble_eq_true rfl⟩ (cwG (i := i) hi) rfl rfl rfl hl.1 rfl (Nat.le_of_ble_eq_true rfl) dX3_addLine_81 (fun o w' H locs hp hB => ?_)
            obtain ⟨rfl, rfl⟩ := hp
            refine W.eq (g2 := F0 m 84 ls []) rfl ?_
            refine lv_iinc (v := y7_20 + 1) (lv' := [(7, .int (y7_20 + 1)), (6, .int (r (2 * i))), (0, .ref (a (6 + 2 * i))), (1, .int p0), (2, .int p1), (3, .int p2), (4, .long p3)]) hx hb dX3_addLine_84 hl (k := 0) rfl rfl (by decide) rfl (fun ls hl => ?_)
            refine lv_goto (tgt := 20) hx hb dX3_addLine_87 (by decide) ?_
            exact ih20 (y7_20 + 1) f79 _ _  (gap_step c72 hμ20) hR hB _ hl
          · replace hR := ifn c73 hR
            refine lv_aload_n hx hb dX3_addLine_31 rfl (lv_at hl 2 rfl) ?_
            refine lv_iload hx hb dX3_addLine_32 (lv_at hl 0 rfl) ?_
            refine lv_iload_n hx hb dX3_addLine_34 rfl (lv_at hl 4 rfl) ?_
            refine lv_aload_n hx hb dX3_addLine_35 rfl (lv_at hl 2 rfl) ?_
            refine lv_iload hx hb dX3_addLine_36 (lv_at hl 0 rfl) ?_
            refine lv_iload_n hx hb dX3_addLine_38 rfl (lv_at hl 4 rfl) ?_
            obtain ⟨x81, hd80⟩ := ex1 (D_X3_get r q f_20 i y7_20 p1)
            replace hR := bnd1_use hd80 hR
            refine call_V (n := 2) (As := [.int y7_20, .int p1]) (rest := [.int p1, .int y7_20, .ref (a (6 + 2 * i))]) hX hB (k_X3_get κ l a r q f_20 i y7_20 p1 hi x81 hd80) ⟨rfl, yk_X3_get⟩ wm_2_7 wm_1_187 wm_1_188 wm_1_2 wm_1_189 ⟨Nat.le_of_ble_eq_true rfl, Nat.le_of_ble_eq_true rfl⟩ ⟨Nat.le_of_ble_eq_true rfl, Nat.le_of_ble_eq_true rfl⟩ (cwG (i := i) hi) rfl rfl rfl hl.1 rfl (Nat.le_of_ble_eq_true rfl) dX3_addLine_39 (fun o w' H locs hp hB => ?_)
            obtain ⟨rfl, rfl⟩ := hp
            refine W.eq (g2 := F0 m 42 ls [.long x81, .int p1, .int y7_20, .ref (a (6 + 2 * i))]) rfl ?_
            refine lv_lload hx hb dX3_addLine_42 (lv_at hl 6 rfl) ?_
            refine lv_aload_n hx hb dX3_addLine_44 rfl (lv_at hl 2 rfl) ?_
            refine lv_iload hx hb dX3_addLine_45 (lv_at hl 0 rfl) ?_
            refine lv_iload_n hx hb dX3_addLine_47 rfl (lv_at hl 5 rfl) ?_
            obtain ⟨x83, hd82⟩ := ex1 (D_X3_get r q f_20 i y7_20 p2)
            replace hR := bnd1_use hd82 hR
            refine call_V (n := 2) (As := [.int y7_20, .int p2]) (rest := [.long p3, .long x81, .int p1, .int y7_20, .ref (a (6 + 2 * i))]) hX hB (k_X3_get κ l a r q f_20 i y7_20 p2 hi x83 hd82) ⟨rfl, yk_X3_get⟩ wm_2_7 wm_1_187 wm_1_188 wm_1_2 wm_1_189 ⟨Nat.le_of_ble_eq_true rfl, Nat.le_of_ble_eq_true rfl⟩ ⟨Nat.le_of_ble_eq_true rfl, Nat.le_of_ble_eq_true rfl⟩ (cwG (i := i) hi) rfl rfl rfl hl.1 rfl (Nat.le_of_ble_eq_true rfl) dX3_addLine_48 (fun o w' H locs hp hB => ?_)
            obtain ⟨rfl, rfl⟩ := hp
            refine W.eq (g2 := F0 m 51 ls [.long x83, .long p3, .long x81, .int p1, .int y7_20, .ref (a (6 + 2 * i))]) rfl ?_
            refine lv_lmul hx hb dX3_addLine_51 ?_
            refine lv_ladd hx hb dX3_addLine_52 ?_
            obtain ⟨f85, hd84⟩ := ex1 (D_X3_set r q f_20 i y7_20 p1 (x81 + (p3 * x83)))
            replace hR := bnd1_use hd84 hR
            refine call_V (n := 3) (As := [.int y7_20, .int p1, .long (x81 + (p3 * x83))]) (rest := []) hX hB (k_X3_set κ l a r q f_20 i y7_20 p1 (x81 + (p3 * x83)) hi f85 hd84) ⟨rfl, yk_X3_set⟩ wm_1_222 wm_1_223 wm_1_224 wm_1_2 wm_1_225 ⟨Nat.le_of_ble_eq_true rfl, Nat.le_of_ble_eq_true rfl⟩ ⟨Nat.le_of_ble_eq_true rfl, Nat.le_of_ble_eq_true rfl⟩ (cwG (i := i) hi) rfl rfl rfl hl.1 rfl (Nat.le_of_ble_eq_true rfl) dX3_addLine_53 (fun o w' H locs hp hB => ?_)
            obtain ⟨rfl, rfl⟩ := hp
            refine W.eq (g2 := F0 m 56 ls []) rfl ?_
            refine lv_goto (tgt := 84) hx hb dX3_addLine_56 (by decide) ?_
            refine lv_iinc (v := y7_20 + 1) (lv' := [(7, .int (y7_20 + 1)), (6, .int (r (2 * i))), (0, .ref (a (6 + 2 * i))), (1, .int p0), (2, .int p1), (3, .int p2), (4, .long p3)]) hx hb dX3_addLine_84 hl (k := 0) rfl rfl (by decide) rfl (fun ls hl => ?_)
            refine lv_goto (tgt := 20) hx hb dX3_addLine_87 (by decide) ?_
            exact ih20 (y7_20 + 1) f85 _ _  (gap_step c72 hμ20) hR hB _ hl
    exact lp20 _ 0 f _ _  (Nat.lt_succ_self _) hR hB _ hl
noncomputable def D_X3_countUnlike_15 (r : Nat → Int32) (q : Nat → Int32) (f : Nat → Nat → Int64) (i : Nat) (j : Nat) (lb4 : Int32 → Int32 → Int32) (y3_4 : Int32) (nn : Nat) : Int32 → Int32 → Int32 := @Nat.rec (fun _ => Int32 → Int32 → Int32) (fun _ _ => default) (fun _ lb15 (y4_15 : Int32) (y2_15 : Int32) => (if (r (2 * i + 1)) ≤ y4_15 then (lb4 (y3_4 + 1) y2_15) else bnd1 (D_X3_get r q f i y3_4 y4_15) (fun (x54 : Int64) => bnd1 (D_X3_get r q f j y3_4 y4_15) (fun (x56 : Int64) => (if (lg_cmp x54 x56) = 0 then (lb15 (y4_15 + 1) y2_15) else (lb15 (y4_15 + 1) (y2_15 + 1))))))) nn
theorem D_X3_countUnlike_15_s {r : Nat → Int32} {q : Nat → Int32} {f : Nat → Nat → Int64} {i : Nat} {j : Nat} {lb4 : Int32 → Int32 → Int32} {y3_4 : Int32} {nn : Nat} {y4_15 : Int32} {y2_15 : Int32} : D_X3_countUnlike_15 r q f i j lb4 y3_4 (nn + 1) y4_15 y2_15 = (if (r (2 * i + 1)) ≤ y4_15 then (lb4 (y3_4 + 1) y2_15) else bnd1 (D_X3_get r q f i y3_4 y4_15) (fun (x54 : Int64) => bnd1 (D_X3_get r q f j y3_4 y4_15) (fun (x56 : Int64) => (if (lg_cmp x54 x56) = 0 then ((D_X3_countUnlike_15 r q f i j lb4 y3_4 nn) (y4_15 + 1) y2_15) else ((D_X3_countUnlike_15 r q f i j lb4 y3_4 nn) (y4_15 + 1) (y2_15 + 1)))))) := rfl
noncomputable def D_X3_countUnlike_4 (r : Nat → Int32) (q : Nat → Int32) (f : Nat → Nat → Int64) (i : Nat) (j : Nat) (nn : Nat) : Int32 → Int32 → Int32 := @Nat.rec (fun _ => Int32 → Int32 → Int32) (fun _ _ => default) (fun _ lb4 (y3_4 : Int32) (y2_4 : Int32) => (if (r (2 * i)) ≤ y3_4 then y2_4 else (D_X3_countUnlike_15 r q f i j lb4 y3_4 (gap (r (2 * i + 1)) 0 + 1) 0 y2_4))) nn
theorem D_X3_countUnlike_4_s {r : Nat → Int32} {q : Nat → Int32} {f : Nat → Nat → Int64} {i : Nat} {j : Nat} {nn : Nat} {y3_4 : Int32} {y2_4 : Int32} : D_X3_countUnlike_4 r q f i j (nn + 1) y3_4 y2_4 = (if (r (2 * i)) ≤ y3_4 then y2_4 else (D_X3_countUnlike_15 r q f i j (D_X3_countUnlike_4 r q f i j nn) y3_4 (gap (r (2 * i + 1)) 0 + 1) 0 y2_4)) := rfl
noncomputable def D_X3_countUnlike (r : Nat → Int32) (q : Nat → Int32) (f : Nat → Nat → Int64) (i : Nat) (j : Nat) : Int32 := (D_X3_countUnlike_4 r q f i j (gap (r (2 * i)) 0 + 1) 0 0)
theorem D_X3_countUnlike_s {r : Nat → Int32} {q : Nat → Int32} {f : Nat → Nat → Int64} {i : Nat} {j : Nat} : D_X3_countUnlike r q f i j = (D_X3_countUnlike_4 r q f i j (gap (r (2 * i)) 0 + 1) 0 0) := rfl
set_option maxHeartbeats 4000000 in
set_option maxRecDepth 100000 in
theorem k_X3_countUnlike (κ : Kt) (l : Launch) (a : Nat → Nat) (r q : Nat → Int32) (f : Nat → Nat → Int64) (i : Nat) (j : Nat) (hi : i < 15) (hj : j < 15) (o_x : Int32) (hR : D_X3_countUnlike r q f i j = o_x) : CM κ l yX3_countUnlike cX3_countUnlike 5 (some .int) 1 22 0 0 [.ref (a (6 + 2 * i)), .ref (a (6 + 2 * j))] (cw κ a r q f) (fun o w' => o = some (.int o_x) ∧ w' = cw κ a r q f) := by
  refine CM_begin (plainFor_of_name pn_RX3) (Nat.le_of_ble_eq_true rfl) ?_
  intro p e s m args below meth c A Q hX hnm hA3 hQ hB ls hl
  have hx := hX.1.1
  have hb := hX.1.2.1
  have hl : lv_has ls 5 [(0, .ref (a (6 + 2 * i))), (1, .ref (a (6 + 2 * j)))] := hl
  replace hR := (D_X3_countUnlike_s).symm.trans hR
  refine lv_iconst (v := 0) hx hb dX3_countUnlike_0 (by decide) ?_
  refine lv_istore_n (lv' := [(2, .int 0), (0, .ref (a (6 + 2 * i))), (1, .ref (a (6 + 2 * j)))]) hx hb dX3_countUnlike_1 rfl hl (by decide) rfl (fun ls hl => ?_)
  refine lv_iconst (v := 0) hx hb dX3_countUnlike_2 (by decide) ?_
  refine lv_istore_n (lv' := [(3, .int 0), (2, .int 0), (0, .ref (a (6 + 2 * i))), (1, .ref (a (6 + 2 * j)))]) hx hb dX3_countUnlike_3 rfl hl (by decide) rfl (fun ls hl => ?_)
  have lp4 : ∀ (nn4 : Nat) (y3_4 : Int32) (y2_4 : Int32) (H : Heap) (locs : List Loc), gap (r (2 * i)) y3_4 < nn4 → D_X3_countUnlike_4 r q f i j nn4 y3_4 y2_4 = o_x → Bd κ A s (cw κ a r q f) H locs → ∀ ls : Array Slot, lv_has ls 5 [(3, .int y3_4), (2, .int y2_4), (0, .ref (a (6 + 2 * i))), (1, .ref (a (6 + 2 * j)))] → W p l e (Rm 1 22 0 0) s m args below meth c H locs 0 0 Q (F0 m 4 ls []) := by
    intro nn4
    induction nn4 with
    | zero => intro y3_4 y2_4 H locs hμ; exact absurd hμ (Nat.not_lt_zero _)
    | succ nn4 ih4 =>
      intro y3_4 y2_4 H locs hμ4 hR hB ls hl
      replace hR := (D_X3_countUnlike_4_s).symm.trans hR
      refine lv_iload_n hx hb dX3_countUnlike_4 rfl (lv_at hl 0 rfl) ?_
      refine lv_aload_n hx hb dX3_countUnlike_5 rfl (lv_at hl 2 rfl) ?_
      refine gf hX hB (cwG (i := i) hi) rfl in3 1 (by decide) wm_1_46 rfl rfl dX3_countUnlike_6 ?_
      refine lv_icmp_ge (tgt := 57) hx hb dX3_countUnlike_9 (by decide) (fun c39 => ?_) (fun c39 => ?_)
      · replace hR := ifp c39 hR
        refine lv_iload_n hx hb dX3_countUnlike_57 rfl (lv_at hl 1 rfl) ?_
        rw [← hQ]
        exact end_i hX hB hA3 rfl rfl (by obtain rfl := hR; exact ⟨rfl, rfl⟩) (Nat.le_of_ble_eq_true rfl) (Nat.le_of_ble_eq_true rfl) dX3_countUnlike_58
      · replace hR := ifn c39 hR
        refine lv_iconst (v := 0) hx hb dX3_countUnlike_12 (by decide) ?_
        refine lv_istore (lv' := [(4, .int 0), (3, .int y3_4), (2, .int y2_4), (0, .ref (a (6 + 2 * i))), (1, .ref (a (6 + 2 * j)))]) hx hb dX3_countUnlike_13 hl (by decide) rfl (fun ls hl => ?_)
        have lp15 : ∀ (nn15 : Nat) (y4_15 : Int32) (y2_15 : Int32) (H : Heap) (locs : List Loc), gap (r (2 * i + 1)) y4_15 < nn15 → D_X3_countUnlike_15 r q f i j (D_X3_countUnlike_4 r q f i j nn4) y3_4 nn15 y4_15 y2_15 = o_x → Bd κ A s (cw κ a r q f) H locs → ∀ ls : Array Slot, lv_has ls 5 [(4, .int y4_15), (3, .int y3_4), (2, .int y2_15), (0, .ref (a (6 + 2 * i))), (1, .ref (a (6 + 2 * j)))] → W p l e (Rm 1 22 0 0) s m args below meth c H locs 0 0 Q (F0 m 15 ls []) := by
          intro nn15
          induction nn15 with
          | zero => intro y4_15 y2_15 H locs hμ; exact absurd hμ (Nat.not_lt_zero _)
          | succ nn15 ih15 =>
            intro y4_15 y2_15 H locs hμ15 hR hB ls hl
            replace hR := (D_X3_countUnlike_15_s).symm.trans hR
            refine lv_iload hx hb dX3_countUnlike_15 (lv_at hl 0 rfl) ?_
            refine lv_aload_n hx hb dX3_countUnlike_17 rfl (lv_at hl 3 rfl) ?_
            refine gf hX hB (cwG (i := i) hi) rfl in3 2 (by decide) wm_1_52 rfl rfl dX3_countUnlike_18 ?_
            refine lv_icmp_ge (tgt := 51) hx hb dX3_countUnlike_21 (by decide) (fun c52 => ?_) (fun c52 => ?_)
            · replace hR := ifp c52 hR
              refine lv_iinc (v := y3_4 + 1) (lv' := [(3, .int (y3_4 + 1)), (4, .int y4_15), (2, .int y2_15), (0, .ref (a (6 + 2 * i))), (1, .ref (a (6 + 2 * j)))]) hx hb dX3_countUnlike_51 hl (k := 1) rfl rfl (by decide) rfl (fun ls hl => ?_)
              refine lv_goto (tgt := 4) hx hb dX3_countUnlike_54 (by decide) ?_
              exact ih4 (y3_4 + 1) y2_15 _ _  (gap_step c39 hμ4) hR hB _ (lv_sub hl [0, 2, 3, 4] rfl)
            · replace hR := ifn c52 hR
              refine lv_aload_n hx hb dX3_countUnlike_24 rfl (lv_at hl 3 rfl) ?_
              refine lv_iload_n hx hb dX3_countUnlike_25 rfl (lv_at hl 1 rfl) ?_
              refine lv_iload hx hb dX3_countUnlike_26 (lv_at hl 0 rfl) ?_
              obtain ⟨x54, hd53⟩ := ex1 (D_X3_get r q f i y3_4 y4_15)
              replace hR := bnd1_use hd53 hR
              refine call_V (n := 2) (As := [.int y3_4, .int y4_15]) (rest := []) hX hB (k_X3_get κ l a r q f i y3_4 y4_15 hi x54 hd53) ⟨rfl, yk_X3_get⟩ wm_2_7 wm_1_187 wm_1_188 wm_1_2 wm_1_189 ⟨Nat.le_of_ble_eq_true rfl, Nat.le_of_ble_eq_true rfl⟩ ⟨Nat.le_of_ble_eq_true rfl, Nat.le_of_ble_eq_true rfl⟩ (cwG (i := i) hi) rfl rfl rfl hl.1 rfl (Nat.le_of_ble_eq_true rfl) dX3_countUnlike_28 (fun o w' H locs hp hB => ?_)
              obtain ⟨rfl, rfl⟩ := hp
              refine W.eq (g2 := F0 m 31 ls [.long x54]) rfl ?_
              refine lv_aload_n hx hb dX3_countUnlike_31 rfl (lv_at hl 4 rfl) ?_
              refine lv_iload_n hx hb dX3_countUnlike_32 rfl (lv_at hl 1 rfl) ?_
              refine lv_iload hx hb dX3_countUnlike_33 (lv_at hl 0 rfl) ?_
              obtain ⟨x56, hd55⟩ := ex1 (D_X3_get r q f j y3_4 y4_15)
              replace hR := bnd1_use hd55 hR
              refine call_V (n := 2) (As := [.int y3_4, .int y4_15]) (rest := [.long x54]) hX hB (k_X3_get κ l a r q f j y3_4 y4_15 hj x56 hd55) ⟨rfl, yk_X3_get⟩ wm_2_7 wm_1_187 wm_1_188 wm_1_2 wm_1_189 ⟨Nat.le_of_ble_eq_true rfl, Nat.le_of_ble_eq_true rfl⟩ ⟨Nat.le_of_ble_eq_true rfl, Nat.le_of_ble_eq_true rfl⟩ (cwG (i := j) hj) rfl rfl rfl hl.1 rfl (Nat.le_of_ble_eq_true rfl) dX3_countUnlike_35 (fun o w' H locs hp hB => ?_)
              obtain ⟨rfl, rfl⟩ := hp
              refine W.eq (g2 := F0 m 38 ls [.long x56, .long x54]) rfl ?_
              refine W.lcmp hx hb dX3_countUnlike_38 ?_
              refine lv_if_eq (tgt := 45) hx hb dX3_countUnlike_39 (by decide) (fun c57 => ?_) (fun c57 => ?_)
              · replace hR := ifp c57 hR
                refine lv_iinc (v := y4_15 + 1) (lv' := [(4, .int (y4_15 + 1)), (3, .int y3_4), (2, .int y2_15), (0, .ref (a (6 + 2 * i))), (1, .ref (a (6 + 2 * j)))]) hx hb dX3_countUnlike_45 hl (k := 0) rfl rfl (by decide) rfl (fun ls hl => ?_)
                refine lv_goto (tgt := 15) hx hb dX3_countUnlike_48 (by decide) ?_
                exact ih15 (y4_15 + 1) y2_15 _ _  (gap_step c52 hμ15) hR hB _ hl
              · replace hR := ifn c57 hR
                refine lv_iinc (v := y2_15 + 1) (lv' := [(2, .int (y2_15 + 1)), (4, .int y4_15), (3, .int y3_4), (0, .ref (a (6 + 2 * i))), (1, .ref (a (6 + 2 * j)))]) hx hb dX3_countUnlike_42 hl (k := 2) rfl rfl (by decide) rfl (fun ls hl => ?_)
                refine lv_iinc (v := y4_15 + 1) (lv' := [(4, .int (y4_15 + 1)), (2, .int (y2_15 + 1)), (3, .int y3_4), (0, .ref (a (6 + 2 * i))), (1, .ref (a (6 + 2 * j)))]) hx hb dX3_countUnlike_45 hl (k := 1) rfl rfl (by decide) rfl (fun ls hl => ?_)
                refine lv_goto (tgt := 15) hx hb dX3_countUnlike_48 (by decide) ?_
                exact ih15 (y4_15 + 1) (y2_15 + 1) _ _  (gap_step c52 hμ15) hR hB _ (lv_sub hl [0, 2, 1, 3, 4] rfl)
        exact lp15 _ 0 y2_4 _ _  (Nat.lt_succ_self _) hR hB _ hl
  exact lp4 _ 0 0 _ _  (Nat.lt_succ_self _) hR hB _ hl
noncomputable def D_X3_isLike (r : Nat → Int32) (q : Nat → Int32) (f : Nat → Nat → Int64) (i : Nat) (j : Nat) : Int32 := (if (r (2 * i)) = (r (2 * j)) then (if (r (2 * i + 1)) = (r (2 * j + 1)) then bnd1 (D_X3_countUnlike r q f i j) (fun (x4 : Int32) => (if x4 = 0 then 1 else 0)) else 0) else 0)
theorem D_X3_isLike_s {r : Nat → Int32} {q : Nat → Int32} {f : Nat → Nat → Int64} {i : Nat} {j : Nat} : D_X3_isLike r q f i j = (if (r (2 * i)) = (r (2 * j)) then (if (r (2 * i + 1)) = (r (2 * j + 1)) then bnd1 (D_X3_countUnlike r q f i j) (fun (x4 : Int32) => (if x4 = 0 then 1 else 0)) else 0) else 0) := rfl
set_option maxHeartbeats 4000000 in
set_option maxRecDepth 100000 in
theorem k_X3_isLike (κ : Kt) (l : Launch) (a : Nat → Nat) (r q : Nat → Int32) (f : Nat → Nat → Int64) (i : Nat) (j : Nat) (hi : i < 15) (hj : j < 15) (o_x : Int32) (hR : D_X3_isLike r q f i j = o_x) : CM κ l yX3_isLike cX3_isLike 2 (some .boolean) 2 46 0 0 [.ref (a (6 + 2 * i)), .ref (a (6 + 2 * j))] (cw κ a r q f) (fun o w' => o = some (.int o_x) ∧ (o_x = 0 ∨ o_x = 1) ∧ w' = cw κ a r q f) := by
  refine CM_begin (plainFor_of_name pn_RX3) (Nat.le_of_ble_eq_true rfl) ?_
  intro p e s m args below meth c A Q hX hnm hA3 hQ hB ls hl
  have hx := hX.1.1
  have hb := hX.1.2.1
  have hl : lv_has ls 2 [(0, .ref (a (6 + 2 * i))), (1, .ref (a (6 + 2 * j)))] := hl
  replace hR := (D_X3_isLike_s).symm.trans hR
  refine lv_aload_n hx hb dX3_isLike_0 rfl (lv_at hl 0 rfl) ?_
  refine gf hX hB (cwG (i := i) hi) rfl in3 1 (by decide) wm_1_46 rfl rfl dX3_isLike_1 ?_
  refine lv_aload_n hx hb dX3_isLike_4 rfl (lv_at hl 1 rfl) ?_
  refine gf hX hB (cwG (i := j) hj) rfl in3 1 (by decide) wm_1_46 rfl rfl dX3_isLike_5 ?_
  refine lv_icmp_ne (tgt := 34) hx hb dX3_isLike_8 (by decide) (fun c1 => ?_) (fun c1 => ?_)
  · replace hR := ifn c1 hR
    refine lv_iconst (v := 0) hx hb dX3_isLike_34 (by decide) ?_
    rw [← hQ]
    exact end_i hX hB hA3 rfl rfl (by obtain rfl := hR; exact ⟨rfl, Or.inl rfl, rfl⟩) (Nat.le_of_ble_eq_true rfl) (Nat.le_of_ble_eq_true rfl) dX3_isLike_35
  · replace hR := ifp c1 hR
    refine lv_aload_n hx hb dX3_isLike_11 rfl (lv_at hl 0 rfl) ?_
    refine gf hX hB (cwG (i := i) hi) rfl in3 2 (by decide) wm_1_52 rfl rfl dX3_isLike_12 ?_
    refine lv_aload_n hx hb dX3_isLike_15 rfl (lv_at hl 1 rfl) ?_
    refine gf hX hB (cwG (i := j) hj) rfl in3 2 (by decide) wm_1_52 rfl rfl dX3_isLike_16 ?_
    refine lv_icmp_ne (tgt := 34) hx hb dX3_isLike_19 (by decide) (fun c2 => ?_) (fun c2 => ?_)
    · replace hR := ifn c2 hR
      refine lv_iconst (v := 0) hx hb dX3_isLike_34 (by decide) ?_
      rw [← hQ]
      exact end_i hX hB hA3 rfl rfl (by obtain rfl := hR; exact ⟨rfl, Or.inl rfl, rfl⟩) (Nat.le_of_ble_eq_true rfl) (Nat.le_of_ble_eq_true rfl) dX3_isLike_35
    · replace hR := ifp c2 hR
      refine lv_aload_n hx hb dX3_isLike_22 rfl (lv_at hl 0 rfl) ?_
      refine lv_aload_n hx hb dX3_isLike_23 rfl (lv_at hl 1 rfl) ?_
      obtain ⟨x4, hd3⟩ := ex1 (D_X3_countUnlike r q f i j)
      replace hR := bnd1_use hd3 hR
      refine call_V (n := 1) (As := [.ref (a (6 + 2 * j))]) (rest := []) hX hB (k_X3_countUnlike κ l a r q f i j hi hj x4 hd3) ⟨rfl, yk_X3_countUnlike⟩ wm_2_48 wm_2_49 wm_2_50 wm_1_2 wm_2_51 ⟨Nat.le_of_ble_eq_true rfl, Nat.le_of_ble_eq_true rfl⟩ ⟨Nat.le_of_ble_eq_true rfl, Nat.le_of_ble_eq_true rfl⟩ (cwG (i := i) hi) rfl rfl rfl hl.1 rfl (Nat.le_of_ble_eq_true rfl) dX3_isLike_24 (fun o w' H locs hp hB => ?_)
      obtain ⟨rfl, rfl⟩ := hp
      refine W.eq (g2 := F0 m 27 ls [.int x4]) rfl ?_
      refine lv_if_ne (tgt := 34) hx hb dX3_isLike_27 (by decide) (fun c5 => ?_) (fun c5 => ?_)
      · replace hR := ifn c5 hR
        refine lv_iconst (v := 0) hx hb dX3_isLike_34 (by decide) ?_
        rw [← hQ]
        exact end_i hX hB hA3 rfl rfl (by obtain rfl := hR; exact ⟨rfl, Or.inl rfl, rfl⟩) (Nat.le_of_ble_eq_true rfl) (Nat.le_of_ble_eq_true rfl) dX3_isLike_35
      · replace hR := ifp c5 hR
        refine lv_iconst (v := 1) hx hb dX3_isLike_30 (by decide) ?_
        refine lv_goto (tgt := 35) hx hb dX3_isLike_31 (by decide) ?_
        rw [← hQ]
        exact end_i hX hB hA3 rfl rfl (by obtain rfl := hR; exact ⟨rfl, Or.inr rfl, rfl⟩) (Nat.le_of_ble_eq_true rfl) (Nat.le_of_ble_eq_true rfl) dX3_isLike_35
noncomputable def D_X3_isWithin_13 (r : Nat → Int32) (q : Nat → Int32) (f : Nat → Nat → Int64) (i : Nat) (p0 : Int64) (lb2 : Int32 → Int32) (y3_2 : Int32) (nn : Nat) : Int32 → Int32 := @Nat.rec (fun _ => Int32 → Int32) (fun _ => default) (fun _ lb13 (y4_13 : Int32) => (if (r (2 * i + 1)) ≤ y4_13 then (lb2 (y3_2 + 1)) else bnd1 (D_X3_get r q f i y3_2 y4_13) (fun (x46 : Int64) => nm ((if 0 < x46 then x46 else -x46) : Int64) (fun (t47 : Int64) => (if (lg_cmp t47 p0) ≤ 0 then (lb13 (y4_13 + 1)) else 0))))) nn
theorem D_X3_isWithin_13_s {r : Nat → Int32} {q : Nat → Int32} {f : Nat → Nat → Int64} {i : Nat} {p0 : Int64} {lb2 : Int32 → Int32} {y3_2 : Int32} {nn : Nat} {y4_13 : Int32} : D_X3_isWithin_13 r q f i p0 lb2 y3_2 (nn + 1) y4_13 = (if (r (2 * i + 1)) ≤ y4_13 then (lb2 (y3_2 + 1)) else bnd1 (D_X3_get r q f i y3_2 y4_13) (fun (x46 : Int64) => nm ((if 0 < x46 then x46 else -x46) : Int64) (fun (t47 : Int64) => (if (lg_cmp t47 p0) ≤ 0 then ((D_X3_isWithin_13 r q f i p0 lb2 y3_2 nn) (y4_13 + 1)) else 0)))) := rfl
noncomputable def D_X3_isWithin_2 (r : Nat → Int32) (q : Nat → Int32) (f : Nat → Nat → Int64) (i : Nat) (p0 : Int64) (nn : Nat) : Int32 → Int32 := @Nat.rec (fun _ => Int32 → Int32) (fun _ => default) (fun _ lb2 (y3_2 : Int32) => (if (r (2 * i)) ≤ y3_2 then 1 else (D_X3_isWithin_13 r q f i p0 lb2 y3_2 (gap (r (2 * i + 1)) 0 + 1) 0))) nn
theorem D_X3_isWithin_2_s {r : Nat → Int32} {q : Nat → Int32} {f : Nat → Nat → Int64} {i : Nat} {p0 : Int64} {nn : Nat} {y3_2 : Int32} : D_X3_isWithin_2 r q f i p0 (nn + 1) y3_2 = (if (r (2 * i)) ≤ y3_2 then 1 else (D_X3_isWithin_13 r q f i p0 (D_X3_isWithin_2 r q f i p0 nn) y3_2 (gap (r (2 * i + 1)) 0 + 1) 0)) := rfl
noncomputable def D_X3_isWithin (r : Nat → Int32) (q : Nat → Int32) (f : Nat → Nat → Int64) (i : Nat) (p0 : Int64) : Int32 := (D_X3_isWithin_2 r q f i p0 (gap (r (2 * i)) 0 + 1) 0)
theorem D_X3_isWithin_s {r : Nat → Int32} {q : Nat → Int32} {f : Nat → Nat → Int64} {i : Nat} {p0 : Int64} : D_X3_isWithin r q f i p0 = (D_X3_isWithin_2 r q f i p0 (gap (r (2 * i)) 0 + 1) 0) := rfl
set_option maxHeartbeats 4000000 in
set_option maxRecDepth 100000 in
theorem k_X3_isWithin (κ : Kt) (l : Launch) (a : Nat → Nat) (r q : Nat → Int32) (f : Nat → Nat → Int64) (i : Nat) (p0 : Int64) (hi : i < 15) (o_x : Int32) (hR : D_X3_isWithin r q f i p0 = o_x) : CM κ l yX3_isWithin cX3_isWithin 5 (some .boolean) 1 22 0 0 [.ref (a (6 + 2 * i)), .long p0] (cw κ a r q f) (fun o w' => o = some (.int o_x) ∧ (o_x = 0 ∨ o_x = 1) ∧ w' = cw κ a r q f) := by
  refine CM_begin (plainFor_of_name pn_RX3) (Nat.le_of_ble_eq_true rfl) ?_
  intro p e s m args below meth c A Q hX hnm hA3 hQ hB ls hl
  have hx := hX.1.1
  have hb := hX.1.2.1
  have hl : lv_has ls 5 [(0, .ref (a (6 + 2 * i))), (1, .long p0)] := hl
  replace hR := (D_X3_isWithin_s).symm.trans hR
  refine lv_iconst (v := 0) hx hb dX3_isWithin_0 (by decide) ?_
  refine lv_istore_n (lv' := [(3, .int 0), (0, .ref (a (6 + 2 * i))), (1, .long p0)]) hx hb dX3_isWithin_1 rfl hl (by decide) rfl (fun ls hl => ?_)
  have lp2 : ∀ (nn2 : Nat) (y3_2 : Int32) (H : Heap) (locs : List Loc), gap (r (2 * i)) y3_2 < nn2 → D_X3_isWithin_2 r q f i p0 nn2 y3_2 = o_x → Bd κ A s (cw κ a r q f) H locs → ∀ ls : Array Slot, lv_has ls 5 [(3, .int y3_2), (0, .ref (a (6 + 2 * i))), (1, .long p0)] → W p l e (Rm 1 22 0 0) s m args below meth c H locs 0 0 Q (F0 m 2 ls []) := by
    intro nn2
    induction nn2 with
    | zero => intro y3_2 H locs hμ; exact absurd hμ (Nat.not_lt_zero _)
    | succ nn2 ih2 =>
      intro y3_2 H locs hμ2 hR hB ls hl
      replace hR := (D_X3_isWithin_2_s).symm.trans hR
      refine lv_iload_n hx hb dX3_isWithin_2 rfl (lv_at hl 0 rfl) ?_
      refine lv_aload_n hx hb dX3_isWithin_3 rfl (lv_at hl 1 rfl) ?_
      refine gf hX hB (cwG (i := i) hi) rfl in3 1 (by decide) wm_1_46 rfl rfl dX3_isWithin_4 ?_
      refine lv_icmp_ge (tgt := 51) hx hb dX3_isWithin_7 (by decide) (fun c33 => ?_) (fun c33 => ?_)
      · replace hR := ifp c33 hR
        refine lv_iconst (v := 1) hx hb dX3_isWithin_51 (by decide) ?_
        rw [← hQ]
        exact end_i hX hB hA3 rfl rfl (by obtain rfl := hR; exact ⟨rfl, Or.inr rfl, rfl⟩) (Nat.le_of_ble_eq_true rfl) (Nat.le_of_ble_eq_true rfl) dX3_isWithin_52
      · replace hR := ifn c33 hR
        refine lv_iconst (v := 0) hx hb dX3_isWithin_10 (by decide) ?_
        refine lv_istore (lv' := [(4, .int 0), (3, .int y3_2), (0, .ref (a (6 + 2 * i))), (1, .long p0)]) hx hb dX3_isWithin_11 hl (by decide) rfl (fun ls hl => ?_)
        have lp13 : ∀ (nn13 : Nat) (y4_13 : Int32) (H : Heap) (locs : List Loc), gap (r (2 * i + 1)) y4_13 < nn13 → D_X3_isWithin_13 r q f i p0 (D_X3_isWithin_2 r q f i p0 nn2) y3_2 nn13 y4_13 = o_x → Bd κ A s (cw κ a r q f) H locs → ∀ ls : Array Slot, lv_has ls 5 [(4, .int y4_13), (3, .int y3_2), (0, .ref (a (6 + 2 * i))), (1, .long p0)] → W p l e (Rm 1 22 0 0) s m args below meth c H locs 0 0 Q (F0 m 13 ls []) := by
          intro nn13
          induction nn13 with
          | zero => intro y4_13 H locs hμ; exact absurd hμ (Nat.not_lt_zero _)
          | succ nn13 ih13 =>
            intro y4_13 H locs hμ13 hR hB ls hl
            replace hR := (D_X3_isWithin_13_s).symm.trans hR
            refine lv_iload hx hb dX3_isWithin_13 (lv_at hl 0 rfl) ?_
            refine lv_aload_n hx hb dX3_isWithin_15 rfl (lv_at hl 2 rfl) ?_
            refine gf hX hB (cwG (i := i) hi) rfl in3 2 (by decide) wm_1_52 rfl rfl dX3_isWithin_16 ?_
            refine lv_icmp_ge (tgt := 45) hx hb dX3_isWithin_19 (by decide) (fun c44 => ?_) (fun c44 => ?_)
            · replace hR := ifp c44 hR
              refine lv_iinc (v := y3_2 + 1) (lv' := [(3, .int (y3_2 + 1)), (4, .int y4_13), (0, .ref (a (6 + 2 * i))), (1, .long p0)]) hx hb dX3_isWithin_45 hl (k := 1) rfl rfl (by decide) rfl (fun ls hl => ?_)
              refine lv_goto (tgt := 2) hx hb dX3_isWithin_48 (by decide) ?_
              exact ih2 (y3_2 + 1) _ _  (gap_step c33 hμ2) hR hB _ (lv_sub hl [0, 2, 3] rfl)
            · replace hR := ifn c44 hR
              refine lv_aload_n hx hb dX3_isWithin_22 rfl (lv_at hl 2 rfl) ?_
              refine lv_iload_n hx hb dX3_isWithin_23 rfl (lv_at hl 1 rfl) ?_
              refine lv_iload hx hb dX3_isWithin_24 (lv_at hl 0 rfl) ?_
              obtain ⟨x46, hd45⟩ := ex1 (D_X3_get r q f i y3_2 y4_13)
              replace hR := bnd1_use hd45 hR
              refine call_V (n := 2) (As := [.int y3_2, .int y4_13]) (rest := []) hX hB (k_X3_get κ l a r q f i y3_2 y4_13 hi x46 hd45) ⟨rfl, yk_X3_get⟩ wm_2_7 wm_1_187 wm_1_188 wm_1_2 wm_1_189 ⟨Nat.le_of_ble_eq_true rfl, Nat.le_of_ble_eq_true rfl⟩ ⟨Nat.le_of_ble_eq_true rfl, Nat.le_of_ble_eq_true rfl⟩ (cwG (i := i) hi) rfl rfl rfl hl.1 rfl (Nat.le_of_ble_eq_true rfl) dX3_isWithin_26 (fun o w' H locs hp hB => ?_)
              obtain ⟨rfl, rfl⟩ := hp
              refine W.eq (g2 := F0 m 29 ls [.long x46]) rfl ?_
              refine va_mabs_long hx hb (by rw [hX.1.2.2.1]; exact hl.1.symm) hX.1.2.2.2.1 (hX.1.2.2.2.2 _ wm_2_31) (hX.1.2.2.2.2 _ wm_1_237) (hX.1.2.2.2.2 _ wm_1_14) (hX.1.2.2.2.2 _ wm_1_238) (Nat.le_of_ble_eq_true rfl) (Nat.le_of_ble_eq_true rfl) (Nat.le_of_ble_eq_true rfl) (Nat.le_of_ble_eq_true rfl) dX3_isWithin_29 ?_
              refine lv_topl (fun t47 et47 => ?_)
              replace hR := nm_use et47 hR
              refine lv_lload_n hx hb dX3_isWithin_32 rfl (lv_at hl 3 rfl) ?_
              refine W.lcmp hx hb dX3_isWithin_33 ?_
              refine lv_if_le (tgt := 39) hx hb dX3_isWithin_34 (by decide) (fun c48 => ?_) (fun c48 => ?_)
              · replace hR := ifp c48 hR
                refine lv_iinc (v := y4_13 + 1) (lv' := [(4, .int (y4_13 + 1)), (3, .int y3_2), (0, .ref (a (6 + 2 * i))), (1, .long p0)]) hx hb dX3_isWithin_39 hl (k := 0) rfl rfl (by decide) rfl (fun ls hl => ?_)
                refine lv_goto (tgt := 13) hx hb dX3_isWithin_42 (by decide) ?_
                exact ih13 (y4_13 + 1) _ _  (gap_step c44 hμ13) hR hB _ hl
              · replace hR := ifn c48 hR
                refine lv_iconst (v := 0) hx hb dX3_isWithin_37 (by decide) ?_
                rw [← hQ]
                exact end_i hX hB hA3 rfl rfl (by obtain rfl := hR; exact ⟨rfl, Or.inl rfl, rfl⟩) (Nat.le_of_ble_eq_true rfl) (Nat.le_of_ble_eq_true rfl) dX3_isWithin_38
        exact lp13 _ 0 _ _  (Nat.lt_succ_self _) hR hB _ hl
  exact lp2 _ 0 _ _  (Nat.lt_succ_self _) hR hB _ hl
noncomputable def D_X3_mix_37 (r : Nat → Int32) (q : Nat → Int32) (f : Nat → Nat → Int64) (i : Nat) (lb25 : Int32 → Int64 → Int64) (y5_25 : Int32) (nn : Nat) : Int32 → Int64 → Int64 := @Nat.rec (fun _ => Int32 → Int64 → Int64) (fun _ _ => default) (fun _ lb37 (y6_37 : Int32) (y3_37 : Int64) => (if (r (2 * i + 1)) ≤ y6_37 then (lb25 (y5_25 + 1) y3_37) else bnd1 (D_X3_get r q f i y5_25 y6_37) (fun (x30 : Int64) => (lb37 (y6_37 + 1) ((y3_37 * 31) + x30))))) nn
theorem D_X3_mix_37_s {r : Nat → Int32} {q : Nat → Int32} {f : Nat → Nat → Int64} {i : Nat} {lb25 : Int32 → Int64 → Int64} {y5_25 : Int32} {nn : Nat} {y6_37 : Int32} {y3_37 : Int64} : D_X3_mix_37 r q f i lb25 y5_25 (nn + 1) y6_37 y3_37 = (if (r (2 * i + 1)) ≤ y6_37 then (lb25 (y5_25 + 1) y3_37) else bnd1 (D_X3_get r q f i y5_25 y6_37) (fun (x30 : Int64) => ((D_X3_mix_37 r q f i lb25 y5_25 nn) (y6_37 + 1) ((y3_37 * 31) + x30)))) := rfl
noncomputable def D_X3_mix_25 (r : Nat → Int32) (q : Nat → Int32) (f : Nat → Nat → Int64) (i : Nat) (nn : Nat) : Int32 → Int64 → Int64 := @Nat.rec (fun _ => Int32 → Int64 → Int64) (fun _ _ => default) (fun _ lb25 (y5_25 : Int32) (y3_25 : Int64) => (if (r (2 * i)) ≤ y5_25 then y3_25 else (D_X3_mix_37 r q f i lb25 y5_25 (gap (r (2 * i + 1)) 0 + 1) 0 y3_25))) nn
theorem D_X3_mix_25_s {r : Nat → Int32} {q : Nat → Int32} {f : Nat → Nat → Int64} {i : Nat} {nn : Nat} {y5_25 : Int32} {y3_25 : Int64} : D_X3_mix_25 r q f i (nn + 1) y5_25 y3_25 = (if (r (2 * i)) ≤ y5_25 then y3_25 else (D_X3_mix_37 r q f i (D_X3_mix_25 r q f i nn) y5_25 (gap (r (2 * i + 1)) 0 + 1) 0 y3_25)) := rfl
noncomputable def D_X3_mix (r : Nat → Int32) (q : Nat → Int32) (f : Nat → Nat → Int64) (i : Nat) (p0 : Int64) : Int64 := (D_X3_mix_25 r q f i (gap (r (2 * i)) 0 + 1) 0 ((((p0 * 31) + (((r (2 * i))).toInt64)) * 31) + (((r (2 * i + 1))).toInt64)))
theorem D_X3_mix_s {r : Nat → Int32} {q : Nat → Int32} {f : Nat → Nat → Int64} {i : Nat} {p0 : Int64} : D_X3_mix r q f i p0 = (D_X3_mix_25 r q f i (gap (r (2 * i)) 0 + 1) 0 ((((p0 * 31) + (((r (2 * i))).toInt64)) * 31) + (((r (2 * i + 1))).toInt64))) := rfl
set_option maxHeartbeats 4000000 in
set_option maxRecDepth 100000 in
theorem k_X3_mix (κ : Kt) (l : Launch) (a : Nat → Nat) (r q : Nat → Int32) (f : Nat → Nat → Int64) (i : Nat) (p0 : Int64) (hi : i < 15) (o_x : Int64) (hR : D_X3_mix r q f i p0 = o_x) : CM κ l yX3_mix cX3_mix 7 (some .long) 1 22 0 0 [.ref (a (6 + 2 * i)), .long p0] (cw κ a r q f) (fun o w' => o = some (.long o_x) ∧ w' = cw κ a r q f) := by
  refine CM_begin (plainFor_of_name pn_RX3) (Nat.le_of_ble_eq_true rfl) ?_
  intro p e s m args below meth c A Q hX hnm hA3 hQ hB ls hl
  have hx := hX.1.1
  have hb := hX.1.2.1
  have hl : lv_has ls 7 [(0, .ref (a (6 + 2 * i))), (1, .long p0)] := hl
  replace hR := (D_X3_mix_s).symm.trans hR
  refine lv_lload_n hx hb dX3_mix_0 rfl (lv_at hl 1 rfl) ?_
  refine lv_ldc2 (own := RX3) (v := 31) hx hb hX.1.2.2.2.1 (hX.1.2.2.2.2 _ wm_2_133) dX3_mix_1 ?_
  refine lv_lmul hx hb dX3_mix_4 ?_
  refine lv_aload_n hx hb dX3_mix_5 rfl (lv_at hl 0 rfl) ?_
  refine gf hX hB (cwG (i := i) hi) rfl in3 1 (by decide) wm_1_46 rfl rfl dX3_mix_6 ?_
  refine lv_i2l hx hb dX3_mix_9 rfl ?_
  refine lv_ladd hx hb dX3_mix_10 ?_
  refine lv_ldc2 (own := RX3) (v := 31) hx hb hX.1.2.2.2.1 (hX.1.2.2.2.2 _ wm_2_133) dX3_mix_11 ?_
  refine lv_lmul hx hb dX3_mix_14 ?_
  refine lv_aload_n hx hb dX3_mix_15 rfl (lv_at hl 0 rfl) ?_
  refine gf hX hB (cwG (i := i) hi) rfl in3 2 (by decide) wm_1_52 rfl rfl dX3_mix_16 ?_
  refine lv_i2l hx hb dX3_mix_19 rfl ?_
  refine lv_ladd hx hb dX3_mix_20 ?_
  refine lv_lstore_n (lv' := [(3, .long ((((p0 * 31) + (((r (2 * i))).toInt64)) * 31) + (((r (2 * i + 1))).toInt64))), (0, .ref (a (6 + 2 * i))), (1, .long p0)]) hx hb dX3_mix_21 rfl hl (by decide) rfl (fun ls hl => ?_)
  refine lv_iconst (v := 0) hx hb dX3_mix_22 (by decide) ?_
  refine lv_istore (lv' := [(5, .int 0), (3, .long ((((p0 * 31) + (((r (2 * i))).toInt64)) * 31) + (((r (2 * i + 1))).toInt64))), (0, .ref (a (6 + 2 * i))), (1, .long p0)]) hx hb dX3_mix_23 hl (by decide) rfl (fun ls hl => ?_)
  have lp25 : ∀ (nn25 : Nat) (y5_25 : Int32) (y3_25 : Int64) (H : Heap) (locs : List Loc), gap (r (2 * i)) y5_25 < nn25 → D_X3_mix_25 r q f i nn25 y5_25 y3_25 = o_x → Bd κ A s (cw κ a r q f) H locs → ∀ ls : Array Slot, lv_has ls 7 [(5, .int y5_25), (3, .long y3_25), (0, .ref (a (6 + 2 * i))), (1, .long p0)] → W p l e (Rm 1 22 0 0) s m args below meth c H locs 0 0 Q (F0 m 25 ls []) := by
    intro nn25
    induction nn25 with
    | zero => intro y5_25 y3_25 H locs hμ; exact absurd hμ (Nat.not_lt_zero _)
    | succ nn25 ih25 =>
      intro y5_25 y3_25 H locs hμ25 hR hB ls hl
      replace hR := (D_X3_mix_25_s).symm.trans hR
      refine lv_iload hx hb dX3_mix_25 (lv_at hl 0 rfl) ?_
      refine lv_aload_n hx hb dX3_mix_27 rfl (lv_at hl 2 rfl) ?_
      refine gf hX hB (cwG (i := i) hi) rfl in3 1 (by decide) wm_1_46 rfl rfl dX3_mix_28 ?_
      refine lv_icmp_ge (tgt := 73) hx hb dX3_mix_31 (by decide) (fun c21 => ?_) (fun c21 => ?_)
      · replace hR := ifp c21 hR
        refine lv_lload_n hx hb dX3_mix_73 rfl (lv_at hl 1 rfl) ?_
        rw [← hQ]
        exact end_l hX hB hA3 rfl (by obtain rfl := hR; exact ⟨rfl, rfl⟩) (Nat.le_of_ble_eq_true rfl) (Nat.le_of_ble_eq_true rfl) dX3_mix_74
      · replace hR := ifn c21 hR
        refine lv_iconst (v := 0) hx hb dX3_mix_34 (by decide) ?_
        refine lv_istore (lv' := [(6, .int 0), (5, .int y5_25), (3, .long y3_25), (0, .ref (a (6 + 2 * i))), (1, .long p0)]) hx hb dX3_mix_35 hl (by decide) rfl (fun ls hl => ?_)
        have lp37 : ∀ (nn37 : Nat) (y6_37 : Int32) (y3_37 : Int64) (H : Heap) (locs : List Loc), gap (r (2 * i + 1)) y6_37 < nn37 → D_X3_mix_37 r q f i (D_X3_mix_25 r q f i nn25) y5_25 nn37 y6_37 y3_37 = o_x → Bd κ A s (cw κ a r q f) H locs → ∀ ls : Array Slot, lv_has ls 7 [(6, .int y6_37), (5, .int y5_25), (3, .long y3_37), (0, .ref (a (6 + 2 * i))), (1, .long p0)] → W p l e (Rm 1 22 0 0) s m args below meth c H locs 0 0 Q (F0 m 37 ls []) := by
          intro nn37
          induction nn37 with
          | zero => intro y6_37 y3_37 H locs hμ; exact absurd hμ (Nat.not_lt_zero _)
          | succ nn37 ih37 =>
            intro y6_37 y3_37 H locs hμ37 hR hB ls hl
            replace hR := (D_X3_mix_37_s).symm.trans hR
            refine lv_iload hx hb dX3_mix_37 (lv_at hl 0 rfl) ?_
            refine lv_aload_n hx hb dX3_mix_39 rfl (lv_at hl 3 rfl) ?_
            refine gf hX hB (cwG (i := i) hi) rfl in3 2 (by decide) wm_1_52 rfl rfl dX3_mix_40 ?_
            refine lv_icmp_ge (tgt := 67) hx hb dX3_mix_43 (by decide) (fun c28 => ?_) (fun c28 => ?_)
            · replace hR := ifp c28 hR
              refine lv_iinc (v := y5_25 + 1) (lv' := [(5, .int (y5_25 + 1)), (6, .int y6_37), (3, .long y3_37), (0, .ref (a (6 + 2 * i))), (1, .long p0)]) hx hb dX3_mix_67 hl (k := 1) rfl rfl (by decide) rfl (fun ls hl => ?_)
              refine lv_goto (tgt := 25) hx hb dX3_mix_70 (by decide) ?_
              exact ih25 (y5_25 + 1) y3_37 _ _  (gap_step c21 hμ25) hR hB _ (lv_sub hl [0, 2, 3, 4] rfl)
            · replace hR := ifn c28 hR
              refine lv_lload_n hx hb dX3_mix_46 rfl (lv_at hl 2 rfl) ?_
              refine lv_ldc2 (own := RX3) (v := 31) hx hb hX.1.2.2.2.1 (hX.1.2.2.2.2 _ wm_2_133) dX3_mix_47 ?_
              refine lv_lmul hx hb dX3_mix_50 ?_
              refine lv_aload_n hx hb dX3_mix_51 rfl (lv_at hl 3 rfl) ?_
              refine lv_iload hx hb dX3_mix_52 (lv_at hl 1 rfl) ?_
              refine lv_iload hx hb dX3_mix_54 (lv_at hl 0 rfl) ?_
              obtain ⟨x30, hd29⟩ := ex1 (D_X3_get r q f i y5_25 y6_37)
              replace hR := bnd1_use hd29 hR
              refine call_V (n := 2) (As := [.int y5_25, .int y6_37]) (rest := [.long (y3_37 * 31)]) hX hB (k_X3_get κ l a r q f i y5_25 y6_37 hi x30 hd29) ⟨rfl, yk_X3_get⟩ wm_2_7 wm_1_187 wm_1_188 wm_1_2 wm_1_189 ⟨Nat.le_of_ble_eq_true rfl, Nat.le_of_ble_eq_true rfl⟩ ⟨Nat.le_of_ble_eq_true rfl, Nat.le_of_ble_eq_true rfl⟩ (cwG (i := i) hi) rfl rfl rfl hl.1 rfl (Nat.le_of_ble_eq_true rfl) dX3_mix_56 (fun o w' H locs hp hB => ?_)
              obtain ⟨rfl, rfl⟩ := hp
              refine W.eq (g2 := F0 m 59 ls [.long x30, .long (y3_37 * 31)]) rfl ?_
              refine lv_ladd hx hb dX3_mix_59 ?_
              refine lv_lstore_n (lv' := [(3, .long ((y3_37 * 31) + x30)), (6, .int y6_37), (5, .int y5_25), (0, .ref (a (6 + 2 * i))), (1, .long p0)]) hx hb dX3_mix_60 rfl hl (by decide) rfl (fun ls hl => ?_)
              refine lv_iinc (v := y6_37 + 1) (lv' := [(6, .int (y6_37 + 1)), (3, .long ((y3_37 * 31) + x30)), (5, .int y5_25), (0, .ref (a (6 + 2 * i))), (1, .long p0)]) hx hb dX3_mix_61 hl (k := 1) rfl rfl (by decide) rfl (fun ls hl => ?_)
              refine lv_goto (tgt := 37) hx hb dX3_mix_64 (by decide) ?_
              exact ih37 (y6_37 + 1) ((y3_37 * 31) + x30) _ _  (gap_step c28 hμ37) hR hB _ (lv_sub hl [0, 2, 1, 3, 4] rfl)
        exact lp37 _ 0 y3_25 _ _  (Nat.lt_succ_self _) hR hB _ hl
  exact lp25 _ 0 ((((p0 * 31) + (((r (2 * i))).toInt64)) * 31) + (((r (2 * i + 1))).toInt64)) _ _  (Nat.lt_succ_self _) hR hB _ hl
end
section
-- 21.jdk
def fdv (x y : Int64) : Int64 := if 0 ≤ lg_cmp (x ^^^ y) 0 then x / y else if lg_cmp (x / y * y) x = 0 then x / y else x / y - 1
def fmd (x y : Int64) : Int64 := if 0 ≤ lg_cmp (x ^^^ y) 0 then x - x / y * y else if lg_cmp (x - x / y * y) 0 = 0 then x - x / y * y else (x - x / y * y) + y
def us32 (x k : Int32) : Int32 := (x.toUInt32 >>> (k.toUInt32 &&& Int32.toUInt32 31)).toInt32
def bc1 (x : Int32) : Int32 := x - (us32 x 1 &&& 1431655765)
def bc2 (x : Int32) : Int32 := (x &&& 858993459) + (us32 x 2 &&& 858993459)
def bc3 (x : Int32) : Int32 := (x + us32 x 4) &&& 252645135
def bc4 (x : Int32) : Int32 := x + us32 x 8
def bc5 (x : Int32) : Int32 := x + us32 x 16
def bcE (x : Int32) : Int32 := bc5 (bc4 (bc3 (bc2 (bc1 x)))) &&& 63

def gap1 (y x : Int32) : Nat := (y.toInt + 1 - x.toInt).toNat
theorem le45 {y : Int32} (h : y ≤ 4) : y ≤ 5 := by
  rw [i32_le] at h ⊢
  rw [show (4 : Int32).toInt = 4 from rfl] at h
  rw [show (5 : Int32).toInt = 5 from rfl]
  omega
theorem gap1_step {x y : Int32} {n : Nat} (hy : y ≤ 5) (c : ¬ y < x) (h : gap1 y x < n + 1) : gap1 y (x + 1) < n := by
  have h1 : x < 6 := by
    rw [i32_lt] at c ⊢
    rw [i32_le] at hy
    rw [show (5 : Int32).toInt = 5 from rfl] at hy
    rw [show (6 : Int32).toInt = 6 from rfl]
    omega
  have h2 := i32_succ h1
  rw [i32_lt] at c
  unfold gap1 at h ⊢
  rw [h2]
  omega

theorem lgnz {y : Int64} (h : ¬ lg_cmp y 0 = 0) : ¬ y = 0 := fun e => h (by rw [e]; rfl)
theorem lvup {x lo hi : Int32} (e : lo + 1 = hi) (h : lo ≤ x) (c : x < 4) : hi ≤ x + 1 := by
  have h1 := i32_succ c
  have h2 : lo < 4 := by
    rw [i32_lt] at c ⊢
    rw [i32_le] at h
    omega
  have h3 := i32_succ h2
  rw [← e, i32_le, h1, h3]
  rw [i32_le] at h
  omega
set_option maxHeartbeats 4000000 in
set_option maxRecDepth 100000 in
theorem k_J9_floorDiv_f86c9 (κ : Kt) (l : Launch) (w : va_W) (x : Int64) (y : Int64) (hy : ¬ y = 0) : CM κ l yJ9_floorDiv_f86c9 cJ9_floorDiv_f86c9 6 (some .long) 0 0 0 0 [.long x, .long y] (w) (fun o w' => ∃ z : Int64, o = some (.long z) ∧ z = fdv x y ∧ w' = w) := by
  refine CM_begin (by decide +kernel) (Nat.le_of_ble_eq_true rfl) ?_
  intro p e s m args below meth c A Q hX hnm hA3 hQ hB ls hl
  have hx := hX.1.1
  have hb := hX.1.2.1
  have hl : lv_has ls 6 [(0, .long x), (2, .long y)] := hl
  refine lv_lload_n hx hb dJ9_floorDiv_f86c9_0 rfl (lv_at hl 0 rfl) ?_
  refine lv_lload_n hx hb dJ9_floorDiv_f86c9_1 rfl (lv_at hl 1 rfl) ?_
  refine lv_ldiv hx hb dJ9_floorDiv_f86c9_2 (by assumption) ?_
  refine lv_lstore (lv' := [(4, .long (x / y)), (0, .long x), (2, .long y)]) hx hb dJ9_floorDiv_f86c9_3 hl (by decide) rfl (fun ls hl => ?_)
  refine lv_lload_n hx hb dJ9_floorDiv_f86c9_5 rfl (lv_at hl 1 rfl) ?_
  refine lv_lload_n hx hb dJ9_floorDiv_f86c9_6 rfl (lv_at hl 2 rfl) ?_
  refine lv_lxor hx hb dJ9_floorDiv_f86c9_7 ?_
  refine lv_lconst (v := 0) hx hb dJ9_floorDiv_f86c9_8 (by decide) ?_
  refine W.lcmp hx hb dJ9_floorDiv_f86c9_9 ?_
  refine lv_if_ge (tgt := 27) hx hb dJ9_floorDiv_f86c9_10 (by decide) (fun c1 => ?_) (fun c1 => ?_)
  · refine lv_lload hx hb dJ9_floorDiv_f86c9_27 (lv_at hl 0 rfl) ?_
    rw [← hQ]
    exact end_l hX hB hA3 rfl ⟨_, rfl, (by unfold fdv; repeat' split; all_goals first | rfl | (exfalso; contradiction)), rfl⟩ (Nat.le_of_ble_eq_true rfl) (Nat.le_of_ble_eq_true rfl) dJ9_floorDiv_f86c9_29
  · refine lv_lload hx hb dJ9_floorDiv_f86c9_13 (lv_at hl 0 rfl) ?_
    refine lv_lload_n hx hb dJ9_floorDiv_f86c9_15 rfl (lv_at hl 2 rfl) ?_
    refine lv_lmul hx hb dJ9_floorDiv_f86c9_16 ?_
    refine lv_lload_n hx hb dJ9_floorDiv_f86c9_17 rfl (lv_at hl 1 rfl) ?_
    refine W.lcmp hx hb dJ9_floorDiv_f86c9_18 ?_
    refine lv_if_eq (tgt := 27) hx hb dJ9_floorDiv_f86c9_19 (by decide) (fun c2 => ?_) (fun c2 => ?_)
    · refine lv_lload hx hb dJ9_floorDiv_f86c9_27 (lv_at hl 0 rfl) ?_
      rw [← hQ]
      exact end_l hX hB hA3 rfl ⟨_, rfl, (by unfold fdv; repeat' split; all_goals first | rfl | (exfalso; contradiction)), rfl⟩ (Nat.le_of_ble_eq_true rfl) (Nat.le_of_ble_eq_true rfl) dJ9_floorDiv_f86c9_29
    · refine lv_lload hx hb dJ9_floorDiv_f86c9_22 (lv_at hl 0 rfl) ?_
      refine lv_lconst (v := 1) hx hb dJ9_floorDiv_f86c9_24 (by decide) ?_
      refine lv_lsub hx hb dJ9_floorDiv_f86c9_25 ?_
      rw [← hQ]
      exact end_l hX hB hA3 rfl ⟨_, rfl, (by unfold fdv; repeat' split; all_goals first | rfl | (exfalso; contradiction)), rfl⟩ (Nat.le_of_ble_eq_true rfl) (Nat.le_of_ble_eq_true rfl) dJ9_floorDiv_f86c9_26
set_option maxHeartbeats 4000000 in
set_option maxRecDepth 100000 in
theorem k_J9_floorMod_f86c9 (κ : Kt) (l : Launch) (w : va_W) (x : Int64) (y : Int64) (hy : ¬ y = 0) : CM κ l yJ9_floorMod_f86c9 cJ9_floorMod_f86c9 6 (some .long) 0 0 0 0 [.long x, .long y] (w) (fun o w' => ∃ z : Int64, o = some (.long z) ∧ z = fmd x y ∧ w' = w) := by
  refine CM_begin (by decide +kernel) (Nat.le_of_ble_eq_true rfl) ?_
  intro p e s m args below meth c A Q hX hnm hA3 hQ hB ls hl
  have hx := hX.1.1
  have hb := hX.1.2.1
  have hl : lv_has ls 6 [(0, .long x), (2, .long y)] := hl
  refine lv_lload_n hx hb dJ9_floorMod_f86c9_0 rfl (lv_at hl 0 rfl) ?_
  refine lv_lload_n hx hb dJ9_floorMod_f86c9_1 rfl (lv_at hl 1 rfl) ?_
  refine lv_lrem hx hb dJ9_floorMod_f86c9_2 (by assumption) ?_
  refine lv_lstore (lv' := [(4, .long (x - x / y * y)), (0, .long x), (2, .long y)]) hx hb dJ9_floorMod_f86c9_3 hl (by decide) rfl (fun ls hl => ?_)
  refine lv_lload_n hx hb dJ9_floorMod_f86c9_5 rfl (lv_at hl 1 rfl) ?_
  refine lv_lload_n hx hb dJ9_floorMod_f86c9_6 rfl (lv_at hl 2 rfl) ?_
  refine lv_lxor hx hb dJ9_floorMod_f86c9_7 ?_
  refine lv_lconst (v := 0) hx hb dJ9_floorMod_f86c9_8 (by decide) ?_
  refine W.lcmp hx hb dJ9_floorMod_f86c9_9 ?_
  refine lv_if_ge (tgt := 25) hx hb dJ9_floorMod_f86c9_10 (by decide) (fun c1 => ?_) (fun c1 => ?_)
  · refine lv_lload hx hb dJ9_floorMod_f86c9_25 (lv_at hl 0 rfl) ?_
    rw [← hQ]
    exact end_l hX hB hA3 rfl ⟨_, rfl, (by unfold fmd; repeat' split; all_goals first | rfl | (exfalso; contradiction)), rfl⟩ (Nat.le_of_ble_eq_true rfl) (Nat.le_of_ble_eq_true rfl) dJ9_floorMod_f86c9_27
  · refine lv_lload hx hb dJ9_floorMod_f86c9_13 (lv_at hl 0 rfl) ?_
    refine lv_lconst (v := 0) hx hb dJ9_floorMod_f86c9_15 (by decide) ?_
    refine W.lcmp hx hb dJ9_floorMod_f86c9_16 ?_
    refine lv_if_eq (tgt := 25) hx hb dJ9_floorMod_f86c9_17 (by decide) (fun c2 => ?_) (fun c2 => ?_)
    · refine lv_lload hx hb dJ9_floorMod_f86c9_25 (lv_at hl 0 rfl) ?_
      rw [← hQ]
      exact end_l hX hB hA3 rfl ⟨_, rfl, (by unfold fmd; repeat' split; all_goals first | rfl | (exfalso; contradiction)), rfl⟩ (Nat.le_of_ble_eq_true rfl) (Nat.le_of_ble_eq_true rfl) dJ9_floorMod_f86c9_27
    · refine lv_lload hx hb dJ9_floorMod_f86c9_20 (lv_at hl 0 rfl) ?_
      refine lv_lload_n hx hb dJ9_floorMod_f86c9_22 rfl (lv_at hl 2 rfl) ?_
      refine lv_ladd hx hb dJ9_floorMod_f86c9_23 ?_
      rw [← hQ]
      exact end_l hX hB hA3 rfl ⟨_, rfl, (by unfold fmd; repeat' split; all_goals first | rfl | (exfalso; contradiction)), rfl⟩ (Nat.le_of_ble_eq_true rfl) (Nat.le_of_ble_eq_true rfl) dJ9_floorMod_f86c9_24
set_option maxHeartbeats 4000000 in
set_option maxRecDepth 100000 in
theorem k_J6_bitCount_0f7a4 (κ : Kt) (l : Launch) (w : va_W) (x : Int32)  : CM κ l yJ6_bitCount_0f7a4 cJ6_bitCount_0f7a4 1 (some .int) 0 0 0 0 [.int x] (w) (fun o w' => ∃ z : Int32, o = some (.int z) ∧ z = bcE x ∧ w' = w) := by
  refine CM_begin (plainFor_of_name pn_RJ6) (Nat.le_of_ble_eq_true rfl) ?_
  intro p e s m args below meth c A Q hX hnm hA3 hQ hB ls hl
  have hx := hX.1.1
  have hb := hX.1.2.1
  have hl : lv_has ls 1 [(0, .int x)] := hl
  refine lv_iload_n hx hb dJ6_bitCount_0f7a4_0 rfl (lv_at hl 0 rfl) ?_
  refine lv_iload_n hx hb dJ6_bitCount_0f7a4_1 rfl (lv_at hl 0 rfl) ?_
  refine lv_iconst (v := 1) hx hb dJ6_bitCount_0f7a4_2 (by decide) ?_
  refine lv_iushr hx hb dJ6_bitCount_0f7a4_3 rfl ?_
  refine lv_topi (fun u1 eu1 => ?_)
  refine lv_ldcw (own := RJ6) (v := 1431655765) hx hb hX.1.2.2.2.1 (hX.1.2.2.2.2 _ wm_1_197) dJ6_bitCount_0f7a4_4 ?_
  refine lv_iand hx hb dJ6_bitCount_0f7a4_7 ?_
  refine lv_isub hx hb dJ6_bitCount_0f7a4_8 ?_
  refine lv_topi (fun v2 ev2 => ?_)
  refine lv_istore_n (lv' := [(0, .int v2)]) hx hb dJ6_bitCount_0f7a4_9 rfl hl (by decide) rfl (fun ls hl => ?_)
  refine lv_iload_n hx hb dJ6_bitCount_0f7a4_10 rfl (lv_at hl 0 rfl) ?_
  refine lv_ldcw (own := RJ6) (v := 858993459) hx hb hX.1.2.2.2.1 (hX.1.2.2.2.2 _ wm_1_198) dJ6_bitCount_0f7a4_11 ?_
  refine lv_iand hx hb dJ6_bitCount_0f7a4_14 ?_
  refine lv_iload_n hx hb dJ6_bitCount_0f7a4_15 rfl (lv_at hl 0 rfl) ?_
  refine lv_iconst (v := 2) hx hb dJ6_bitCount_0f7a4_16 (by decide) ?_
  refine lv_iushr hx hb dJ6_bitCount_0f7a4_17 rfl ?_
  refine lv_topi (fun u3 eu3 => ?_)
  refine lv_ldcw (own := RJ6) (v := 858993459) hx hb hX.1.2.2.2.1 (hX.1.2.2.2.2 _ wm_1_198) dJ6_bitCount_0f7a4_18 ?_
  refine lv_iand hx hb dJ6_bitCount_0f7a4_21 ?_
  refine lv_iadd hx hb dJ6_bitCount_0f7a4_22 ?_
  refine lv_topi (fun v4 ev4 => ?_)
  refine lv_istore_n (lv' := [(0, .int v4)]) hx hb dJ6_bitCount_0f7a4_23 rfl hl (by decide) rfl (fun ls hl => ?_)
  refine lv_iload_n hx hb dJ6_bitCount_0f7a4_24 rfl (lv_at hl 0 rfl) ?_
  refine lv_iload_n hx hb dJ6_bitCount_0f7a4_25 rfl (lv_at hl 0 rfl) ?_
  refine lv_iconst (v := 4) hx hb dJ6_bitCount_0f7a4_26 (by decide) ?_
  refine lv_iushr hx hb dJ6_bitCount_0f7a4_27 rfl ?_
  refine lv_topi (fun u5 eu5 => ?_)
  refine lv_iadd hx hb dJ6_bitCount_0f7a4_28 ?_
  refine lv_ldcw (own := RJ6) (v := 252645135) hx hb hX.1.2.2.2.1 (hX.1.2.2.2.2 _ wm_1_199) dJ6_bitCount_0f7a4_29 ?_
  refine lv_iand hx hb dJ6_bitCount_0f7a4_32 ?_
  refine lv_topi (fun v6 ev6 => ?_)
  refine lv_istore_n (lv' := [(0, .int v6)]) hx hb dJ6_bitCount_0f7a4_33 rfl hl (by decide) rfl (fun ls hl => ?_)
  refine lv_iload_n hx hb dJ6_bitCount_0f7a4_34 rfl (lv_at hl 0 rfl) ?_
  refine lv_iload_n hx hb dJ6_bitCount_0f7a4_35 rfl (lv_at hl 0 rfl) ?_
  refine lv_bipush (v := 8) hx hb dJ6_bitCount_0f7a4_36 (by decide) ?_
  refine lv_iushr hx hb dJ6_bitCount_0f7a4_38 rfl ?_
  refine lv_topi (fun u7 eu7 => ?_)
  refine lv_iadd hx hb dJ6_bitCount_0f7a4_39 ?_
  refine lv_topi (fun v8 ev8 => ?_)
  refine lv_istore_n (lv' := [(0, .int v8)]) hx hb dJ6_bitCount_0f7a4_40 rfl hl (by decide) rfl (fun ls hl => ?_)
  refine lv_iload_n hx hb dJ6_bitCount_0f7a4_41 rfl (lv_at hl 0 rfl) ?_
  refine lv_iload_n hx hb dJ6_bitCount_0f7a4_42 rfl (lv_at hl 0 rfl) ?_
  refine lv_bipush (v := 16) hx hb dJ6_bitCount_0f7a4_43 (by decide) ?_
  refine lv_iushr hx hb dJ6_bitCount_0f7a4_45 rfl ?_
  refine lv_topi (fun u9 eu9 => ?_)
  refine lv_iadd hx hb dJ6_bitCount_0f7a4_46 ?_
  refine lv_topi (fun v10 ev10 => ?_)
  refine lv_istore_n (lv' := [(0, .int v10)]) hx hb dJ6_bitCount_0f7a4_47 rfl hl (by decide) rfl (fun ls hl => ?_)
  refine lv_iload_n hx hb dJ6_bitCount_0f7a4_48 rfl (lv_at hl 0 rfl) ?_
  refine lv_bipush (v := 63) hx hb dJ6_bitCount_0f7a4_49 (by decide) ?_
  refine lv_iand hx hb dJ6_bitCount_0f7a4_51 ?_
  rw [← hQ]
  exact end_i hX hB hA3 rfl rfl ⟨_, rfl, (by subst_vars; rfl), rfl⟩ (Nat.le_of_ble_eq_true rfl) (Nat.le_of_ble_eq_true rfl) dJ6_bitCount_0f7a4_52
noncomputable def D_X5_divideDown (x : Int64) (y : Int64) : Int64 := (if (lg_cmp y 0) = 0 then 0 else nm ((fdv x y) : Int64) (fun (x2 : Int64) => x2))
theorem D_X5_divideDown_s {x : Int64} {y : Int64} : D_X5_divideDown x y = (if (lg_cmp y 0) = 0 then 0 else nm ((fdv x y) : Int64) (fun (x2 : Int64) => x2)) := rfl
set_option maxHeartbeats 4000000 in
set_option maxRecDepth 100000 in
theorem k_X5_divideDown (κ : Kt) (l : Launch) (w : va_W) (x : Int64) (y : Int64)  (o_x : Int64) (hR : D_X5_divideDown x y = o_x) : CM κ l yX5_divideDown cX5_divideDown 4 (some .long) 1 25 0 0 [.long x, .long y] (w) (fun o w' => o = some (.long o_x) ∧ w' = w) := by
  refine CM_begin (plainFor_of_name pn_RX5) (Nat.le_of_ble_eq_true rfl) ?_
  intro p e s m args below meth c A Q hX hnm hA3 hQ hB ls hl
  have hx := hX.1.1
  have hb := hX.1.2.1
  have hl : lv_has ls 4 [(0, .long x), (2, .long y)] := hl
  replace hR := (D_X5_divideDown_s).symm.trans hR
  refine lv_lload_n hx hb dX5_divideDown_0 rfl (lv_at hl 1 rfl) ?_
  refine lv_lconst (v := 0) hx hb dX5_divideDown_1 (by decide) ?_
  refine W.lcmp hx hb dX5_divideDown_2 ?_
  refine lv_if_ne (tgt := 10) hx hb dX5_divideDown_3 (by decide) (fun c1 => ?_) (fun c1 => ?_)
  · replace hR := ifn c1 hR
    refine lv_lload_n hx hb dX5_divideDown_10 rfl (lv_at hl 0 rfl) ?_
    refine lv_lload_n hx hb dX5_divideDown_11 rfl (lv_at hl 1 rfl) ?_
    refine call_S (n := 2) (As := [.long x, .long y]) (rest := []) hX hB (k_J9_floorDiv_f86c9 κ l (w) x y (lgnz (by assumption))) yk_J9_floorDiv_f86c9 wm_2_19 wm_2_20 wm_1_14 wm_2_21 ⟨Nat.le_of_ble_eq_true rfl, Nat.le_of_ble_eq_true rfl⟩ ⟨Nat.le_of_ble_eq_true rfl, Nat.le_of_ble_eq_true rfl⟩ rfl hl.1 rfl (Nat.le_of_ble_eq_true rfl) dX5_divideDown_12 (fun o w' H locs hp hB => ?_)
    obtain ⟨x2, rfl, ex2, hw9⟩ := hp
    replace hR := nm_use ex2 hR
    rw [hw9] at hB
    refine W.eq (g2 := F0 m 15 ls [.long x2]) rfl ?_
    rw [← hQ]
    exact end_l hX hB hA3 rfl (by obtain rfl := hR; exact ⟨rfl, rfl⟩) (Nat.le_of_ble_eq_true rfl) (Nat.le_of_ble_eq_true rfl) dX5_divideDown_15
  · replace hR := ifp c1 hR
    refine lv_lconst (v := 0) hx hb dX5_divideDown_6 (by decide) ?_
    refine lv_goto (tgt := 15) hx hb dX5_divideDown_7 (by decide) ?_
    rw [← hQ]
    exact end_l hX hB hA3 rfl (by obtain rfl := hR; exact ⟨rfl, rfl⟩) (Nat.le_of_ble_eq_true rfl) (Nat.le_of_ble_eq_true rfl) dX5_divideDown_15
noncomputable def D_X5_remainder (x : Int64) (y : Int64) : Int64 := (if (lg_cmp y 0) = 0 then 0 else nm ((fmd x y) : Int64) (fun (x2 : Int64) => x2))
theorem D_X5_remainder_s {x : Int64} {y : Int64} : D_X5_remainder x y = (if (lg_cmp y 0) = 0 then 0 else nm ((fmd x y) : Int64) (fun (x2 : Int64) => x2)) := rfl
set_option maxHeartbeats 4000000 in
set_option maxRecDepth 100000 in
theorem k_X5_remainder (κ : Kt) (l : Launch) (w : va_W) (x : Int64) (y : Int64)  (o_x : Int64) (hR : D_X5_remainder x y = o_x) : CM κ l yX5_remainder cX5_remainder 4 (some .long) 1 25 0 0 [.long x, .long y] (w) (fun o w' => o = some (.long o_x) ∧ w' = w) := by
  refine CM_begin (plainFor_of_name pn_RX5) (Nat.le_of_ble_eq_true rfl) ?_
  intro p e s m args below meth c A Q hX hnm hA3 hQ hB ls hl
  have hx := hX.1.1
  have hb := hX.1.2.1
  have hl : lv_has ls 4 [(0, .long x), (2, .long y)] := hl
  replace hR := (D_X5_remainder_s).symm.trans hR
  refine lv_lload_n hx hb dX5_remainder_0 rfl (lv_at hl 1 rfl) ?_
  refine lv_lconst (v := 0) hx hb dX5_remainder_1 (by decide) ?_
  refine W.lcmp hx hb dX5_remainder_2 ?_
  refine lv_if_ne (tgt := 10) hx hb dX5_remainder_3 (by decide) (fun c1 => ?_) (fun c1 => ?_)
  · replace hR := ifn c1 hR
    refine lv_lload_n hx hb dX5_remainder_10 rfl (lv_at hl 0 rfl) ?_
    refine lv_lload_n hx hb dX5_remainder_11 rfl (lv_at hl 1 rfl) ?_
    refine call_S (n := 2) (As := [.long x, .long y]) (rest := []) hX hB (k_J9_floorMod_f86c9 κ l (w) x y (lgnz (by assumption))) yk_J9_floorMod_f86c9 wm_3_64 wm_3_65 wm_1_14 wm_3_66 ⟨Nat.le_of_ble_eq_true rfl, Nat.le_of_ble_eq_true rfl⟩ ⟨Nat.le_of_ble_eq_true rfl, Nat.le_of_ble_eq_true rfl⟩ rfl hl.1 rfl (Nat.le_of_ble_eq_true rfl) dX5_remainder_12 (fun o w' H locs hp hB => ?_)
    obtain ⟨x2, rfl, ex2, hw9⟩ := hp
    replace hR := nm_use ex2 hR
    rw [hw9] at hB
    refine W.eq (g2 := F0 m 15 ls [.long x2]) rfl ?_
    rw [← hQ]
    exact end_l hX hB hA3 rfl (by obtain rfl := hR; exact ⟨rfl, rfl⟩) (Nat.le_of_ble_eq_true rfl) (Nat.le_of_ble_eq_true rfl) dX5_remainder_15
  · replace hR := ifp c1 hR
    refine lv_lconst (v := 0) hx hb dX5_remainder_6 (by decide) ?_
    refine lv_goto (tgt := 15) hx hb dX5_remainder_7 (by decide) ?_
    rw [← hQ]
    exact end_l hX hB hA3 rfl (by obtain rfl := hR; exact ⟨rfl, rfl⟩) (Nat.le_of_ble_eq_true rfl) (Nat.le_of_ble_eq_true rfl) dX5_remainder_15
noncomputable def D_X5_divides (x : Int64) (y : Int64) : Int32 := (if (lg_cmp x 0) = 0 then (if (lg_cmp y 0) = 0 then 1 else 0) else (if (lg_cmp (y - y / x * x) 0) = 0 then 1 else 0))
theorem D_X5_divides_s {x : Int64} {y : Int64} : D_X5_divides x y = (if (lg_cmp x 0) = 0 then (if (lg_cmp y 0) = 0 then 1 else 0) else (if (lg_cmp (y - y / x * x) 0) = 0 then 1 else 0)) := rfl
set_option maxHeartbeats 4000000 in
set_option maxRecDepth 100000 in
theorem k_X5_divides (κ : Kt) (l : Launch) (w : va_W) (x : Int64) (y : Int64)  (o_x : Int32) (hR : D_X5_divides x y = o_x) : CM κ l yX5_divides cX5_divides 4 (some .boolean) 0 0 0 0 [.long x, .long y] (w) (fun o w' => o = some (.int o_x) ∧ (o_x = 0 ∨ o_x = 1) ∧ w' = w) := by
  refine CM_begin (plainFor_of_name pn_RX5) (Nat.le_of_ble_eq_true rfl) ?_
  intro p e s m args below meth c A Q hX hnm hA3 hQ hB ls hl
  have hx := hX.1.1
  have hb := hX.1.2.1
  have hl : lv_has ls 4 [(0, .long x), (2, .long y)] := hl
  replace hR := (D_X5_divides_s).symm.trans hR
  refine lv_lload_n hx hb dX5_divides_0 rfl (lv_at hl 0 rfl) ?_
  refine lv_lconst (v := 0) hx hb dX5_divides_1 (by decide) ?_
  refine W.lcmp hx hb dX5_divides_2 ?_
  refine lv_if_ne (tgt := 20) hx hb dX5_divides_3 (by decide) (fun c1 => ?_) (fun c1 => ?_)
  · replace hR := ifn c1 hR
    refine lv_lload_n hx hb dX5_divides_20 rfl (lv_at hl 1 rfl) ?_
    refine lv_lload_n hx hb dX5_divides_21 rfl (lv_at hl 0 rfl) ?_
    refine lv_lrem hx hb dX5_divides_22 (lgnz (by assumption)) ?_
    refine lv_lconst (v := 0) hx hb dX5_divides_23 (by decide) ?_
    refine W.lcmp hx hb dX5_divides_24 ?_
    refine lv_if_ne (tgt := 32) hx hb dX5_divides_25 (by decide) (fun c2 => ?_) (fun c2 => ?_)
    · replace hR := ifn c2 hR
      refine lv_iconst (v := 0) hx hb dX5_divides_32 (by decide) ?_
      rw [← hQ]
      exact end_i hX hB hA3 rfl rfl (by obtain rfl := hR; exact ⟨rfl, Or.inl rfl, rfl⟩) (Nat.le_of_ble_eq_true rfl) (Nat.le_of_ble_eq_true rfl) dX5_divides_33
    · replace hR := ifp c2 hR
      refine lv_iconst (v := 1) hx hb dX5_divides_28 (by decide) ?_
      refine lv_goto (tgt := 33) hx hb dX5_divides_29 (by decide) ?_
      rw [← hQ]
      exact end_i hX hB hA3 rfl rfl (by obtain rfl := hR; exact ⟨rfl, Or.inr rfl, rfl⟩) (Nat.le_of_ble_eq_true rfl) (Nat.le_of_ble_eq_true rfl) dX5_divides_33
  · replace hR := ifp c1 hR
    refine lv_lload_n hx hb dX5_divides_6 rfl (lv_at hl 1 rfl) ?_
    refine lv_lconst (v := 0) hx hb dX5_divides_7 (by decide) ?_
    refine W.lcmp hx hb dX5_divides_8 ?_
    refine lv_if_ne (tgt := 16) hx hb dX5_divides_9 (by decide) (fun c3 => ?_) (fun c3 => ?_)
    · replace hR := ifn c3 hR
      refine lv_iconst (v := 0) hx hb dX5_divides_16 (by decide) ?_
      refine lv_goto (tgt := 33) hx hb dX5_divides_17 (by decide) ?_
      rw [← hQ]
      exact end_i hX hB hA3 rfl rfl (by obtain rfl := hR; exact ⟨rfl, Or.inl rfl, rfl⟩) (Nat.le_of_ble_eq_true rfl) (Nat.le_of_ble_eq_true rfl) dX5_divides_33
    · replace hR := ifp c3 hR
      refine lv_iconst (v := 1) hx hb dX5_divides_12 (by decide) ?_
      refine lv_goto (tgt := 33) hx hb dX5_divides_13 (by decide) ?_
      rw [← hQ]
      exact end_i hX hB hA3 rfl rfl (by obtain rfl := hR; exact ⟨rfl, Or.inr rfl, rfl⟩) (Nat.le_of_ble_eq_true rfl) (Nat.le_of_ble_eq_true rfl) dX5_divides_33
noncomputable def D_X5_greatestCommonDivisor_15 (nn : Nat) : Int32 → Int64 → Int64 → Int64 := @Nat.rec (fun _ => Int32 → Int64 → Int64 → Int64) (fun _ _ _ => default) (fun _ lb15 (y8_15 : Int32) (y6_15 : Int64) (y4_15 : Int64) => (if 1000000 ≤ y8_15 then y4_15 else (if (lg_cmp y6_15 0) = 0 then y4_15 else (lb15 (y8_15 + 1) (y4_15 - y4_15 / y6_15 * y6_15) y6_15)))) nn
theorem D_X5_greatestCommonDivisor_15_s {nn : Nat} {y8_15 : Int32} {y6_15 : Int64} {y4_15 : Int64} : D_X5_greatestCommonDivisor_15 (nn + 1) y8_15 y6_15 y4_15 = (if 1000000 ≤ y8_15 then y4_15 else (if (lg_cmp y6_15 0) = 0 then y4_15 else ((D_X5_greatestCommonDivisor_15 nn) (y8_15 + 1) (y4_15 - y4_15 / y6_15 * y6_15) y6_15))) := rfl
noncomputable def D_X5_greatestCommonDivisor (x : Int64) (y : Int64) : Int64 := nm ((if 0 < x then x else -x) : Int64) (fun (t1 : Int64) => nm ((if 0 < y then y else -y) : Int64) (fun (t2 : Int64) => (D_X5_greatestCommonDivisor_15 (gap 1000000 0 + 1) 0 t2 t1)))
theorem D_X5_greatestCommonDivisor_s {x : Int64} {y : Int64} : D_X5_greatestCommonDivisor x y = nm ((if 0 < x then x else -x) : Int64) (fun (t1 : Int64) => nm ((if 0 < y then y else -y) : Int64) (fun (t2 : Int64) => (D_X5_greatestCommonDivisor_15 (gap 1000000 0 + 1) 0 t2 t1))) := rfl
set_option maxHeartbeats 4000000 in
set_option maxRecDepth 100000 in
theorem k_X5_greatestCommonDivisor (κ : Kt) (l : Launch) (w : va_W) (x : Int64) (y : Int64)  (o_x : Int64) (hR : D_X5_greatestCommonDivisor x y = o_x) : CM κ l yX5_greatestCommonDivisor cX5_greatestCommonDivisor 11 (some .long) 1 21 0 0 [.long x, .long y] (w) (fun o w' => o = some (.long o_x) ∧ w' = w) := by
  refine CM_begin (plainFor_of_name pn_RX5) (Nat.le_of_ble_eq_true rfl) ?_
  intro p e s m args below meth c A Q hX hnm hA3 hQ hB ls hl
  have hx := hX.1.1
  have hb := hX.1.2.1
  have hl : lv_has ls 11 [(0, .long x), (2, .long y)] := hl
  replace hR := (D_X5_greatestCommonDivisor_s).symm.trans hR
  refine lv_lload_n hx hb dX5_greatestCommonDivisor_0 rfl (lv_at hl 0 rfl) ?_
  refine va_mabs_long hx hb (by rw [hX.1.2.2.1]; exact hl.1.symm) hX.1.2.2.2.1 (hX.1.2.2.2.2 _ wm_2_61) (hX.1.2.2.2.2 _ wm_1_237) (hX.1.2.2.2.2 _ wm_1_14) (hX.1.2.2.2.2 _ wm_1_238) (Nat.le_of_ble_eq_true rfl) (Nat.le_of_ble_eq_true rfl) (Nat.le_of_ble_eq_true rfl) (Nat.le_of_ble_eq_true rfl) dX5_greatestCommonDivisor_1 ?_
  refine lv_topl (fun t1 et1 => ?_)
  replace hR := nm_use et1 hR
  refine lv_lstore (lv' := [(4, .long t1), (0, .long x), (2, .long y)]) hx hb dX5_greatestCommonDivisor_4 hl (by decide) rfl (fun ls hl => ?_)
  refine lv_lload_n hx hb dX5_greatestCommonDivisor_6 rfl (lv_at hl 2 rfl) ?_
  refine va_mabs_long hx hb (by rw [hX.1.2.2.1]; exact hl.1.symm) hX.1.2.2.2.1 (hX.1.2.2.2.2 _ wm_2_61) (hX.1.2.2.2.2 _ wm_1_237) (hX.1.2.2.2.2 _ wm_1_14) (hX.1.2.2.2.2 _ wm_1_238) (Nat.le_of_ble_eq_true rfl) (Nat.le_of_ble_eq_true rfl) (Nat.le_of_ble_eq_true rfl) (Nat.le_of_ble_eq_true rfl) dX5_greatestCommonDivisor_7 ?_
  refine lv_topl (fun t2 et2 => ?_)
  replace hR := nm_use et2 hR
  refine lv_lstore (lv' := [(6, .long t2), (4, .long t1), (0, .long x), (2, .long y)]) hx hb dX5_greatestCommonDivisor_10 hl (by decide) rfl (fun ls hl => ?_)
  refine lv_iconst (v := 0) hx hb dX5_greatestCommonDivisor_12 (by decide) ?_
  refine lv_istore (lv' := [(8, .int 0), (6, .long t2), (4, .long t1), (0, .long x), (2, .long y)]) hx hb dX5_greatestCommonDivisor_13 hl (by decide) rfl (fun ls hl => ?_)
  have lp15 : ∀ (nn15 : Nat) (y8_15 : Int32) (y6_15 : Int64) (y4_15 : Int64) (H : Heap) (locs : List Loc), gap 1000000 y8_15 < nn15 → D_X5_greatestCommonDivisor_15 nn15 y8_15 y6_15 y4_15 = o_x → Bd κ A s (w) H locs → ∀ ls : Array Slot, lv_has ls 11 [(8, .int y8_15), (6, .long y6_15), (4, .long y4_15), (0, .long x), (2, .long y)] → W p l e (Rm 1 21 0 0) s m args below meth c H locs 0 0 Q (F0 m 15 ls []) := by
    intro nn15
    induction nn15 with
    | zero => intro y8_15 y6_15 y4_15 H locs hμ; exact absurd hμ (Nat.not_lt_zero _)
    | succ nn15 ih15 =>
      intro y8_15 y6_15 y4_15 H locs hμ15 hR hB ls hl
      replace hR := (D_X5_greatestCommonDivisor_15_s).symm.trans hR
      refine lv_iload hx hb dX5_greatestCommonDivisor_15 (lv_at hl 0 rfl) ?_
      refine lv_ldcw (own := RX5) (v := 1000000) hx hb hX.1.2.2.2.1 (hX.1.2.2.2.2 _ wm_2_62) dX5_greatestCommonDivisor_17 ?_
      refine lv_icmp_ge (tgt := 51) hx hb dX5_greatestCommonDivisor_20 (by decide) (fun c7 => ?_) (fun c7 => ?_)
      · replace hR := ifp c7 hR
        refine lv_lload hx hb dX5_greatestCommonDivisor_51 (lv_at hl 2 rfl) ?_
        rw [← hQ]
        exact end_l hX hB hA3 rfl (by obtain rfl := hR; exact ⟨rfl, rfl⟩) (Nat.le_of_ble_eq_true rfl) (Nat.le_of_ble_eq_true rfl) dX5_greatestCommonDivisor_53
      · replace hR := ifn c7 hR
        refine lv_lload hx hb dX5_greatestCommonDivisor_23 (lv_at hl 1 rfl) ?_
        refine lv_lconst (v := 0) hx hb dX5_greatestCommonDivisor_25 (by decide) ?_
        refine W.lcmp hx hb dX5_greatestCommonDivisor_26 ?_
        refine lv_if_eq (tgt := 51) hx hb dX5_greatestCommonDivisor_27 (by decide) (fun c8 => ?_) (fun c8 => ?_)
        · replace hR := ifp c8 hR
          refine lv_lload hx hb dX5_greatestCommonDivisor_51 (lv_at hl 2 rfl) ?_
          rw [← hQ]
          exact end_l hX hB hA3 rfl (by obtain rfl := hR; exact ⟨rfl, rfl⟩) (Nat.le_of_ble_eq_true rfl) (Nat.le_of_ble_eq_true rfl) dX5_greatestCommonDivisor_53
        · replace hR := ifn c8 hR
          refine lv_lload hx hb dX5_greatestCommonDivisor_30 (lv_at hl 2 rfl) ?_
          refine lv_lload hx hb dX5_greatestCommonDivisor_32 (lv_at hl 1 rfl) ?_
          refine lv_lrem hx hb dX5_greatestCommonDivisor_34 (lgnz (by assumption)) ?_
          refine lv_lstore (lv' := [(9, .long (y4_15 - y4_15 / y6_15 * y6_15)), (8, .int y8_15), (6, .long y6_15), (4, .long y4_15), (0, .long x), (2, .long y)]) hx hb dX5_greatestCommonDivisor_35 hl (by decide) rfl (fun ls hl => ?_)
          refine lv_lload hx hb dX5_greatestCommonDivisor_37 (lv_at hl 2 rfl) ?_
          refine lv_lstore (lv' := [(4, .long y6_15), (9, .long (y4_15 - y4_15 / y6_15 * y6_15)), (8, .int y8_15), (6, .long y6_15), (0, .long x), (2, .long y)]) hx hb dX5_greatestCommonDivisor_39 hl (by decide) rfl (fun ls hl => ?_)
          refine lv_lload hx hb dX5_greatestCommonDivisor_41 (lv_at hl 1 rfl) ?_
          refine lv_lstore (lv' := [(6, .long (y4_15 - y4_15 / y6_15 * y6_15)), (4, .long y6_15), (9, .long (y4_15 - y4_15 / y6_15 * y6_15)), (8, .int y8_15), (0, .long x), (2, .long y)]) hx hb dX5_greatestCommonDivisor_43 hl (by decide) rfl (fun ls hl => ?_)
          refine lv_iinc (v := y8_15 + 1) (lv' := [(8, .int (y8_15 + 1)), (6, .long (y4_15 - y4_15 / y6_15 * y6_15)), (4, .long y6_15), (9, .long (y4_15 - y4_15 / y6_15 * y6_15)), (0, .long x), (2, .long y)]) hx hb dX5_greatestCommonDivisor_45 hl (k := 3) rfl rfl (by decide) rfl (fun ls hl => ?_)
          refine lv_goto (tgt := 15) hx hb dX5_greatestCommonDivisor_48 (by decide) ?_
          exact ih15 (y8_15 + 1) (y4_15 - y4_15 / y6_15 * y6_15) y6_15 _ _  (gap_step c7 hμ15) hR hB _ (lv_sub hl [0, 1, 2, 4, 5] rfl)
  exact lp15 _ 0 t2 t1 _ _  (Nat.lt_succ_self _) hR hB _ hl
end
section
-- 22.dets
noncomputable def D_X0_ofRest_0 (r : Nat → Int32) (q : Nat → Int32) (f : Nat → Nat → Int64) (i : Nat) (p0 : Int32) (p1 : Int32) (p2 : Int32) : Int64 := (if p2 < 4 then default else 1)
theorem D_X0_ofRest_0_s {r : Nat → Int32} {q : Nat → Int32} {f : Nat → Nat → Int64} {i : Nat} {p0 : Int32} {p1 : Int32} {p2 : Int32} : D_X0_ofRest_0 r q f i p0 p1 p2 = (if p2 < 4 then default else 1) := rfl
set_option maxHeartbeats 4000000 in
set_option maxRecDepth 100000 in
theorem k_X0_ofRest_0 (κ : Kt) (l : Launch) (a : Nat → Nat) (r q : Nat → Int32) (f : Nat → Nat → Int64) (i : Nat) (p0 : Int32) (p1 : Int32) (p2 : Int32) (hi : i < 15) (hp2 : 4 ≤ p2) (o_x : Int64) (hR : D_X0_ofRest_0 r q f i p0 p1 p2 = o_x) : CM κ l yX0_ofRest cX0_ofRest 10 (some .long) 0 0 0 0 [.ref (a (6 + 2 * i)), .int p0, .int p1, .int p2] (cw κ a r q f) (fun o w' => o = some (.long o_x) ∧ w' = cw κ a r q f) := by
  refine CM_begin (plainFor_of_name pn_RX0) (Nat.le_of_ble_eq_true rfl) ?_
  intro p e s m args below meth c A Q hX hnm hA3 hQ hB ls hl
  have hx := hX.1.1
  have hb := hX.1.2.1
  have hl : lv_has ls 10 [(0, .ref (a (6 + 2 * i))), (1, .int p0), (2, .int p1), (3, .int p2)] := hl
  replace hR := (D_X0_ofRest_0_s).symm.trans hR
  refine lv_iload_n hx hb dX0_ofRest_0 rfl (lv_at hl 3 rfl) ?_
  refine lv_iconst (v := 4) hx hb dX0_ofRest_1 (by decide) ?_
  refine lv_icmp_lt (tgt := 7) hx hb dX0_ofRest_2 (by decide) (fun c1 => ?_) (fun c1 => ?_)
  · replace hR := ifp c1 hR
    exact absurd hp2 (i32_not_le.mpr (by assumption))
  · replace hR := ifn c1 hR
    refine lv_lconst (v := 1) hx hb dX0_ofRest_5 (by decide) ?_
    rw [← hQ]
    exact end_l hX hB hA3 rfl (by obtain rfl := hR; exact ⟨rfl, rfl⟩) (Nat.le_of_ble_eq_true rfl) (Nat.le_of_ble_eq_true rfl) dX0_ofRest_6
noncomputable def D_X0_ofRest_1_j90 (lb34 : Int32 → Int32 → Int64 → Int64) (y7_34 : Int32) (y6_34 : Int32) (y4_34 : Int64) (z0_90 : Int64) : Int64 := (if y6_34 = 0 then (lb34 (y7_34 + 1) 1 (y4_34 + z0_90)) else (lb34 (y7_34 + 1) 0 (y4_34 + z0_90)))
theorem D_X0_ofRest_1_j90_s {lb34 : Int32 → Int32 → Int64 → Int64} {y7_34 : Int32} {y6_34 : Int32} {y4_34 : Int64} {z0_90 : Int64} : D_X0_ofRest_1_j90 lb34 y7_34 y6_34 y4_34 z0_90 = (if y6_34 = 0 then (lb34 (y7_34 + 1) 1 (y4_34 + z0_90)) else (lb34 (y7_34 + 1) 0 (y4_34 + z0_90))) := rfl
noncomputable def D_X0_ofRest_1_34 (r : Nat → Int32) (q : Nat → Int32) (f : Nat → Nat → Int64) (i : Nat) (p0 : Int32) (p1 : Int32) (p2 : Int32) (nn : Nat) : Int32 → Int32 → Int64 → Int64 := @Nat.rec (fun _ => Int32 → Int32 → Int64 → Int64) (fun _ _ _ => default) (fun _ lb34 (y7_34 : Int32) (y6_34 : Int32) (y4_34 : Int64) => (if 5 ≤ y7_34 then y4_34 else (if ((p1 >>> (y7_34 &&& 31)) &&& 1) = 0 then (lb34 (y7_34 + 1) y6_34 y4_34) else bnd1 (D_X3_get r q f i p2 y7_34) (fun (x24 : Int64) => bnd1 (D_X0_ofRest_0 r q f i p0 (p1 &&& ((1 <<< (y7_34 &&& 31)) ^^^ (-1))) (p2 + 1)) (fun (x26 : Int64) => (if y6_34 = 0 then (D_X0_ofRest_1_j90 lb34 y7_34 y6_34 y4_34 (x24 * x26)) else (D_X0_ofRest_1_j90 lb34 y7_34 y6_34 y4_34 (-(x24 * x26))))))))) nn
theorem D_X0_ofRest_1_34_s {r : Nat → Int32} {q : Nat → Int32} {f : Nat → Nat → Int64} {i : Nat} {p0 : Int32} {p1 : Int32} {p2 : Int32} {nn : Nat} {y7_34 : Int32} {y6_34 : Int32} {y4_34 : Int64} : D_X0_ofRest_1_34 r q f i p0 p1 p2 (nn + 1) y7_34 y6_34 y4_34 = (if 5 ≤ y7_34 then y4_34 else (if ((p1 >>> (y7_34 &&& 31)) &&& 1) = 0 then ((D_X0_ofRest_1_34 r q f i p0 p1 p2 nn) (y7_34 + 1) y6_34 y4_34) else bnd1 (D_X3_get r q f i p2 y7_34) (fun (x24 : Int64) => bnd1 (D_X0_ofRest_0 r q f i p0 (p1 &&& ((1 <<< (y7_34 &&& 31)) ^^^ (-1))) (p2 + 1)) (fun (x26 : Int64) => (if y6_34 = 0 then (D_X0_ofRest_1_j90 (D_X0_ofRest_1_34 r q f i p0 p1 p2 nn) y7_34 y6_34 y4_34 (x24 * x26)) else (D_X0_ofRest_1_j90 (D_X0_ofRest_1_34 r q f i p0 p1 p2 nn) y7_34 y6_34 y4_34 (-(x24 * x26)))))))) := rfl
noncomputable def D_X0_ofRest_1 (r : Nat → Int32) (q : Nat → Int32) (f : Nat → Nat → Int64) (i : Nat) (p0 : Int32) (p1 : Int32) (p2 : Int32) : Int64 := (if p2 < 4 then (if ((p0 >>> (p2 &&& 31)) &&& 1) = 0 then bnd1 (D_X0_ofRest_0 r q f i p0 p1 (p2 + 1)) (fun (x31 : Int64) => x31) else (D_X0_ofRest_1_34 r q f i p0 p1 p2 (gap 5 0 + 1) 0 0 0)) else 1)
theorem D_X0_ofRest_1_s {r : Nat → Int32} {q : Nat → Int32} {f : Nat → Nat → Int64} {i : Nat} {p0 : Int32} {p1 : Int32} {p2 : Int32} : D_X0_ofRest_1 r q f i p0 p1 p2 = (if p2 < 4 then (if ((p0 >>> (p2 &&& 31)) &&& 1) = 0 then bnd1 (D_X0_ofRest_0 r q f i p0 p1 (p2 + 1)) (fun (x31 : Int64) => x31) else (D_X0_ofRest_1_34 r q f i p0 p1 p2 (gap 5 0 + 1) 0 0 0)) else 1) := rfl
set_option maxHeartbeats 4000000 in
set_option maxRecDepth 100000 in
theorem k_X0_ofRest_1 (κ : Kt) (l : Launch) (a : Nat → Nat) (r q : Nat → Int32) (f : Nat → Nat → Int64) (i : Nat) (p0 : Int32) (p1 : Int32) (p2 : Int32) (hi : i < 15) (hp2 : 3 ≤ p2) (o_x : Int64) (hR : D_X0_ofRest_1 r q f i p0 p1 p2 = o_x) : CM κ l yX0_ofRest cX0_ofRest 10 (some .long) 1 29 0 0 [.ref (a (6 + 2 * i)), .int p0, .int p1, .int p2] (cw κ a r q f) (fun o w' => o = some (.long o_x) ∧ w' = cw κ a r q f) := by
  refine CM_begin (plainFor_of_name pn_RX0) (Nat.le_of_ble_eq_true rfl) ?_
  intro p e s m args below meth c A Q hX hnm hA3 hQ hB ls hl
  have hx := hX.1.1
  have hb := hX.1.2.1
  have hl : lv_has ls 10 [(0, .ref (a (6 + 2 * i))), (1, .int p0), (2, .int p1), (3, .int p2)] := hl
  replace hR := (D_X0_ofRest_1_s).symm.trans hR
  refine lv_iload_n hx hb dX0_ofRest_0 rfl (lv_at hl 3 rfl) ?_
  refine lv_iconst (v := 4) hx hb dX0_ofRest_1 (by decide) ?_
  refine lv_icmp_lt (tgt := 7) hx hb dX0_ofRest_2 (by decide) (fun c1 => ?_) (fun c1 => ?_)
  · replace hR := ifp c1 hR
    refine lv_iload_n hx hb dX0_ofRest_7 rfl (lv_at hl 1 rfl) ?_
    refine lv_iload_n hx hb dX0_ofRest_8 rfl (lv_at hl 3 rfl) ?_
    refine lv_ishr hx hb dX0_ofRest_9 ?_
    refine lv_iconst (v := 1) hx hb dX0_ofRest_10 (by decide) ?_
    refine lv_iand hx hb dX0_ofRest_11 ?_
    refine lv_if_ne (tgt := 25) hx hb dX0_ofRest_12 (by decide) (fun c2 => ?_) (fun c2 => ?_)
    · replace hR := ifn c2 hR
      refine lv_lconst (v := 0) hx hb dX0_ofRest_25 (by decide) ?_
      refine lv_lstore (lv' := [(4, .long 0), (0, .ref (a (6 + 2 * i))), (1, .int p0), (2, .int p1), (3, .int p2)]) hx hb dX0_ofRest_26 hl (by decide) rfl (fun ls hl => ?_)
      refine lv_iconst (v := 0) hx hb dX0_ofRest_28 (by decide) ?_
      refine lv_istore (lv' := [(6, .int 0), (4, .long 0), (0, .ref (a (6 + 2 * i))), (1, .int p0), (2, .int p1), (3, .int p2)]) hx hb dX0_ofRest_29 hl (by decide) rfl (fun ls hl => ?_)
      refine lv_iconst (v := 0) hx hb dX0_ofRest_31 (by decide) ?_
      refine lv_istore (lv' := [(7, .int 0), (6, .int 0), (4, .long 0), (0, .ref (a (6 + 2 * i))), (1, .int p0), (2, .int p1), (3, .int p2)]) hx hb dX0_ofRest_32 hl (by decide) rfl (fun ls hl => ?_)
      have lp34 : ∀ (nn34 : Nat) (y7_34 : Int32) (y6_34 : Int32) (y4_34 : Int64) (H : Heap) (locs : List Loc), gap 5 y7_34 < nn34 → D_X0_ofRest_1_34 r q f i p0 p1 p2 nn34 y7_34 y6_34 y4_34 = o_x → Bd κ A s (cw κ a r q f) H locs → ∀ ls : Array Slot, lv_has ls 10 [(7, .int y7_34), (6, .int y6_34), (4, .long y4_34), (0, .ref (a (6 + 2 * i))), (1, .int p0), (2, .int p1), (3, .int p2)] → W p l e (Rm 1 29 0 0) s m args below meth c H locs 0 0 Q (F0 m 34 ls []) := by
        intro nn34
        induction nn34 with
        | zero => intro y7_34 y6_34 y4_34 H locs hμ; exact absurd hμ (Nat.not_lt_zero _)
        | succ nn34 ih34 =>
          intro y7_34 y6_34 y4_34 H locs hμ34 hR hB ls hl
          replace hR := (D_X0_ofRest_1_34_s).symm.trans hR
          refine lv_iload hx hb dX0_ofRest_34 (lv_at hl 0 rfl) ?_
          refine lv_iconst (v := 5) hx hb dX0_ofRest_36 (by decide) ?_
          refine lv_icmp_ge (tgt := 111) hx hb dX0_ofRest_37 (by decide) (fun c21 => ?_) (fun c21 => ?_)
          · replace hR := ifp c21 hR
            refine lv_lload hx hb dX0_ofRest_111 (lv_at hl 2 rfl) ?_
            rw [← hQ]
            exact end_l hX hB hA3 rfl (by obtain rfl := hR; exact ⟨rfl, rfl⟩) (Nat.le_of_ble_eq_true rfl) (Nat.le_of_ble_eq_true rfl) dX0_ofRest_113
          · replace hR := ifn c21 hR
            refine lv_iload_n hx hb dX0_ofRest_40 rfl (lv_at hl 5 rfl) ?_
            refine lv_iload hx hb dX0_ofRest_41 (lv_at hl 0 rfl) ?_
            refine lv_ishr hx hb dX0_ofRest_43 ?_
            refine lv_iconst (v := 1) hx hb dX0_ofRest_44 (by decide) ?_
            refine lv_iand hx hb dX0_ofRest_45 ?_
            refine lv_if_eq (tgt := 105) hx hb dX0_ofRest_46 (by decide) (fun c22 => ?_) (fun c22 => ?_)
            · replace hR := ifp c22 hR
              refine lv_iinc (v := y7_34 + 1) (lv' := [(7, .int (y7_34 + 1)), (6, .int y6_34), (4, .long y4_34), (0, .ref (a (6 + 2 * i))), (1, .int p0), (2, .int p1), (3, .int p2)]) hx hb dX0_ofRest_105 hl (k := 0) rfl rfl (by decide) rfl (fun ls hl => ?_)
              refine lv_goto (tgt := 34) hx hb dX0_ofRest_108 (by decide) ?_
              exact ih34 (y7_34 + 1) y6_34 y4_34 _ _  (gap_step c21 hμ34) hR hB _ hl
            · replace hR := ifn c22 hR
              refine lv_aload_n hx hb dX0_ofRest_49 rfl (lv_at hl 3 rfl) ?_
              refine lv_iload_n hx hb dX0_ofRest_50 rfl (lv_at hl 6 rfl) ?_
              refine lv_iload hx hb dX0_ofRest_51 (lv_at hl 0 rfl) ?_
              obtain ⟨x24, hd23⟩ := ex1 (D_X3_get r q f i p2 y7_34)
              replace hR := bnd1_use hd23 hR
              refine call_V (n := 2) (As := [.int p2, .int y7_34]) (rest := []) hX hB (k_X3_get κ l a r q f i p2 y7_34 hi x24 hd23) ⟨rfl, yk_X3_get⟩ wm_1_186 wm_1_187 wm_1_188 wm_1_2 wm_1_189 ⟨Nat.le_of_ble_eq_true rfl, Nat.le_of_ble_eq_true rfl⟩ ⟨Nat.le_of_ble_eq_true rfl, Nat.le_of_ble_eq_true rfl⟩ (cwG (i := i) hi) rfl rfl rfl hl.1 rfl (Nat.le_of_ble_eq_true rfl) dX0_ofRest_53 (fun o w' H locs hp hB => ?_)
              obtain ⟨rfl, rfl⟩ := hp
              refine W.eq (g2 := F0 m 56 ls [.long x24]) rfl ?_
              refine lv_aload_n hx hb dX0_ofRest_56 rfl (lv_at hl 3 rfl) ?_
              refine lv_iload_n hx hb dX0_ofRest_57 rfl (lv_at hl 4 rfl) ?_
              refine lv_iload_n hx hb dX0_ofRest_58 rfl (lv_at hl 5 rfl) ?_
              refine lv_iconst (v := 1) hx hb dX0_ofRest_59 (by decide) ?_
              refine lv_iload hx hb dX0_ofRest_60 (lv_at hl 0 rfl) ?_
              refine lv_ishl hx hb dX0_ofRest_62 ?_
              refine lv_iconst (v := (-1)) hx hb dX0_ofRest_63 (by decide) ?_
              refine lv_ixor hx hb dX0_ofRest_64 ?_
              refine lv_iand hx hb dX0_ofRest_65 ?_
              refine lv_iload_n hx hb dX0_ofRest_66 rfl (lv_at hl 6 rfl) ?_
              refine lv_iconst (v := 1) hx hb dX0_ofRest_67 (by decide) ?_
              refine lv_iadd hx hb dX0_ofRest_68 ?_
              obtain ⟨x26, hd25⟩ := ex1 (D_X0_ofRest_0 r q f i p0 (p1 &&& ((1 <<< (y7_34 &&& 31)) ^^^ (-1))) (p2 + 1))
              replace hR := bnd1_use hd25 hR
              refine call_S (n := 4) (As := [.ref (a (6 + 2 * i)), .int p0, .int (p1 &&& ((1 <<< (y7_34 &&& 31)) ^^^ (-1))), .int (p2 + 1)]) (rest := [.long x24]) hX hB (k_X0_ofRest_0 κ l a r q f i p0 (p1 &&& ((1 <<< (y7_34 &&& 31)) ^^^ (-1))) (p2 + 1) hi (lvup (lo := 3) (hi := 4) rfl hp2 (by assumption)) x26 hd25) yk_X0_ofRest wm_1_183 wm_1_184 wm_1_29 wm_1_185 ⟨Nat.le_of_ble_eq_true rfl, Nat.le_of_ble_eq_true rfl⟩ ⟨Nat.le_of_ble_eq_true rfl, Nat.le_of_ble_eq_true rfl⟩ rfl hl.1 rfl (Nat.le_of_ble_eq_true rfl) dX0_ofRest_69 (fun o w' H locs hp hB => ?_)
              obtain ⟨rfl, rfl⟩ := hp
              refine W.eq (g2 := F0 m 72 ls [.long x26, .long x24]) rfl ?_
              refine lv_lmul hx hb dX0_ofRest_72 ?_
              refine lv_lstore (lv' := [(8, .long (x24 * x26)), (7, .int y7_34), (6, .int y6_34), (4, .long y4_34), (0, .ref (a (6 + 2 * i))), (1, .int p0), (2, .int p1), (3, .int p2)]) hx hb dX0_ofRest_73 hl (by decide) rfl (fun ls hl => ?_)
              refine lv_lload hx hb dX0_ofRest_75 (lv_at hl 3 rfl) ?_
              refine lv_iload hx hb dX0_ofRest_77 (lv_at hl 2 rfl) ?_
              have jn90 : ∀ (z0_90 : Int64) (H : Heap) (locs : List Loc), D_X0_ofRest_1_j90 (D_X0_ofRest_1_34 r q f i p0 p1 p2 nn34) y7_34 y6_34 y4_34 z0_90 = o_x → Bd κ A s (cw κ a r q f) H locs → ∀ ls : Array Slot, lv_has ls 10 [(8, .long (x24 * x26)), (7, .int y7_34), (6, .int y6_34), (4, .long y4_34), (0, .ref (a (6 + 2 * i))), (1, .int p0), (2, .int p1), (3, .int p2)] → W p l e (Rm 1 29 0 0) s m args below meth c H locs 0 0 Q (F0 m 90 ls [.long z0_90, .long y4_34]) := by
                intro z0_90 H locs hR hB ls hl
                replace hR := (D_X0_ofRest_1_j90_s).symm.trans hR
                refine lv_ladd hx hb dX0_ofRest_90 ?_
                refine lv_lstore (lv' := [(4, .long (y4_34 + z0_90)), (8, .long (x24 * x26)), (7, .int y7_34), (6, .int y6_34), (0, .ref (a (6 + 2 * i))), (1, .int p0), (2, .int p1), (3, .int p2)]) hx hb dX0_ofRest_91 hl (by decide) rfl (fun ls hl => ?_)
                refine lv_iload hx hb dX0_ofRest_93 (lv_at hl 3 rfl) ?_
                refine lv_if_ne (tgt := 102) hx hb dX0_ofRest_95 (by decide) (fun c28 => ?_) (fun c28 => ?_)
                · replace hR := ifn c28 hR
                  refine lv_iconst (v := 0) hx hb dX0_ofRest_102 (by decide) ?_
                  refine lv_istore (lv' := [(6, .int 0), (4, .long (y4_34 + z0_90)), (8, .long (x24 * x26)), (7, .int y7_34), (0, .ref (a (6 + 2 * i))), (1, .int p0), (2, .int p1), (3, .int p2)]) hx hb dX0_ofRest_103 hl (by decide) rfl (fun ls hl => ?_)
                  refine lv_iinc (v := y7_34 + 1) (lv' := [(7, .int (y7_34 + 1)), (6, .int 0), (4, .long (y4_34 + z0_90)), (8, .long (x24 * x26)), (0, .ref (a (6 + 2 * i))), (1, .int p0), (2, .int p1), (3, .int p2)]) hx hb dX0_ofRest_105 hl (k := 3) rfl rfl (by decide) rfl (fun ls hl => ?_)
                  refine lv_goto (tgt := 34) hx hb dX0_ofRest_108 (by decide) ?_
                  exact ih34 (y7_34 + 1) 0 (y4_34 + z0_90) _ _  (gap_step c21 hμ34) hR hB _ (lv_sub hl [0, 1, 2, 4, 5, 6, 7] rfl)
                · replace hR := ifp c28 hR
                  refine lv_iconst (v := 1) hx hb dX0_ofRest_98 (by decide) ?_
                  refine lv_goto (tgt := 103) hx hb dX0_ofRest_99 (by decide) ?_
                  refine lv_istore (lv' := [(6, .int 1), (4, .long (y4_34 + z0_90)), (8, .long (x24 * x26)), (7, .int y7_34), (0, .ref (a (6 + 2 * i))), (1, .int p0), (2, .int p1), (3, .int p2)]) hx hb dX0_ofRest_103 hl (by decide) rfl (fun ls hl => ?_)
                  refine lv_iinc (v := y7_34 + 1) (lv' := [(7, .int (y7_34 + 1)), (6, .int 1), (4, .long (y4_34 + z0_90)), (8, .long (x24 * x26)), (0, .ref (a (6 + 2 * i))), (1, .int p0), (2, .int p1), (3, .int p2)]) hx hb dX0_ofRest_105 hl (k := 3) rfl rfl (by decide) rfl (fun ls hl => ?_)
                  refine lv_goto (tgt := 34) hx hb dX0_ofRest_108 (by decide) ?_
                  exact ih34 (y7_34 + 1) 1 (y4_34 + z0_90) _ _  (gap_step c21 hμ34) hR hB _ (lv_sub hl [0, 1, 2, 4, 5, 6, 7] rfl)
              refine lv_if_eq (tgt := 88) hx hb dX0_ofRest_79 (by decide) (fun c29 => ?_) (fun c29 => ?_)
              · replace hR := ifp c29 hR
                refine lv_lload hx hb dX0_ofRest_88 (lv_at hl 0 rfl) ?_
                exact jn90 (x24 * x26) _ _  hR hB _ hl
              · replace hR := ifn c29 hR
                refine lv_lload hx hb dX0_ofRest_82 (lv_at hl 0 rfl) ?_
                refine lv_lneg hx hb dX0_ofRest_84 ?_
                refine lv_goto (tgt := 90) hx hb dX0_ofRest_85 (by decide) ?_
                exact jn90 (-(x24 * x26)) _ _  hR hB _ hl
      exact lp34 _ 0 0 0 _ _  (Nat.lt_succ_self _) hR hB _ hl
    · replace hR := ifp c2 hR
      refine lv_aload_n hx hb dX0_ofRest_15 rfl (lv_at hl 0 rfl) ?_
      refine lv_iload_n hx hb dX0_ofRest_16 rfl (lv_at hl 1 rfl) ?_
      refine lv_iload_n hx hb dX0_ofRest_17 rfl (lv_at hl 2 rfl) ?_
      refine lv_iload_n hx hb dX0_ofRest_18 rfl (lv_at hl 3 rfl) ?_
      refine lv_iconst (v := 1) hx hb dX0_ofRest_19 (by decide) ?_
      refine lv_iadd hx hb dX0_ofRest_20 ?_
      obtain ⟨x31, hd30⟩ := ex1 (D_X0_ofRest_0 r q f i p0 p1 (p2 + 1))
      replace hR := bnd1_use hd30 hR
      refine call_S (n := 4) (As := [.ref (a (6 + 2 * i)), .int p0, .int p1, .int (p2 + 1)]) (rest := []) hX hB (k_X0_ofRest_0 κ l a r q f i p0 p1 (p2 + 1) hi (lvup (lo := 3) (hi := 4) rfl hp2 (by assumption)) x31 hd30) yk_X0_ofRest wm_1_183 wm_1_184 wm_1_29 wm_1_185 ⟨Nat.le_of_ble_eq_true rfl, Nat.le_of_ble_eq_true rfl⟩ ⟨Nat.le_of_ble_eq_true rfl, Nat.le_of_ble_eq_true rfl⟩ rfl hl.1 rfl (Nat.le_of_ble_eq_true rfl) dX0_ofRest_21 (fun o w' H locs hp hB => ?_)
      obtain ⟨rfl, rfl⟩ := hp
      refine W.eq (g2 := F0 m 24 ls [.long x31]) rfl ?_
      rw [← hQ]
      exact end_l hX hB hA3 rfl (by obtain rfl := hR; exact ⟨rfl, rfl⟩) (Nat.le_of_ble_eq_true rfl) (Nat.le_of_ble_eq_true rfl) dX0_ofRest_24
  · replace hR := ifn c1 hR
    refine lv_lconst (v := 1) hx hb dX0_ofRest_5 (by decide) ?_
    rw [← hQ]
    exact end_l hX hB hA3 rfl (by obtain rfl := hR; exact ⟨rfl, rfl⟩) (Nat.le_of_ble_eq_true rfl) (Nat.le_of_ble_eq_true rfl) dX0_ofRest_6
noncomputable def D_X0_ofRest_2_j90 (lb34 : Int32 → Int32 → Int64 → Int64) (y7_34 : Int32) (y6_34 : Int32) (y4_34 : Int64) (z0_90 : Int64) : Int64 := (if y6_34 = 0 then (lb34 (y7_34 + 1) 1 (y4_34 + z0_90)) else (lb34 (y7_34 + 1) 0 (y4_34 + z0_90)))
theorem D_X0_ofRest_2_j90_s {lb34 : Int32 → Int32 → Int64 → Int64} {y7_34 : Int32} {y6_34 : Int32} {y4_34 : Int64} {z0_90 : Int64} : D_X0_ofRest_2_j90 lb34 y7_34 y6_34 y4_34 z0_90 = (if y6_34 = 0 then (lb34 (y7_34 + 1) 1 (y4_34 + z0_90)) else (lb34 (y7_34 + 1) 0 (y4_34 + z0_90))) := rfl
noncomputable def D_X0_ofRest_2_34 (r : Nat → Int32) (q : Nat → Int32) (f : Nat → Nat → Int64) (i : Nat) (p0 : Int32) (p1 : Int32) (p2 : Int32) (nn : Nat) : Int32 → Int32 → Int64 → Int64 := @Nat.rec (fun _ => Int32 → Int32 → Int64 → Int64) (fun _ _ _ => default) (fun _ lb34 (y7_34 : Int32) (y6_34 : Int32) (y4_34 : Int64) => (if 5 ≤ y7_34 then y4_34 else (if ((p1 >>> (y7_34 &&& 31)) &&& 1) = 0 then (lb34 (y7_34 + 1) y6_34 y4_34) else bnd1 (D_X3_get r q f i p2 y7_34) (fun (x24 : Int64) => bnd1 (D_X0_ofRest_1 r q f i p0 (p1 &&& ((1 <<< (y7_34 &&& 31)) ^^^ (-1))) (p2 + 1)) (fun (x26 : Int64) => (if y6_34 = 0 then (D_X0_ofRest_2_j90 lb34 y7_34 y6_34 y4_34 (x24 * x26)) else (D_X0_ofRest_2_j90 lb34 y7_34 y6_34 y4_34 (-(x24 * x26))))))))) nn
theorem D_X0_ofRest_2_34_s {r : Nat → Int32} {q : Nat → Int32} {f : Nat → Nat → Int64} {i : Nat} {p0 : Int32} {p1 : Int32} {p2 : Int32} {nn : Nat} {y7_34 : Int32} {y6_34 : Int32} {y4_34 : Int64} : D_X0_ofRest_2_34 r q f i p0 p1 p2 (nn + 1) y7_34 y6_34 y4_34 = (if 5 ≤ y7_34 then y4_34 else (if ((p1 >>> (y7_34 &&& 31)) &&& 1) = 0 then ((D_X0_ofRest_2_34 r q f i p0 p1 p2 nn) (y7_34 + 1) y6_34 y4_34) else bnd1 (D_X3_get r q f i p2 y7_34) (fun (x24 : Int64) => bnd1 (D_X0_ofRest_1 r q f i p0 (p1 &&& ((1 <<< (y7_34 &&& 31)) ^^^ (-1))) (p2 + 1)) (fun (x26 : Int64) => (if y6_34 = 0 then (D_X0_ofRest_2_j90 (D_X0_ofRest_2_34 r q f i p0 p1 p2 nn) y7_34 y6_34 y4_34 (x24 * x26)) else (D_X0_ofRest_2_j90 (D_X0_ofRest_2_34 r q f i p0 p1 p2 nn) y7_34 y6_34 y4_34 (-(x24 * x26)))))))) := rfl
noncomputable def D_X0_ofRest_2 (r : Nat → Int32) (q : Nat → Int32) (f : Nat → Nat → Int64) (i : Nat) (p0 : Int32) (p1 : Int32) (p2 : Int32) : Int64 := (if p2 < 4 then (if ((p0 >>> (p2 &&& 31)) &&& 1) = 0 then bnd1 (D_X0_ofRest_1 r q f i p0 p1 (p2 + 1)) (fun (x31 : Int64) => x31) else (D_X0_ofRest_2_34 r q f i p0 p1 p2 (gap 5 0 + 1) 0 0 0)) else 1)
theorem D_X0_ofRest_2_s {r : Nat → Int32} {q : Nat → Int32} {f : Nat → Nat → Int64} {i : Nat} {p0 : Int32} {p1 : Int32} {p2 : Int32} : D_X0_ofRest_2 r q f i p0 p1 p2 = (if p2 < 4 then (if ((p0 >>> (p2 &&& 31)) &&& 1) = 0 then bnd1 (D_X0_ofRest_1 r q f i p0 p1 (p2 + 1)) (fun (x31 : Int64) => x31) else (D_X0_ofRest_2_34 r q f i p0 p1 p2 (gap 5 0 + 1) 0 0 0)) else 1) := rfl
set_option maxHeartbeats 4000000 in
set_option maxRecDepth 100000 in
theorem k_X0_ofRest_2 (κ : Kt) (l : Launch) (a : Nat → Nat) (r q : Nat → Int32) (f : Nat → Nat → Int64) (i : Nat) (p0 : Int32) (p1 : Int32) (p2 : Int32) (hi : i < 15) (hp2 : 2 ≤ p2) (o_x : Int64) (hR : D_X0_ofRest_2 r q f i p0 p1 p2 = o_x) : CM κ l yX0_ofRest cX0_ofRest 10 (some .long) 2 58 0 0 [.ref (a (6 + 2 * i)), .int p0, .int p1, .int p2] (cw κ a r q f) (fun o w' => o = some (.long o_x) ∧ w' = cw κ a r q f) := by
  refine CM_begin (plainFor_of_name pn_RX0) (Nat.le_of_ble_eq_true rfl) ?_
  intro p e s m args below meth c A Q hX hnm hA3 hQ hB ls hl
  have hx := hX.1.1
  have hb := hX.1.2.1
  have hl : lv_has ls 10 [(0, .ref (a (6 + 2 * i))), (1, .int p0), (2, .int p1), (3, .int p2)] := hl
  replace hR := (D_X0_ofRest_2_s).symm.trans hR
  refine lv_iload_n hx hb dX0_ofRest_0 rfl (lv_at hl 3 rfl) ?_
  refine lv_iconst (v := 4) hx hb dX0_ofRest_1 (by decide) ?_
  refine lv_icmp_lt (tgt := 7) hx hb dX0_ofRest_2 (by decide) (fun c1 => ?_) (fun c1 => ?_)
  · replace hR := ifp c1 hR
    refine lv_iload_n hx hb dX0_ofRest_7 rfl (lv_at hl 1 rfl) ?_
    refine lv_iload_n hx hb dX0_ofRest_8 rfl (lv_at hl 3 rfl) ?_
    refine lv_ishr hx hb dX0_ofRest_9 ?_
    refine lv_iconst (v := 1) hx hb dX0_ofRest_10 (by decide) ?_
    refine lv_iand hx hb dX0_ofRest_11 ?_
    refine lv_if_ne (tgt := 25) hx hb dX0_ofRest_12 (by decide) (fun c2 => ?_) (fun c2 => ?_)
    · replace hR := ifn c2 hR
      refine lv_lconst (v := 0) hx hb dX0_ofRest_25 (by decide) ?_
      refine lv_lstore (lv' := [(4, .long 0), (0, .ref (a (6 + 2 * i))), (1, .int p0), (2, .int p1), (3, .int p2)]) hx hb dX0_ofRest_26 hl (by decide) rfl (fun ls hl => ?_)
      refine lv_iconst (v := 0) hx hb dX0_ofRest_28 (by decide) ?_
      refine lv_istore (lv' := [(6, .int 0), (4, .long 0), (0, .ref (a (6 + 2 * i))), (1, .int p0), (2, .int p1), (3, .int p2)]) hx hb dX0_ofRest_29 hl (by decide) rfl (fun ls hl => ?_)
      refine lv_iconst (v := 0) hx hb dX0_ofRest_31 (by decide) ?_
      refine lv_istore (lv' := [(7, .int 0), (6, .int 0), (4, .long 0), (0, .ref (a (6 + 2 * i))), (1, .int p0), (2, .int p1), (3, .int p2)]) hx hb dX0_ofRest_32 hl (by decide) rfl (fun ls hl => ?_)
      have lp34 : ∀ (nn34 : Nat) (y7_34 : Int32) (y6_34 : Int32) (y4_34 : Int64) (H : Heap) (locs : List Loc), gap 5 y7_34 < nn34 → D_X0_ofRest_2_34 r q f i p0 p1 p2 nn34 y7_34 y6_34 y4_34 = o_x → Bd κ A s (cw κ a r q f) H locs → ∀ ls : Array Slot, lv_has ls 10 [(7, .int y7_34), (6, .int y6_34), (4, .long y4_34), (0, .ref (a (6 + 2 * i))), (1, .int p0), (2, .int p1), (3, .int p2)] → W p l e (Rm 2 58 0 0) s m args below meth c H locs 0 0 Q (F0 m 34 ls []) := by
        intro nn34
        induction nn34 with
        | zero => intro y7_34 y6_34 y4_34 H locs hμ; exact absurd hμ (Nat.not_lt_zero _)
        | succ nn34 ih34 =>
          intro y7_34 y6_34 y4_34 H locs hμ34 hR hB ls hl
          replace hR := (D_X0_ofRest_2_34_s).symm.trans hR
          refine lv_iload hx hb dX0_ofRest_34 (lv_at hl 0 rfl) ?_
          refine lv_iconst (v := 5) hx hb dX0_ofRest_36 (by decide) ?_
          refine lv_icmp_ge (tgt := 111) hx hb dX0_ofRest_37 (by decide) (fun c21 => ?_) (fun c21 => ?_)
          · replace hR := ifp c21 hR
            refine lv_lload hx hb dX0_ofRest_111 (lv_at hl 2 rfl) ?_
            rw [← hQ]
            exact end_l hX hB hA3 rfl (by obtain rfl := hR; exact ⟨rfl, rfl⟩) (Nat.le_of_ble_eq_true rfl) (Nat.le_of_ble_eq_true rfl) dX0_ofRest_113
          · replace hR := ifn c21 hR
            refine lv_iload_n hx hb dX0_ofRest_40 rfl (lv_at hl 5 rfl) ?_
            refine lv_iload hx hb dX0_ofRest_41 (lv_at hl 0 rfl) ?_
            refine lv_ishr hx hb dX0_ofRest_43 ?_
            refine lv_iconst (v := 1) hx hb dX0_ofRest_44 (by decide) ?_
            refine lv_iand hx hb dX0_ofRest_45 ?_
            refine lv_if_eq (tgt := 105) hx hb dX0_ofRest_46 (by decide) (fun c22 => ?_) (fun c22 => ?_)
            · replace hR := ifp c22 hR
              refine lv_iinc (v := y7_34 + 1) (lv' := [(7, .int (y7_34 + 1)), (6, .int y6_34), (4, .long y4_34), (0, .ref (a (6 + 2 * i))), (1, .int p0), (2, .int p1), (3, .int p2)]) hx hb dX0_ofRest_105 hl (k := 0) rfl rfl (by decide) rfl (fun ls hl => ?_)
              refine lv_goto (tgt := 34) hx hb dX0_ofRest_108 (by decide) ?_
              exact ih34 (y7_34 + 1) y6_34 y4_34 _ _  (gap_step c21 hμ34) hR hB _ hl
            · replace hR := ifn c22 hR
              refine lv_aload_n hx hb dX0_ofRest_49 rfl (lv_at hl 3 rfl) ?_
              refine lv_iload_n hx hb dX0_ofRest_50 rfl (lv_at hl 6 rfl) ?_
              refine lv_iload hx hb dX0_ofRest_51 (lv_at hl 0 rfl) ?_
              obtain ⟨x24, hd23⟩ := ex1 (D_X3_get r q f i p2 y7_34)
              replace hR := bnd1_use hd23 hR
              refine call_V (n := 2) (As := [.int p2, .int y7_34]) (rest := []) hX hB (k_X3_get κ l a r q f i p2 y7_34 hi x24 hd23) ⟨rfl, yk_X3_get⟩ wm_1_186 wm_1_187 wm_1_188 wm_1_2 wm_1_189 ⟨Nat.le_of_ble_eq_true rfl, Nat.le_of_ble_eq_true rfl⟩ ⟨Nat.le_of_ble_eq_true rfl, Nat.le_of_ble_eq_true rfl⟩ (cwG (i := i) hi) rfl rfl rfl hl.1 rfl (Nat.le_of_ble_eq_true rfl) dX0_ofRest_53 (fun o w' H locs hp hB => ?_)
              obtain ⟨rfl, rfl⟩ := hp
              refine W.eq (g2 := F0 m 56 ls [.long x24]) rfl ?_
              refine lv_aload_n hx hb dX0_ofRest_56 rfl (lv_at hl 3 rfl) ?_
              refine lv_iload_n hx hb dX0_ofRest_57 rfl (lv_at hl 4 rfl) ?_
              refine lv_iload_n hx hb dX0_ofRest_58 rfl (lv_at hl 5 rfl) ?_
              refine lv_iconst (v := 1) hx hb dX0_ofRest_59 (by decide) ?_
              refine lv_iload hx hb dX0_ofRest_60 (lv_at hl 0 rfl) ?_
              refine lv_ishl hx hb dX0_ofRest_62 ?_
              refine lv_iconst (v := (-1)) hx hb dX0_ofRest_63 (by decide) ?_
              refine lv_ixor hx hb dX0_ofRest_64 ?_
              refine lv_iand hx hb dX0_ofRest_65 ?_
              refine lv_iload_n hx hb dX0_ofRest_66 rfl (lv_at hl 6 rfl) ?_
              refine lv_iconst (v := 1) hx hb dX0_ofRest_67 (by decide) ?_
              refine lv_iadd hx hb dX0_ofRest_68 ?_
              obtain ⟨x26, hd25⟩ := ex1 (D_X0_ofRest_1 r q f i p0 (p1 &&& ((1 <<< (y7_34 &&& 31)) ^^^ (-1))) (p2 + 1))
              replace hR := bnd1_use hd25 hR
              refine call_S (n := 4) (As := [.ref (a (6 + 2 * i)), .int p0, .int (p1 &&& ((1 <<< (y7_34 &&& 31)) ^^^ (-1))), .int (p2 + 1)]) (rest := [.long x24]) hX hB (k_X0_ofRest_1 κ l a r q f i p0 (p1 &&& ((1 <<< (y7_34 &&& 31)) ^^^ (-1))) (p2 + 1) hi (lvup (lo := 2) (hi := 3) rfl hp2 (by assumption)) x26 hd25) yk_X0_ofRest wm_1_183 wm_1_184 wm_1_29 wm_1_185 ⟨Nat.le_of_ble_eq_true rfl, Nat.le_of_ble_eq_true rfl⟩ ⟨Nat.le_of_ble_eq_true rfl, Nat.le_of_ble_eq_true rfl⟩ rfl hl.1 rfl (Nat.le_of_ble_eq_true rfl) dX0_ofRest_69 (fun o w' H locs hp hB => ?_)
              obtain ⟨rfl, rfl⟩ := hp
              refine W.eq (g2 := F0 m 72 ls [.long x26, .long x24]) rfl ?_
              refine lv_lmul hx hb dX0_ofRest_72 ?_
              refine lv_lstore (lv' := [(8, .long (x24 * x26)), (7, .int y7_34), (6, .int y6_34), (4, .long y4_34), (0, .ref (a (6 + 2 * i))), (1, .int p0), (2, .int p1), (3, .int p2)]) hx hb dX0_ofRest_73 hl (by decide) rfl (fun ls hl => ?_)
              refine lv_lload hx hb dX0_ofRest_75 (lv_at hl 3 rfl) ?_
              refine lv_iload hx hb dX0_ofRest_77 (lv_at hl 2 rfl) ?_
              have jn90 : ∀ (z0_90 : Int64) (H : Heap) (locs : List Loc), D_X0_ofRest_2_j90 (D_X0_ofRest_2_34 r q f i p0 p1 p2 nn34) y7_34 y6_34 y4_34 z0_90 = o_x → Bd κ A s (cw κ a r q f) H locs → ∀ ls : Array Slot, lv_has ls 10 [(8, .long (x24 * x26)), (7, .int y7_34), (6, .int y6_34), (4, .long y4_34), (0, .ref (a (6 + 2 * i))), (1, .int p0), (2, .int p1), (3, .int p2)] → W p l e (Rm 2 58 0 0) s m args below meth c H locs 0 0 Q (F0 m 90 ls [.long z0_90, .long y4_34]) := by
                intro z0_90 H locs hR hB ls hl
                replace hR := (D_X0_ofRest_2_j90_s).symm.trans hR
                refine lv_ladd hx hb dX0_ofRest_90 ?_
                refine lv_lstore (lv' := [(4, .long (y4_34 + z0_90)), (8, .long (x24 * x26)), (7, .int y7_34), (6, .int y6_34), (0, .ref (a (6 + 2 * i))), (1, .int p0), (2, .int p1), (3, .int p2)]) hx hb dX0_ofRest_91 hl (by decide) rfl (fun ls hl => ?_)
                refine lv_iload hx hb dX0_ofRest_93 (lv_at hl 3 rfl) ?_
                refine lv_if_ne (tgt := 102) hx hb dX0_ofRest_95 (by decide) (fun c28 => ?_) (fun c28 => ?_)
                · replace hR := ifn c28 hR
                  refine lv_iconst (v := 0) hx hb dX0_ofRest_102 (by decide) ?_
                  refine lv_istore (lv' := [(6, .int 0), (4, .long (y4_34 + z0_90)), (8, .long (x24 * x26)), (7, .int y7_34), (0, .ref (a (6 + 2 * i))), (1, .int p0), (2, .int p1), (3, .int p2)]) hx hb dX0_ofRest_103 hl (by decide) rfl (fun ls hl => ?_)
                  refine lv_iinc (v := y7_34 + 1) (lv' := [(7, .int (y7_34 + 1)), (6, .int 0), (4, .long (y4_34 + z0_90)), (8, .long (x24 * x26)), (0, .ref (a (6 + 2 * i))), (1, .int p0), (2, .int p1), (3, .int p2)]) hx hb dX0_ofRest_105 hl (k := 3) rfl rfl (by decide) rfl (fun ls hl => ?_)
                  refine lv_goto (tgt := 34) hx hb dX0_ofRest_108 (by decide) ?_
                  exact ih34 (y7_34 + 1) 0 (y4_34 + z0_90) _ _  (gap_step c21 hμ34) hR hB _ (lv_sub hl [0, 1, 2, 4, 5, 6, 7] rfl)
                · replace hR := ifp c28 hR
                  refine lv_iconst (v := 1) hx hb dX0_ofRest_98 (by decide) ?_
                  refine lv_goto (tgt := 103) hx hb dX0_ofRest_99 (by decide) ?_
                  refine lv_istore (lv' := [(6, .int 1), (4, .long (y4_34 + z0_90)), (8, .long (x24 * x26)), (7, .int y7_34), (0, .ref (a (6 + 2 * i))), (1, .int p0), (2, .int p1), (3, .int p2)]) hx hb dX0_ofRest_103 hl (by decide) rfl (fun ls hl => ?_)
                  refine lv_iinc (v := y7_34 + 1) (lv' := [(7, .int (y7_34 + 1)), (6, .int 1), (4, .long (y4_34 + z0_90)), (8, .long (x24 * x26)), (0, .ref (a (6 + 2 * i))), (1, .int p0), (2, .int p1), (3, .int p2)]) hx hb dX0_ofRest_105 hl (k := 3) rfl rfl (by decide) rfl (fun ls hl => ?_)
                  refine lv_goto (tgt := 34) hx hb dX0_ofRest_108 (by decide) ?_
                  exact ih34 (y7_34 + 1) 1 (y4_34 + z0_90) _ _  (gap_step c21 hμ34) hR hB _ (lv_sub hl [0, 1, 2, 4, 5, 6, 7] rfl)
              refine lv_if_eq (tgt := 88) hx hb dX0_ofRest_79 (by decide) (fun c29 => ?_) (fun c29 => ?_)
              · replace hR := ifp c29 hR
                refine lv_lload hx hb dX0_ofRest_88 (lv_at hl 0 rfl) ?_
                exact jn90 (x24 * x26) _ _  hR hB _ hl
              · replace hR := ifn c29 hR
                refine lv_lload hx hb dX0_ofRest_82 (lv_at hl 0 rfl) ?_
                refine lv_lneg hx hb dX0_ofRest_84 ?_
                refine lv_goto (tgt := 90) hx hb dX0_ofRest_85 (by decide) ?_
                exact jn90 (-(x24 * x26)) _ _  hR hB _ hl
      exact lp34 _ 0 0 0 _ _  (Nat.lt_succ_self _) hR hB _ hl
    · replace hR := ifp c2 hR
      refine lv_aload_n hx hb dX0_ofRest_15 rfl (lv_at hl 0 rfl) ?_
      refine lv_iload_n hx hb dX0_ofRest_16 rfl (lv_at hl 1 rfl) ?_
      refine lv_iload_n hx hb dX0_ofRest_17 rfl (lv_at hl 2 rfl) ?_
      refine lv_iload_n hx hb dX0_ofRest_18 rfl (lv_at hl 3 rfl) ?_
      refine lv_iconst (v := 1) hx hb dX0_ofRest_19 (by decide) ?_
      refine lv_iadd hx hb dX0_ofRest_20 ?_
      obtain ⟨x31, hd30⟩ := ex1 (D_X0_ofRest_1 r q f i p0 p1 (p2 + 1))
      replace hR := bnd1_use hd30 hR
      refine call_S (n := 4) (As := [.ref (a (6 + 2 * i)), .int p0, .int p1, .int (p2 + 1)]) (rest := []) hX hB (k_X0_ofRest_1 κ l a r q f i p0 p1 (p2 + 1) hi (lvup (lo := 2) (hi := 3) rfl hp2 (by assumption)) x31 hd30) yk_X0_ofRest wm_1_183 wm_1_184 wm_1_29 wm_1_185 ⟨Nat.le_of_ble_eq_true rfl, Nat.le_of_ble_eq_true rfl⟩ ⟨Nat.le_of_ble_eq_true rfl, Nat.le_of_ble_eq_true rfl⟩ rfl hl.1 rfl (Nat.le_of_ble_eq_true rfl) dX0_ofRest_21 (fun o w' H locs hp hB => ?_)
      obtain ⟨rfl, rfl⟩ := hp
      refine W.eq (g2 := F0 m 24 ls [.long x31]) rfl ?_
      rw [← hQ]
      exact end_l hX hB hA3 rfl (by obtain rfl := hR; exact ⟨rfl, rfl⟩) (Nat.le_of_ble_eq_true rfl) (Nat.le_of_ble_eq_true rfl) dX0_ofRest_24
  · replace hR := ifn c1 hR
    refine lv_lconst (v := 1) hx hb dX0_ofRest_5 (by decide) ?_
    rw [← hQ]
    exact end_l hX hB hA3 rfl (by obtain rfl := hR; exact ⟨rfl, rfl⟩) (Nat.le_of_ble_eq_true rfl) (Nat.le_of_ble_eq_true rfl) dX0_ofRest_6
noncomputable def D_X0_ofRest_3_j90 (lb34 : Int32 → Int32 → Int64 → Int64) (y7_34 : Int32) (y6_34 : Int32) (y4_34 : Int64) (z0_90 : Int64) : Int64 := (if y6_34 = 0 then (lb34 (y7_34 + 1) 1 (y4_34 + z0_90)) else (lb34 (y7_34 + 1) 0 (y4_34 + z0_90)))
theorem D_X0_ofRest_3_j90_s {lb34 : Int32 → Int32 → Int64 → Int64} {y7_34 : Int32} {y6_34 : Int32} {y4_34 : Int64} {z0_90 : Int64} : D_X0_ofRest_3_j90 lb34 y7_34 y6_34 y4_34 z0_90 = (if y6_34 = 0 then (lb34 (y7_34 + 1) 1 (y4_34 + z0_90)) else (lb34 (y7_34 + 1) 0 (y4_34 + z0_90))) := rfl
noncomputable def D_X0_ofRest_3_34 (r : Nat → Int32) (q : Nat → Int32) (f : Nat → Nat → Int64) (i : Nat) (p0 : Int32) (p1 : Int32) (p2 : Int32) (nn : Nat) : Int32 → Int32 → Int64 → Int64 := @Nat.rec (fun _ => Int32 → Int32 → Int64 → Int64) (fun _ _ _ => default) (fun _ lb34 (y7_34 : Int32) (y6_34 : Int32) (y4_34 : Int64) => (if 5 ≤ y7_34 then y4_34 else (if ((p1 >>> (y7_34 &&& 31)) &&& 1) = 0 then (lb34 (y7_34 + 1) y6_34 y4_34) else bnd1 (D_X3_get r q f i p2 y7_34) (fun (x24 : Int64) => bnd1 (D_X0_ofRest_2 r q f i p0 (p1 &&& ((1 <<< (y7_34 &&& 31)) ^^^ (-1))) (p2 + 1)) (fun (x26 : Int64) => (if y6_34 = 0 then (D_X0_ofRest_3_j90 lb34 y7_34 y6_34 y4_34 (x24 * x26)) else (D_X0_ofRest_3_j90 lb34 y7_34 y6_34 y4_34 (-(x24 * x26))))))))) nn
theorem D_X0_ofRest_3_34_s {r : Nat → Int32} {q : Nat → Int32} {f : Nat → Nat → Int64} {i : Nat} {p0 : Int32} {p1 : Int32} {p2 : Int32} {nn : Nat} {y7_34 : Int32} {y6_34 : Int32} {y4_34 : Int64} : D_X0_ofRest_3_34 r q f i p0 p1 p2 (nn + 1) y7_34 y6_34 y4_34 = (if 5 ≤ y7_34 then y4_34 else (if ((p1 >>> (y7_34 &&& 31)) &&& 1) = 0 then ((D_X0_ofRest_3_34 r q f i p0 p1 p2 nn) (y7_34 + 1) y6_34 y4_34) else bnd1 (D_X3_get r q f i p2 y7_34) (fun (x24 : Int64) => bnd1 (D_X0_ofRest_2 r q f i p0 (p1 &&& ((1 <<< (y7_34 &&& 31)) ^^^ (-1))) (p2 + 1)) (fun (x26 : Int64) => (if y6_34 = 0 then (D_X0_ofRest_3_j90 (D_X0_ofRest_3_34 r q f i p0 p1 p2 nn) y7_34 y6_34 y4_34 (x24 * x26)) else (D_X0_ofRest_3_j90 (D_X0_ofRest_3_34 r q f i p0 p1 p2 nn) y7_34 y6_34 y4_34 (-(x24 * x26)))))))) := rfl
noncomputable def D_X0_ofRest_3 (r : Nat → Int32) (q : Nat → Int32) (f : Nat → Nat → Int64) (i : Nat) (p0 : Int32) (p1 : Int32) (p2 : Int32) : Int64 := (if p2 < 4 then (if ((p0 >>> (p2 &&& 31)) &&& 1) = 0 then bnd1 (D_X0_ofRest_2 r q f i p0 p1 (p2 + 1)) (fun (x31 : Int64) => x31) else (D_X0_ofRest_3_34 r q f i p0 p1 p2 (gap 5 0 + 1) 0 0 0)) else 1)
theorem D_X0_ofRest_3_s {r : Nat → Int32} {q : Nat → Int32} {f : Nat → Nat → Int64} {i : Nat} {p0 : Int32} {p1 : Int32} {p2 : Int32} : D_X0_ofRest_3 r q f i p0 p1 p2 = (if p2 < 4 then (if ((p0 >>> (p2 &&& 31)) &&& 1) = 0 then bnd1 (D_X0_ofRest_2 r q f i p0 p1 (p2 + 1)) (fun (x31 : Int64) => x31) else (D_X0_ofRest_3_34 r q f i p0 p1 p2 (gap 5 0 + 1) 0 0 0)) else 1) := rfl
set_option maxHeartbeats 4000000 in
set_option maxRecDepth 100000 in
theorem k_X0_ofRest_3 (κ : Kt) (l : Launch) (a : Nat → Nat) (r q : Nat → Int32) (f : Nat → Nat → Int64) (i : Nat) (p0 : Int32) (p1 : Int32) (p2 : Int32) (hi : i < 15) (hp2 : 1 ≤ p2) (o_x : Int64) (hR : D_X0_ofRest_3 r q f i p0 p1 p2 = o_x) : CM κ l yX0_ofRest cX0_ofRest 10 (some .long) 3 87 0 0 [.ref (a (6 + 2 * i)), .int p0, .int p1, .int p2] (cw κ a r q f) (fun o w' => o = some (.long o_x) ∧ w' = cw κ a r q f) := by
  refine CM_begin (plainFor_of_name pn_RX0) (Nat.le_of_ble_eq_true rfl) ?_
  intro p e s m args below meth c A Q hX hnm hA3 hQ hB ls hl
  have hx := hX.1.1
  have hb := hX.1.2.1
  have hl : lv_has ls 10 [(0, .ref (a (6 + 2 * i))), (1, .int p0), (2, .int p1), (3, .int p2)] := hl
  replace hR := (D_X0_ofRest_3_s).symm.trans hR
  refine lv_iload_n hx hb dX0_ofRest_0 rfl (lv_at hl 3 rfl) ?_
  refine lv_iconst (v := 4) hx hb dX0_ofRest_1 (by decide) ?_
  refine lv_icmp_lt (tgt := 7) hx hb dX0_ofRest_2 (by decide) (fun c1 => ?_) (fun c1 => ?_)
  · replace hR := ifp c1 hR
    refine lv_iload_n hx hb dX0_ofRest_7 rfl (lv_at hl 1 rfl) ?_
    refine lv_iload_n hx hb dX0_ofRest_8 rfl (lv_at hl 3 rfl) ?_
    refine lv_ishr hx hb dX0_ofRest_9 ?_
    refine lv_iconst (v := 1) hx hb dX0_ofRest_10 (by decide) ?_
    refine lv_iand hx hb dX0_ofRest_11 ?_
    refine lv_if_ne (tgt := 25) hx hb dX0_ofRest_12 (by decide) (fun c2 => ?_) (fun c2 => ?_)
    · replace hR := ifn c2 hR
      refine lv_lconst (v := 0) hx hb dX0_ofRest_25 (by decide) ?_
      refine lv_lstore (lv' := [(4, .long 0), (0, .ref (a (6 + 2 * i))), (1, .int p0), (2, .int p1), (3, .int p2)]) hx hb dX0_ofRest_26 hl (by decide) rfl (fun ls hl => ?_)
      refine lv_iconst (v := 0) hx hb dX0_ofRest_28 (by decide) ?_
      refine lv_istore (lv' := [(6, .int 0), (4, .long 0), (0, .ref (a (6 + 2 * i))), (1, .int p0), (2, .int p1), (3, .int p2)]) hx hb dX0_ofRest_29 hl (by decide) rfl (fun ls hl => ?_)
      refine lv_iconst (v := 0) hx hb dX0_ofRest_31 (by decide) ?_
      refine lv_istore (lv' := [(7, .int 0), (6, .int 0), (4, .long 0), (0, .ref (a (6 + 2 * i))), (1, .int p0), (2, .int p1), (3, .int p2)]) hx hb dX0_ofRest_32 hl (by decide) rfl (fun ls hl => ?_)
      have lp34 : ∀ (nn34 : Nat) (y7_34 : Int32) (y6_34 : Int32) (y4_34 : Int64) (H : Heap) (locs : List Loc), gap 5 y7_34 < nn34 → D_X0_ofRest_3_34 r q f i p0 p1 p2 nn34 y7_34 y6_34 y4_34 = o_x → Bd κ A s (cw κ a r q f) H locs → ∀ ls : Array Slot, lv_has ls 10 [(7, .int y7_34), (6, .int y6_34), (4, .long y4_34), (0, .ref (a (6 + 2 * i))), (1, .int p0), (2, .int p1), (3, .int p2)] → W p l e (Rm 3 87 0 0) s m args below meth c H locs 0 0 Q (F0 m 34 ls []) := by
        intro nn34
        induction nn34 with
        | zero => intro y7_34 y6_34 y4_34 H locs hμ; exact absurd hμ (Nat.not_lt_zero _)
        | succ nn34 ih34 =>
          intro y7_34 y6_34 y4_34 H locs hμ34 hR hB ls hl
          replace hR := (D_X0_ofRest_3_34_s).symm.trans hR
          refine lv_iload hx hb dX0_ofRest_34 (lv_at hl 0 rfl) ?_
          refine lv_iconst (v := 5) hx hb dX0_ofRest_36 (by decide) ?_
          refine lv_icmp_ge (tgt := 111) hx hb dX0_ofRest_37 (by decide) (fun c21 => ?_) (fun c21 => ?_)
          · replace hR := ifp c21 hR
            refine lv_lload hx hb dX0_ofRest_111 (lv_at hl 2 rfl) ?_
            rw [← hQ]
            exact end_l hX hB hA3 rfl (by obtain rfl := hR; exact ⟨rfl, rfl⟩) (Nat.le_of_ble_eq_true rfl) (Nat.le_of_ble_eq_true rfl) dX0_ofRest_113
          · replace hR := ifn c21 hR
            refine lv_iload_n hx hb dX0_ofRest_40 rfl (lv_at hl 5 rfl) ?_
            refine lv_iload hx hb dX0_ofRest_41 (lv_at hl 0 rfl) ?_
            refine lv_ishr hx hb dX0_ofRest_43 ?_
            refine lv_iconst (v := 1) hx hb dX0_ofRest_44 (by decide) ?_
            refine lv_iand hx hb dX0_ofRest_45 ?_
            refine lv_if_eq (tgt := 105) hx hb dX0_ofRest_46 (by decide) (fun c22 => ?_) (fun c22 => ?_)
            · replace hR := ifp c22 hR
              refine lv_iinc (v := y7_34 + 1) (lv' := [(7, .int (y7_34 + 1)), (6, .int y6_34), (4, .long y4_34), (0, .ref (a (6 + 2 * i))), (1, .int p0), (2, .int p1), (3, .int p2)]) hx hb dX0_ofRest_105 hl (k := 0) rfl rfl (by decide) rfl (fun ls hl => ?_)
              refine lv_goto (tgt := 34) hx hb dX0_ofRest_108 (by decide) ?_
              exact ih34 (y7_34 + 1) y6_34 y4_34 _ _  (gap_step c21 hμ34) hR hB _ hl
            · replace hR := ifn c22 hR
              refine lv_aload_n hx hb dX0_ofRest_49 rfl (lv_at hl 3 rfl) ?_
              refine lv_iload_n hx hb dX0_ofRest_50 rfl (lv_at hl 6 rfl) ?_
              refine lv_iload hx hb dX0_ofRest_51 (lv_at hl 0 rfl) ?_
              obtain ⟨x24, hd23⟩ := ex1 (D_X3_get r q f i p2 y7_34)
              replace hR := bnd1_use hd23 hR
              refine call_V (n := 2) (As := [.int p2, .int y7_34]) (rest := []) hX hB (k_X3_get κ l a r q f i p2 y7_34 hi x24 hd23) ⟨rfl, yk_X3_get⟩ wm_1_186 wm_1_187 wm_1_188 wm_1_2 wm_1_189 ⟨Nat.le_of_ble_eq_true rfl, Nat.le_of_ble_eq_true rfl⟩ ⟨Nat.le_of_ble_eq_true rfl, Nat.le_of_ble_eq_true rfl⟩ (cwG (i := i) hi) rfl rfl rfl hl.1 rfl (Nat.le_of_ble_eq_true rfl) dX0_ofRest_53 (fun o w' H locs hp hB => ?_)
              obtain ⟨rfl, rfl⟩ := hp
              refine W.eq (g2 := F0 m 56 ls [.long x24]) rfl ?_
              refine lv_aload_n hx hb dX0_ofRest_56 rfl (lv_at hl 3 rfl) ?_
              refine lv_iload_n hx hb dX0_ofRest_57 rfl (lv_at hl 4 rfl) ?_
              refine lv_iload_n hx hb dX0_ofRest_58 rfl (lv_at hl 5 rfl) ?_
              refine lv_iconst (v := 1) hx hb dX0_ofRest_59 (by decide) ?_
              refine lv_iload hx hb dX0_ofRest_60 (lv_at hl 0 rfl) ?_
              refine lv_ishl hx hb dX0_ofRest_62 ?_
              refine lv_iconst (v := (-1)) hx hb dX0_ofRest_63 (by decide) ?_
              refine lv_ixor hx hb dX0_ofRest_64 ?_
              refine lv_iand hx hb dX0_ofRest_65 ?_
              refine lv_iload_n hx hb dX0_ofRest_66 rfl (lv_at hl 6 rfl) ?_
              refine lv_iconst (v := 1) hx hb dX0_ofRest_67 (by decide) ?_
              refine lv_iadd hx hb dX0_ofRest_68 ?_
              obtain ⟨x26, hd25⟩ := ex1 (D_X0_ofRest_2 r q f i p0 (p1 &&& ((1 <<< (y7_34 &&& 31)) ^^^ (-1))) (p2 + 1))
              replace hR := bnd1_use hd25 hR
              refine call_S (n := 4) (As := [.ref (a (6 + 2 * i)), .int p0, .int (p1 &&& ((1 <<< (y7_34 &&& 31)) ^^^ (-1))), .int (p2 + 1)]) (rest := [.long x24]) hX hB (k_X0_ofRest_2 κ l a r q f i p0 (p1 &&& ((1 <<< (y7_34 &&& 31)) ^^^ (-1))) (p2 + 1) hi (lvup (lo := 1) (hi := 2) rfl hp2 (by assumption)) x26 hd25) yk_X0_ofRest wm_1_183 wm_1_184 wm_1_29 wm_1_185 ⟨Nat.le_of_ble_eq_true rfl, Nat.le_of_ble_eq_true rfl⟩ ⟨Nat.le_of_ble_eq_true rfl, Nat.le_of_ble_eq_true rfl⟩ rfl hl.1 rfl (Nat.le_of_ble_eq_true rfl) dX0_ofRest_69 (fun o w' H locs hp hB => ?_)
              obtain ⟨rfl, rfl⟩ := hp
              refine W.eq (g2 := F0 m 72 ls [.long x26, .long x24]) rfl ?_
              refine lv_lmul hx hb dX0_ofRest_72 ?_
              refine lv_lstore (lv' := [(8, .long (x24 * x26)), (7, .int y7_34), (6, .int y6_34), (4, .long y4_34), (0, .ref (a (6 + 2 * i))), (1, .int p0), (2, .int p1), (3, .int p2)]) hx hb dX0_ofRest_73 hl (by decide) rfl (fun ls hl => ?_)
              refine lv_lload hx hb dX0_ofRest_75 (lv_at hl 3 rfl) ?_
              refine lv_iload hx hb dX0_ofRest_77 (lv_at hl 2 rfl) ?_
              have jn90 : ∀ (z0_90 : Int64) (H : Heap) (locs : List Loc), D_X0_ofRest_3_j90 (D_X0_ofRest_3_34 r q f i p0 p1 p2 nn34) y7_34 y6_34 y4_34 z0_90 = o_x → Bd κ A s (cw κ a r q f) H locs → ∀ ls : Array Slot, lv_has ls 10 [(8, .long (x24 * x26)), (7, .int y7_34), (6, .int y6_34), (4, .long y4_34), (0, .ref (a (6 + 2 * i))), (1, .int p0), (2, .int p1), (3, .int p2)] → W p l e (Rm 3 87 0 0) s m args below meth c H locs 0 0 Q (F0 m 90 ls [.long z0_90, .long y4_34]) := by
                intro z0_90 H locs hR hB ls hl
                replace hR := (D_X0_ofRest_3_j90_s).symm.trans hR
                refine lv_ladd hx hb dX0_ofRest_90 ?_
                refine lv_lstore (lv' := [(4, .long (y4_34 + z0_90)), (8, .long (x24 * x26)), (7, .int y7_34), (6, .int y6_34), (0, .ref (a (6 + 2 * i))), (1, .int p0), (2, .int p1), (3, .int p2)]) hx hb dX0_ofRest_91 hl (by decide) rfl (fun ls hl => ?_)
                refine lv_iload hx hb dX0_ofRest_93 (lv_at hl 3 rfl) ?_
                refine lv_if_ne (tgt := 102) hx hb dX0_ofRest_95 (by decide) (fun c28 => ?_) (fun c28 => ?_)
                · replace hR := ifn c28 hR
                  refine lv_iconst (v := 0) hx hb dX0_ofRest_102 (by decide) ?_
                  refine lv_istore (lv' := [(6, .int 0), (4, .long (y4_34 + z0_90)), (8, .long (x24 * x26)), (7, .int y7_34), (0, .ref (a (6 + 2 * i))), (1, .int p0), (2, .int p1), (3, .int p2)]) hx hb dX0_ofRest_103 hl (by decide) rfl (fun ls hl => ?_)
                  refine lv_iinc (v := y7_34 + 1) (lv' := [(7, .int (y7_34 + 1)), (6, .int 0), (4, .long (y4_34 + z0_90)), (8, .long (x24 * x26)), (0, .ref (a (6 + 2 * i))), (1, .int p0), (2, .int p1), (3, .int p2)]) hx hb dX0_ofRest_105 hl (k := 3) rfl rfl (by decide) rfl (fun ls hl => ?_)
                  refine lv_goto (tgt := 34) hx hb dX0_ofRest_108 (by decide) ?_
                  exact ih34 (y7_34 + 1) 0 (y4_34 + z0_90) _ _  (gap_step c21 hμ34) hR hB _ (lv_sub hl [0, 1, 2, 4, 5, 6, 7] rfl)
                · replace hR := ifp c28 hR
                  refine lv_iconst (v := 1) hx hb dX0_ofRest_98 (by decide) ?_
                  refine lv_goto (tgt := 103) hx hb dX0_ofRest_99 (by decide) ?_
                  refine lv_istore (lv' := [(6, .int 1), (4, .long (y4_34 + z0_90)), (8, .long (x24 * x26)), (7, .int y7_34), (0, .ref (a (6 + 2 * i))), (1, .int p0), (2, .int p1), (3, .int p2)]) hx hb dX0_ofRest_103 hl (by decide) rfl (fun ls hl => ?_)
                  refine lv_iinc (v := y7_34 + 1) (lv' := [(7, .int (y7_34 + 1)), (6, .int 1), (4, .long (y4_34 + z0_90)), (8, .long (x24 * x26)), (0, .ref (a (6 + 2 * i))), (1, .int p0), (2, .int p1), (3, .int p2)]) hx hb dX0_ofRest_105 hl (k := 3) rfl rfl (by decide) rfl (fun ls hl => ?_)
                  refine lv_goto (tgt := 34) hx hb dX0_ofRest_108 (by decide) ?_
                  exact ih34 (y7_34 + 1) 1 (y4_34 + z0_90) _ _  (gap_step c21 hμ34) hR hB _ (lv_sub hl [0, 1, 2, 4, 5, 6, 7] rfl)
              refine lv_if_eq (tgt := 88) hx hb dX0_ofRest_79 (by decide) (fun c29 => ?_) (fun c29 => ?_)
              · replace hR := ifp c29 hR
                refine lv_lload hx hb dX0_ofRest_88 (lv_at hl 0 rfl) ?_
                exact jn90 (x24 * x26) _ _  hR hB _ hl
              · replace hR := ifn c29 hR
                refine lv_lload hx hb dX0_ofRest_82 (lv_at hl 0 rfl) ?_
                refine lv_lneg hx hb dX0_ofRest_84 ?_
                refine lv_goto (tgt := 90) hx hb dX0_ofRest_85 (by decide) ?_
                exact jn90 (-(x24 * x26)) _ _  hR hB _ hl
      exact lp34 _ 0 0 0 _ _  (Nat.lt_succ_self _) hR hB _ hl
    · replace hR := ifp c2 hR
      refine lv_aload_n hx hb dX0_ofRest_15 rfl (lv_at hl 0 rfl) ?_
      refine lv_iload_n hx hb dX0_ofRest_16 rfl (lv_at hl 1 rfl) ?_
      refine lv_iload_n hx hb dX0_ofRest_17 rfl (lv_at hl 2 rfl) ?_
      refine lv_iload_n hx hb dX0_ofRest_18 rfl (lv_at hl 3 rfl) ?_
      refine lv_iconst (v := 1) hx hb dX0_ofRest_19 (by decide) ?_
      refine lv_iadd hx hb dX0_ofRest_20 ?_
      obtain ⟨x31, hd30⟩ := ex1 (D_X0_ofRest_2 r q f i p0 p1 (p2 + 1))
      replace hR := bnd1_use hd30 hR
      refine call_S (n := 4) (As := [.ref (a (6 + 2 * i)), .int p0, .int p1, .int (p2 + 1)]) (rest := []) hX hB (k_X0_ofRest_2 κ l a r q f i p0 p1 (p2 + 1) hi (lvup (lo := 1) (hi := 2) rfl hp2 (by assumption)) x31 hd30) yk_X0_ofRest wm_1_183 wm_1_184 wm_1_29 wm_1_185 ⟨Nat.le_of_ble_eq_true rfl, Nat.le_of_ble_eq_true rfl⟩ ⟨Nat.le_of_ble_eq_true rfl, Nat.le_of_ble_eq_true rfl⟩ rfl hl.1 rfl (Nat.le_of_ble_eq_true rfl) dX0_ofRest_21 (fun o w' H locs hp hB => ?_)
      obtain ⟨rfl, rfl⟩ := hp
      refine W.eq (g2 := F0 m 24 ls [.long x31]) rfl ?_
      rw [← hQ]
      exact end_l hX hB hA3 rfl (by obtain rfl := hR; exact ⟨rfl, rfl⟩) (Nat.le_of_ble_eq_true rfl) (Nat.le_of_ble_eq_true rfl) dX0_ofRest_24
  · replace hR := ifn c1 hR
    refine lv_lconst (v := 1) hx hb dX0_ofRest_5 (by decide) ?_
    rw [← hQ]
    exact end_l hX hB hA3 rfl (by obtain rfl := hR; exact ⟨rfl, rfl⟩) (Nat.le_of_ble_eq_true rfl) (Nat.le_of_ble_eq_true rfl) dX0_ofRest_6
noncomputable def D_X0_ofRest_4_j90 (lb34 : Int32 → Int32 → Int64 → Int64) (y7_34 : Int32) (y6_34 : Int32) (y4_34 : Int64) (z0_90 : Int64) : Int64 := (if y6_34 = 0 then (lb34 (y7_34 + 1) 1 (y4_34 + z0_90)) else (lb34 (y7_34 + 1) 0 (y4_34 + z0_90)))
theorem D_X0_ofRest_4_j90_s {lb34 : Int32 → Int32 → Int64 → Int64} {y7_34 : Int32} {y6_34 : Int32} {y4_34 : Int64} {z0_90 : Int64} : D_X0_ofRest_4_j90 lb34 y7_34 y6_34 y4_34 z0_90 = (if y6_34 = 0 then (lb34 (y7_34 + 1) 1 (y4_34 + z0_90)) else (lb34 (y7_34 + 1) 0 (y4_34 + z0_90))) := rfl
noncomputable def D_X0_ofRest_4_34 (r : Nat → Int32) (q : Nat → Int32) (f : Nat → Nat → Int64) (i : Nat) (p0 : Int32) (p1 : Int32) (p2 : Int32) (nn : Nat) : Int32 → Int32 → Int64 → Int64 := @Nat.rec (fun _ => Int32 → Int32 → Int64 → Int64) (fun _ _ _ => default) (fun _ lb34 (y7_34 : Int32) (y6_34 : Int32) (y4_34 : Int64) => (if 5 ≤ y7_34 then y4_34 else (if ((p1 >>> (y7_34 &&& 31)) &&& 1) = 0 then (lb34 (y7_34 + 1) y6_34 y4_34) else bnd1 (D_X3_get r q f i p2 y7_34) (fun (x24 : Int64) => bnd1 (D_X0_ofRest_3 r q f i p0 (p1 &&& ((1 <<< (y7_34 &&& 31)) ^^^ (-1))) (p2 + 1)) (fun (x26 : Int64) => (if y6_34 = 0 then (D_X0_ofRest_4_j90 lb34 y7_34 y6_34 y4_34 (x24 * x26)) else (D_X0_ofRest_4_j90 lb34 y7_34 y6_34 y4_34 (-(x24 * x26))))))))) nn
theorem D_X0_ofRest_4_34_s {r : Nat → Int32} {q : Nat → Int32} {f : Nat → Nat → Int64} {i : Nat} {p0 : Int32} {p1 : Int32} {p2 : Int32} {nn : Nat} {y7_34 : Int32} {y6_34 : Int32} {y4_34 : Int64} : D_X0_ofRest_4_34 r q f i p0 p1 p2 (nn + 1) y7_34 y6_34 y4_34 = (if 5 ≤ y7_34 then y4_34 else (if ((p1 >>> (y7_34 &&& 31)) &&& 1) = 0 then ((D_X0_ofRest_4_34 r q f i p0 p1 p2 nn) (y7_34 + 1) y6_34 y4_34) else bnd1 (D_X3_get r q f i p2 y7_34) (fun (x24 : Int64) => bnd1 (D_X0_ofRest_3 r q f i p0 (p1 &&& ((1 <<< (y7_34 &&& 31)) ^^^ (-1))) (p2 + 1)) (fun (x26 : Int64) => (if y6_34 = 0 then (D_X0_ofRest_4_j90 (D_X0_ofRest_4_34 r q f i p0 p1 p2 nn) y7_34 y6_34 y4_34 (x24 * x26)) else (D_X0_ofRest_4_j90 (D_X0_ofRest_4_34 r q f i p0 p1 p2 nn) y7_34 y6_34 y4_34 (-(x24 * x26)))))))) := rfl
noncomputable def D_X0_ofRest_4 (r : Nat → Int32) (q : Nat → Int32) (f : Nat → Nat → Int64) (i : Nat) (p0 : Int32) (p1 : Int32) (p2 : Int32) : Int64 := (if p2 < 4 then (if ((p0 >>> (p2 &&& 31)) &&& 1) = 0 then bnd1 (D_X0_ofRest_3 r q f i p0 p1 (p2 + 1)) (fun (x31 : Int64) => x31) else (D_X0_ofRest_4_34 r q f i p0 p1 p2 (gap 5 0 + 1) 0 0 0)) else 1)
theorem D_X0_ofRest_4_s {r : Nat → Int32} {q : Nat → Int32} {f : Nat → Nat → Int64} {i : Nat} {p0 : Int32} {p1 : Int32} {p2 : Int32} : D_X0_ofRest_4 r q f i p0 p1 p2 = (if p2 < 4 then (if ((p0 >>> (p2 &&& 31)) &&& 1) = 0 then bnd1 (D_X0_ofRest_3 r q f i p0 p1 (p2 + 1)) (fun (x31 : Int64) => x31) else (D_X0_ofRest_4_34 r q f i p0 p1 p2 (gap 5 0 + 1) 0 0 0)) else 1) := rfl
set_option maxHeartbeats 4000000 in
set_option maxRecDepth 100000 in
theorem k_X0_ofRest_4 (κ : Kt) (l : Launch) (a : Nat → Nat) (r q : Nat → Int32) (f : Nat → Nat → Int64) (i : Nat) (p0 : Int32) (p1 : Int32) (p2 : Int32) (hi : i < 15) (hp2 : 0 ≤ p2) (o_x : Int64) (hR : D_X0_ofRest_4 r q f i p0 p1 p2 = o_x) : CM κ l yX0_ofRest cX0_ofRest 10 (some .long) 4 116 0 0 [.ref (a (6 + 2 * i)), .int p0, .int p1, .int p2] (cw κ a r q f) (fun o w' => o = some (.long o_x) ∧ w' = cw κ a r q f) := by
  refine CM_begin (plainFor_of_name pn_RX0) (Nat.le_of_ble_eq_true rfl) ?_
  intro p e s m args below meth c A Q hX hnm hA3 hQ hB ls hl
  have hx := hX.1.1
  have hb := hX.1.2.1
  have hl : lv_has ls 10 [(0, .ref (a (6 + 2 * i))), (1, .int p0), (2, .int p1), (3, .int p2)] := hl
  replace hR := (D_X0_ofRest_4_s).symm.trans hR
  refine lv_iload_n hx hb dX0_ofRest_0 rfl (lv_at hl 3 rfl) ?_
  refine lv_iconst (v := 4) hx hb dX0_ofRest_1 (by decide) ?_
  refine lv_icmp_lt (tgt := 7) hx hb dX0_ofRest_2 (by decide) (fun c1 => ?_) (fun c1 => ?_)
  · replace hR := ifp c1 hR
    refine lv_iload_n hx hb dX0_ofRest_7 rfl (lv_at hl 1 rfl) ?_
    refine lv_iload_n hx hb dX0_ofRest_8 rfl (lv_at hl 3 rfl) ?_
    refine lv_ishr hx hb dX0_ofRest_9 ?_
    refine lv_iconst (v := 1) hx hb dX0_ofRest_10 (by decide) ?_
    refine lv_iand hx hb dX0_ofRest_11 ?_
    refine lv_if_ne (tgt := 25) hx hb dX0_ofRest_12 (by decide) (fun c2 => ?_) (fun c2 => ?_)
    · replace hR := ifn c2 hR
      refine lv_lconst (v := 0) hx hb dX0_ofRest_25 (by decide) ?_
      refine lv_lstore (lv' := [(4, .long 0), (0, .ref (a (6 + 2 * i))), (1, .int p0), (2, .int p1), (3, .int p2)]) hx hb dX0_ofRest_26 hl (by decide) rfl (fun ls hl => ?_)
      refine lv_iconst (v := 0) hx hb dX0_ofRest_28 (by decide) ?_
      refine lv_istore (lv' := [(6, .int 0), (4, .long 0), (0, .ref (a (6 + 2 * i))), (1, .int p0), (2, .int p1), (3, .int p2)]) hx hb dX0_ofRest_29 hl (by decide) rfl (fun ls hl => ?_)
      refine lv_iconst (v := 0) hx hb dX0_ofRest_31 (by decide) ?_
      refine lv_istore (lv' := [(7, .int 0), (6, .int 0), (4, .long 0), (0, .ref (a (6 + 2 * i))), (1, .int p0), (2, .int p1), (3, .int p2)]) hx hb dX0_ofRest_32 hl (by decide) rfl (fun ls hl => ?_)
      have lp34 : ∀ (nn34 : Nat) (y7_34 : Int32) (y6_34 : Int32) (y4_34 : Int64) (H : Heap) (locs : List Loc), gap 5 y7_34 < nn34 → D_X0_ofRest_4_34 r q f i p0 p1 p2 nn34 y7_34 y6_34 y4_34 = o_x → Bd κ A s (cw κ a r q f) H locs → ∀ ls : Array Slot, lv_has ls 10 [(7, .int y7_34), (6, .int y6_34), (4, .long y4_34), (0, .ref (a (6 + 2 * i))), (1, .int p0), (2, .int p1), (3, .int p2)] → W p l e (Rm 4 116 0 0) s m args below meth c H locs 0 0 Q (F0 m 34 ls []) := by
        intro nn34
        induction nn34 with
        | zero => intro y7_34 y6_34 y4_34 H locs hμ; exact absurd hμ (Nat.not_lt_zero _)
        | succ nn34 ih34 =>
          intro y7_34 y6_34 y4_34 H locs hμ34 hR hB ls hl
          replace hR := (D_X0_ofRest_4_34_s).symm.trans hR
          refine lv_iload hx hb dX0_ofRest_34 (lv_at hl 0 rfl) ?_
          refine lv_iconst (v := 5) hx hb dX0_ofRest_36 (by decide) ?_
          refine lv_icmp_ge (tgt := 111) hx hb dX0_ofRest_37 (by decide) (fun c21 => ?_) (fun c21 => ?_)
          · replace hR := ifp c21 hR
            refine lv_lload hx hb dX0_ofRest_111 (lv_at hl 2 rfl) ?_
            rw [← hQ]
            exact end_l hX hB hA3 rfl (by obtain rfl := hR; exact ⟨rfl, rfl⟩) (Nat.le_of_ble_eq_true rfl) (Nat.le_of_ble_eq_true rfl) dX0_ofRest_113
          · replace hR := ifn c21 hR
            refine lv_iload_n hx hb dX0_ofRest_40 rfl (lv_at hl 5 rfl) ?_
            refine lv_iload hx hb dX0_ofRest_41 (lv_at hl 0 rfl) ?_
            refine lv_ishr hx hb dX0_ofRest_43 ?_
            refine lv_iconst (v := 1) hx hb dX0_ofRest_44 (by decide) ?_
            refine lv_iand hx hb dX0_ofRest_45 ?_
            refine lv_if_eq (tgt := 105) hx hb dX0_ofRest_46 (by decide) (fun c22 => ?_) (fun c22 => ?_)
            · replace hR := ifp c22 hR
              refine lv_iinc (v := y7_34 + 1) (lv' := [(7, .int (y7_34 + 1)), (6, .int y6_34), (4, .long y4_34), (0, .ref (a (6 + 2 * i))), (1, .int p0), (2, .int p1), (3, .int p2)]) hx hb dX0_ofRest_105 hl (k := 0) rfl rfl (by decide) rfl (fun ls hl => ?_)
              refine lv_goto (tgt := 34) hx hb dX0_ofRest_108 (by decide) ?_
              exact ih34 (y7_34 + 1) y6_34 y4_34 _ _  (gap_step c21 hμ34) hR hB _ hl
            · replace hR := ifn c22 hR
              refine lv_aload_n hx hb dX0_ofRest_49 rfl (lv_at hl 3 rfl) ?_
              refine lv_iload_n hx hb dX0_ofRest_50 rfl (lv_at hl 6 rfl) ?_
              refine lv_iload hx hb dX0_ofRest_51 (lv_at hl 0 rfl) ?_
              obtain ⟨x24, hd23⟩ := ex1 (D_X3_get r q f i p2 y7_34)
              replace hR := bnd1_use hd23 hR
              refine call_V (n := 2) (As := [.int p2, .int y7_34]) (rest := []) hX hB (k_X3_get κ l a r q f i p2 y7_34 hi x24 hd23) ⟨rfl, yk_X3_get⟩ wm_1_186 wm_1_187 wm_1_188 wm_1_2 wm_1_189 ⟨Nat.le_of_ble_eq_true rfl, Nat.le_of_ble_eq_true rfl⟩ ⟨Nat.le_of_ble_eq_true rfl, Nat.le_of_ble_eq_true rfl⟩ (cwG (i := i) hi) rfl rfl rfl hl.1 rfl (Nat.le_of_ble_eq_true rfl) dX0_ofRest_53 (fun o w' H locs hp hB => ?_)
              obtain ⟨rfl, rfl⟩ := hp
              refine W.eq (g2 := F0 m 56 ls [.long x24]) rfl ?_
              refine lv_aload_n hx hb dX0_ofRest_56 rfl (lv_at hl 3 rfl) ?_
              refine lv_iload_n hx hb dX0_ofRest_57 rfl (lv_at hl 4 rfl) ?_
              refine lv_iload_n hx hb dX0_ofRest_58 rfl (lv_at hl 5 rfl) ?_
              refine lv_iconst (v := 1) hx hb dX0_ofRest_59 (by decide) ?_
              refine lv_iload hx hb dX0_ofRest_60 (lv_at hl 0 rfl) ?_
              refine lv_ishl hx hb dX0_ofRest_62 ?_
              refine lv_iconst (v := (-1)) hx hb dX0_ofRest_63 (by decide) ?_
              refine lv_ixor hx hb dX0_ofRest_64 ?_
              refine lv_iand hx hb dX0_ofRest_65 ?_
              refine lv_iload_n hx hb dX0_ofRest_66 rfl (lv_at hl 6 rfl) ?_
              refine lv_iconst (v := 1) hx hb dX0_ofRest_67 (by decide) ?_
              refine lv_iadd hx hb dX0_ofRest_68 ?_
              obtain ⟨x26, hd25⟩ := ex1 (D_X0_ofRest_3 r q f i p0 (p1 &&& ((1 <<< (y7_34 &&& 31)) ^^^ (-1))) (p2 + 1))
              replace hR := bnd1_use hd25 hR
              refine call_S (n := 4) (As := [.ref (a (6 + 2 * i)), .int p0, .int (p1 &&& ((1 <<< (y7_34 &&& 31)) ^^^ (-1))), .int (p2 + 1)]) (rest := [.long x24]) hX hB (k_X0_ofRest_3 κ l a r q f i p0 (p1 &&& ((1 <<< (y7_34 &&& 31)) ^^^ (-1))) (p2 + 1) hi (lvup (lo := 0) (hi := 1) rfl hp2 (by assumption)) x26 hd25) yk_X0_ofRest wm_1_183 wm_1_184 wm_1_29 wm_1_185 ⟨Nat.le_of_ble_eq_true rfl, Nat.le_of_ble_eq_true rfl⟩ ⟨Nat.le_of_ble_eq_true rfl, Nat.le_of_ble_eq_true rfl⟩ rfl hl.1 rfl (Nat.le_of_ble_eq_true rfl) dX0_ofRest_69 (fun o w' H locs hp hB => ?_)
              obtain ⟨rfl, rfl⟩ := hp
              refine W.eq (g2 := F0 m 72 ls [.long x26, .long x24]) rfl ?_
              refine lv_lmul hx hb dX0_ofRest_72 ?_
              refine lv_lstore (lv' := [(8, .long (x24 * x26)), (7, .int y7_34), (6, .int y6_34), (4, .long y4_34), (0, .ref (a (6 + 2 * i))), (1, .int p0), (2, .int p1), (3, .int p2)]) hx hb dX0_ofRest_73 hl (by decide) rfl (fun ls hl => ?_)
              refine lv_lload hx hb dX0_ofRest_75 (lv_at hl 3 rfl) ?_
              refine lv_iload hx hb dX0_ofRest_77 (lv_at hl 2 rfl) ?_
              have jn90 : ∀ (z0_90 : Int64) (H : Heap) (locs : List Loc), D_X0_ofRest_4_j90 (D_X0_ofRest_4_34 r q f i p0 p1 p2 nn34) y7_34 y6_34 y4_34 z0_90 = o_x → Bd κ A s (cw κ a r q f) H locs → ∀ ls : Array Slot, lv_has ls 10 [(8, .long (x24 * x26)), (7, .int y7_34), (6, .int y6_34), (4, .long y4_34), (0, .ref (a (6 + 2 * i))), (1, .int p0), (2, .int p1), (3, .int p2)] → W p l e (Rm 4 116 0 0) s m args below meth c H locs 0 0 Q (F0 m 90 ls [.long z0_90, .long y4_34]) := by
                intro z0_90 H locs hR hB ls hl
                replace hR := (D_X0_ofRest_4_j90_s).symm.trans hR
                refine lv_ladd hx hb dX0_ofRest_90 ?_
                refine lv_lstore (lv' := [(4, .long (y4_34 + z0_90)), (8, .long (x24 * x26)), (7, .int y7_34), (6, .int y6_34), (0, .ref (a (6 + 2 * i))), (1, .int p0), (2, .int p1), (3, .int p2)]) hx hb dX0_ofRest_91 hl (by decide) rfl (fun ls hl => ?_)
                refine lv_iload hx hb dX0_ofRest_93 (lv_at hl 3 rfl) ?_
                refine lv_if_ne (tgt := 102) hx hb dX0_ofRest_95 (by decide) (fun c28 => ?_) (fun c28 => ?_)
                · replace hR := ifn c28 hR
                  refine lv_iconst (v := 0) hx hb dX0_ofRest_102 (by decide) ?_
                  refine lv_istore (lv' := [(6, .int 0), (4, .long (y4_34 + z0_90)), (8, .long (x24 * x26)), (7, .int y7_34), (0, .ref (a (6 + 2 * i))), (1, .int p0), (2, .int p1), (3, .int p2)]) hx hb dX0_ofRest_103 hl (by decide) rfl (fun ls hl => ?_)
                  refine lv_iinc (v := y7_34 + 1) (lv' := [(7, .int (y7_34 + 1)), (6, .int 0), (4, .long (y4_34 + z0_90)), (8, .long (x24 * x26)), (0, .ref (a (6 + 2 * i))), (1, .int p0), (2, .int p1), (3, .int p2)]) hx hb dX0_ofRest_105 hl (k := 3) rfl rfl (by decide) rfl (fun ls hl => ?_)
                  refine lv_goto (tgt := 34) hx hb dX0_ofRest_108 (by decide) ?_
                  exact ih34 (y7_34 + 1) 0 (y4_34 + z0_90) _ _  (gap_step c21 hμ34) hR hB _ (lv_sub hl [0, 1, 2, 4, 5, 6, 7] rfl)
                · replace hR := ifp c28 hR
                  refine lv_iconst (v := 1) hx hb dX0_ofRest_98 (by decide) ?_
                  refine lv_goto (tgt := 103) hx hb dX0_ofRest_99 (by decide) ?_
                  refine lv_istore (lv' := [(6, .int 1), (4, .long (y4_34 + z0_90)), (8, .long (x24 * x26)), (7, .int y7_34), (0, .ref (a (6 + 2 * i))), (1, .int p0), (2, .int p1), (3, .int p2)]) hx hb dX0_ofRest_103 hl (by decide) rfl (fun ls hl => ?_)
                  refine lv_iinc (v := y7_34 + 1) (lv' := [(7, .int (y7_34 + 1)), (6, .int 1), (4, .long (y4_34 + z0_90)), (8, .long (x24 * x26)), (0, .ref (a (6 + 2 * i))), (1, .int p0), (2, .int p1), (3, .int p2)]) hx hb dX0_ofRest_105 hl (k := 3) rfl rfl (by decide) rfl (fun ls hl => ?_)
                  refine lv_goto (tgt := 34) hx hb dX0_ofRest_108 (by decide) ?_
                  exact ih34 (y7_34 + 1) 1 (y4_34 + z0_90) _ _  (gap_step c21 hμ34) hR hB _ (lv_sub hl [0, 1, 2, 4, 5, 6, 7] rfl)
              refine lv_if_eq (tgt := 88) hx hb dX0_ofRest_79 (by decide) (fun c29 => ?_) (fun c29 => ?_)
              · replace hR := ifp c29 hR
                refine lv_lload hx hb dX0_ofRest_88 (lv_at hl 0 rfl) ?_
                exact jn90 (x24 * x26) _ _  hR hB _ hl
              · replace hR := ifn c29 hR
                refine lv_lload hx hb dX0_ofRest_82 (lv_at hl 0 rfl) ?_
                refine lv_lneg hx hb dX0_ofRest_84 ?_
                refine lv_goto (tgt := 90) hx hb dX0_ofRest_85 (by decide) ?_
                exact jn90 (-(x24 * x26)) _ _  hR hB _ hl
      exact lp34 _ 0 0 0 _ _  (Nat.lt_succ_self _) hR hB _ hl
    · replace hR := ifp c2 hR
      refine lv_aload_n hx hb dX0_ofRest_15 rfl (lv_at hl 0 rfl) ?_
      refine lv_iload_n hx hb dX0_ofRest_16 rfl (lv_at hl 1 rfl) ?_
      refine lv_iload_n hx hb dX0_ofRest_17 rfl (lv_at hl 2 rfl) ?_
      refine lv_iload_n hx hb dX0_ofRest_18 rfl (lv_at hl 3 rfl) ?_
      refine lv_iconst (v := 1) hx hb dX0_ofRest_19 (by decide) ?_
      refine lv_iadd hx hb dX0_ofRest_20 ?_
      obtain ⟨x31, hd30⟩ := ex1 (D_X0_ofRest_3 r q f i p0 p1 (p2 + 1))
      replace hR := bnd1_use hd30 hR
      refine call_S (n := 4) (As := [.ref (a (6 + 2 * i)), .int p0, .int p1, .int (p2 + 1)]) (rest := []) hX hB (k_X0_ofRest_3 κ l a r q f i p0 p1 (p2 + 1) hi (lvup (lo := 0) (hi := 1) rfl hp2 (by assumption)) x31 hd30) yk_X0_ofRest wm_1_183 wm_1_184 wm_1_29 wm_1_185 ⟨Nat.le_of_ble_eq_true rfl, Nat.le_of_ble_eq_true rfl⟩ ⟨Nat.le_of_ble_eq_true rfl, Nat.le_of_ble_eq_true rfl⟩ rfl hl.1 rfl (Nat.le_of_ble_eq_true rfl) dX0_ofRest_21 (fun o w' H locs hp hB => ?_)
      obtain ⟨rfl, rfl⟩ := hp
      refine W.eq (g2 := F0 m 24 ls [.long x31]) rfl ?_
      rw [← hQ]
      exact end_l hX hB hA3 rfl (by obtain rfl := hR; exact ⟨rfl, rfl⟩) (Nat.le_of_ble_eq_true rfl) (Nat.le_of_ble_eq_true rfl) dX0_ofRest_24
  · replace hR := ifn c1 hR
    refine lv_lconst (v := 1) hx hb dX0_ofRest_5 (by decide) ?_
    rw [← hQ]
    exact end_l hX hB hA3 rfl (by obtain rfl := hR; exact ⟨rfl, rfl⟩) (Nat.le_of_ble_eq_true rfl) (Nat.le_of_ble_eq_true rfl) dX0_ofRest_6
noncomputable def D_X0_bySequences_0 (r : Nat → Int32) (q : Nat → Int32) (f : Nat → Nat → Int64) (i : Nat) (p0 : Int32) (p1 : Int32) : Int64 := (if (r (2 * i)) ≤ p0 then 1 else (if p0 < 4 then default else 1))
theorem D_X0_bySequences_0_s {r : Nat → Int32} {q : Nat → Int32} {f : Nat → Nat → Int64} {i : Nat} {p0 : Int32} {p1 : Int32} : D_X0_bySequences_0 r q f i p0 p1 = (if (r (2 * i)) ≤ p0 then 1 else (if p0 < 4 then default else 1)) := rfl
set_option maxHeartbeats 4000000 in
set_option maxRecDepth 100000 in
theorem k_X0_bySequences_0 (κ : Kt) (l : Launch) (a : Nat → Nat) (r q : Nat → Int32) (f : Nat → Nat → Int64) (i : Nat) (p0 : Int32) (p1 : Int32) (hi : i < 15) (hp0 : 4 ≤ p0) (o_x : Int64) (hR : D_X0_bySequences_0 r q f i p0 p1 = o_x) : CM κ l yX0_bySequences cX0_bySequences 9 (some .long) 0 0 0 0 [.ref (a (6 + 2 * i)), .int p0, .int p1] (cw κ a r q f) (fun o w' => o = some (.long o_x) ∧ w' = cw κ a r q f) := by
  refine CM_begin (plainFor_of_name pn_RX0) (Nat.le_of_ble_eq_true rfl) ?_
  intro p e s m args below meth c A Q hX hnm hA3 hQ hB ls hl
  have hx := hX.1.1
  have hb := hX.1.2.1
  have hl : lv_has ls 9 [(0, .ref (a (6 + 2 * i))), (1, .int p0), (2, .int p1)] := hl
  replace hR := (D_X0_bySequences_0_s).symm.trans hR
  refine lv_iload_n hx hb dX0_bySequences_0 rfl (lv_at hl 1 rfl) ?_
  refine lv_aload_n hx hb dX0_bySequences_1 rfl (lv_at hl 0 rfl) ?_
  refine gfN hX hB (cwG (i := i) hi) rfl in3 1 (by decide) wn_1_47 rfl rfl dX0_bySequences_2 ?_
  refine lv_icmp_ge (tgt := 13) hx hb dX0_bySequences_5 (by decide) (fun c1 => ?_) (fun c1 => ?_)
  · replace hR := ifp c1 hR
    refine lv_lconst (v := 1) hx hb dX0_bySequences_13 (by decide) ?_
    rw [← hQ]
    exact end_l hX hB hA3 rfl (by obtain rfl := hR; exact ⟨rfl, rfl⟩) (Nat.le_of_ble_eq_true rfl) (Nat.le_of_ble_eq_true rfl) dX0_bySequences_14
  · replace hR := ifn c1 hR
    refine lv_iload_n hx hb dX0_bySequences_8 rfl (lv_at hl 1 rfl) ?_
    refine lv_iconst (v := 4) hx hb dX0_bySequences_9 (by decide) ?_
    refine lv_icmp_lt (tgt := 15) hx hb dX0_bySequences_10 (by decide) (fun c2 => ?_) (fun c2 => ?_)
    · replace hR := ifp c2 hR
      exact absurd hp0 (i32_not_le.mpr (by assumption))
    · replace hR := ifn c2 hR
      refine lv_lconst (v := 1) hx hb dX0_bySequences_13 (by decide) ?_
      rw [← hQ]
      exact end_l hX hB hA3 rfl (by obtain rfl := hR; exact ⟨rfl, rfl⟩) (Nat.le_of_ble_eq_true rfl) (Nat.le_of_ble_eq_true rfl) dX0_bySequences_14
noncomputable def D_X0_bySequences_1_j80 (lb20 : Int32 → Int64 → Int64) (y5_20 : Int32) (y3_20 : Int64) (x26 : Int64) (x28 : Int64) (z0_80 : Int32) : Int64 := (if z0_80 = 0 then (lb20 (y5_20 + 1) (y3_20 + (x26 * x28))) else (lb20 (y5_20 + 1) (y3_20 + (-(x26 * x28)))))
theorem D_X0_bySequences_1_j80_s {lb20 : Int32 → Int64 → Int64} {y5_20 : Int32} {y3_20 : Int64} {x26 : Int64} {x28 : Int64} {z0_80 : Int32} : D_X0_bySequences_1_j80 lb20 y5_20 y3_20 x26 x28 z0_80 = (if z0_80 = 0 then (lb20 (y5_20 + 1) (y3_20 + (x26 * x28))) else (lb20 (y5_20 + 1) (y3_20 + (-(x26 * x28))))) := rfl
noncomputable def D_X0_bySequences_1_20 (r : Nat → Int32) (q : Nat → Int32) (f : Nat → Nat → Int64) (i : Nat) (p0 : Int32) (p1 : Int32) (nn : Nat) : Int32 → Int64 → Int64 := @Nat.rec (fun _ => Int32 → Int64 → Int64) (fun _ _ => default) (fun _ lb20 (y5_20 : Int32) (y3_20 : Int64) => (if (r (2 * i + 1)) ≤ y5_20 then y3_20 else (if ((p1 >>> (y5_20 &&& 31)) &&& 1) = 0 then bnd1 (D_X3_get r q f i p0 y5_20) (fun (x26 : Int64) => bnd1 (D_X0_bySequences_0 r q f i (p0 + 1) (p1 ||| (1 <<< (y5_20 &&& 31)))) (fun (x28 : Int64) => nm ((bcE (p1 >>> ((y5_20 + 1) &&& 31))) : Int32) (fun (x29 : Int32) => (if (x29 - x29 / 2 * 2) = 0 then (D_X0_bySequences_1_j80 lb20 y5_20 y3_20 x26 x28 0) else (D_X0_bySequences_1_j80 lb20 y5_20 y3_20 x26 x28 1))))) else (lb20 (y5_20 + 1) y3_20)))) nn
theorem D_X0_bySequences_1_20_s {r : Nat → Int32} {q : Nat → Int32} {f : Nat → Nat → Int64} {i : Nat} {p0 : Int32} {p1 : Int32} {nn : Nat} {y5_20 : Int32} {y3_20 : Int64} : D_X0_bySequences_1_20 r q f i p0 p1 (nn + 1) y5_20 y3_20 = (if (r (2 * i + 1)) ≤ y5_20 then y3_20 else (if ((p1 >>> (y5_20 &&& 31)) &&& 1) = 0 then bnd1 (D_X3_get r q f i p0 y5_20) (fun (x26 : Int64) => bnd1 (D_X0_bySequences_0 r q f i (p0 + 1) (p1 ||| (1 <<< (y5_20 &&& 31)))) (fun (x28 : Int64) => nm ((bcE (p1 >>> ((y5_20 + 1) &&& 31))) : Int32) (fun (x29 : Int32) => (if (x29 - x29 / 2 * 2) = 0 then (D_X0_bySequences_1_j80 (D_X0_bySequences_1_20 r q f i p0 p1 nn) y5_20 y3_20 x26 x28 0) else (D_X0_bySequences_1_j80 (D_X0_bySequences_1_20 r q f i p0 p1 nn) y5_20 y3_20 x26 x28 1))))) else ((D_X0_bySequences_1_20 r q f i p0 p1 nn) (y5_20 + 1) y3_20))) := rfl
noncomputable def D_X0_bySequences_1 (r : Nat → Int32) (q : Nat → Int32) (f : Nat → Nat → Int64) (i : Nat) (p0 : Int32) (p1 : Int32) : Int64 := (if (r (2 * i)) ≤ p0 then 1 else (if p0 < 4 then (D_X0_bySequences_1_20 r q f i p0 p1 (gap (r (2 * i + 1)) 0 + 1) 0 0) else 1))
theorem D_X0_bySequences_1_s {r : Nat → Int32} {q : Nat → Int32} {f : Nat → Nat → Int64} {i : Nat} {p0 : Int32} {p1 : Int32} : D_X0_bySequences_1 r q f i p0 p1 = (if (r (2 * i)) ≤ p0 then 1 else (if p0 < 4 then (D_X0_bySequences_1_20 r q f i p0 p1 (gap (r (2 * i + 1)) 0 + 1) 0 0) else 1)) := rfl
set_option maxHeartbeats 4000000 in
set_option maxRecDepth 100000 in
theorem k_X0_bySequences_1 (κ : Kt) (l : Launch) (a : Nat → Nat) (r q : Nat → Int32) (f : Nat → Nat → Int64) (i : Nat) (p0 : Int32) (p1 : Int32) (hi : i < 15) (hp0 : 3 ≤ p0) (o_x : Int64) (hR : D_X0_bySequences_1 r q f i p0 p1 = o_x) : CM κ l yX0_bySequences cX0_bySequences 9 (some .long) 1 28 0 0 [.ref (a (6 + 2 * i)), .int p0, .int p1] (cw κ a r q f) (fun o w' => o = some (.long o_x) ∧ w' = cw κ a r q f) := by
  refine CM_begin (plainFor_of_name pn_RX0) (Nat.le_of_ble_eq_true rfl) ?_
  intro p e s m args below meth c A Q hX hnm hA3 hQ hB ls hl
  have hx := hX.1.1
  have hb := hX.1.2.1
  have hl : lv_has ls 9 [(0, .ref (a (6 + 2 * i))), (1, .int p0), (2, .int p1)] := hl
  replace hR := (D_X0_bySequences_1_s).symm.trans hR
  refine lv_iload_n hx hb dX0_bySequences_0 rfl (lv_at hl 1 rfl) ?_
  refine lv_aload_n hx hb dX0_bySequences_1 rfl (lv_at hl 0 rfl) ?_
  refine gfN hX hB (cwG (i := i) hi) rfl in3 1 (by decide) wn_1_47 rfl rfl dX0_bySequences_2 ?_
  refine lv_icmp_ge (tgt := 13) hx hb dX0_bySequences_5 (by decide) (fun c1 => ?_) (fun c1 => ?_)
  · replace hR := ifp c1 hR
    refine lv_lconst (v := 1) hx hb dX0_bySequences_13 (by decide) ?_
    rw [← hQ]
    exact end_l hX hB hA3 rfl (by obtain rfl := hR; exact ⟨rfl, rfl⟩) (Nat.le_of_ble_eq_true rfl) (Nat.le_of_ble_eq_true rfl) dX0_bySequences_14
  · replace hR := ifn c1 hR
    refine lv_iload_n hx hb dX0_bySequences_8 rfl (lv_at hl 1 rfl) ?_
    refine lv_iconst (v := 4) hx hb dX0_bySequences_9 (by decide) ?_
    refine lv_icmp_lt (tgt := 15) hx hb dX0_bySequences_10 (by decide) (fun c2 => ?_) (fun c2 => ?_)
    · replace hR := ifp c2 hR
      refine lv_lconst (v := 0) hx hb dX0_bySequences_15 (by decide) ?_
      refine lv_lstore_n (lv' := [(3, .long 0), (0, .ref (a (6 + 2 * i))), (1, .int p0), (2, .int p1)]) hx hb dX0_bySequences_16 rfl hl (by decide) rfl (fun ls hl => ?_)
      refine lv_iconst (v := 0) hx hb dX0_bySequences_17 (by decide) ?_
      refine lv_istore (lv' := [(5, .int 0), (3, .long 0), (0, .ref (a (6 + 2 * i))), (1, .int p0), (2, .int p1)]) hx hb dX0_bySequences_18 hl (by decide) rfl (fun ls hl => ?_)
      have lp20 : ∀ (nn20 : Nat) (y5_20 : Int32) (y3_20 : Int64) (H : Heap) (locs : List Loc), gap (r (2 * i + 1)) y5_20 < nn20 → D_X0_bySequences_1_20 r q f i p0 p1 nn20 y5_20 y3_20 = o_x → Bd κ A s (cw κ a r q f) H locs → ∀ ls : Array Slot, lv_has ls 9 [(5, .int y5_20), (3, .long y3_20), (0, .ref (a (6 + 2 * i))), (1, .int p0), (2, .int p1)] → W p l e (Rm 1 28 0 0) s m args below meth c H locs 0 0 Q (F0 m 20 ls []) := by
        intro nn20
        induction nn20 with
        | zero => intro y5_20 y3_20 H locs hμ; exact absurd hμ (Nat.not_lt_zero _)
        | succ nn20 ih20 =>
          intro y5_20 y3_20 H locs hμ20 hR hB ls hl
          replace hR := (D_X0_bySequences_1_20_s).symm.trans hR
          refine lv_iload hx hb dX0_bySequences_20 (lv_at hl 0 rfl) ?_
          refine lv_aload_n hx hb dX0_bySequences_22 rfl (lv_at hl 2 rfl) ?_
          refine gfN hX hB (cwG (i := i) hi) rfl in3 2 (by decide) wn_1_53 rfl rfl dX0_bySequences_23 ?_
          refine lv_icmp_ge (tgt := 104) hx hb dX0_bySequences_26 (by decide) (fun c23 => ?_) (fun c23 => ?_)
          · replace hR := ifp c23 hR
            refine lv_lload_n hx hb dX0_bySequences_104 rfl (lv_at hl 1 rfl) ?_
            rw [← hQ]
            exact end_l hX hB hA3 rfl (by obtain rfl := hR; exact ⟨rfl, rfl⟩) (Nat.le_of_ble_eq_true rfl) (Nat.le_of_ble_eq_true rfl) dX0_bySequences_105
          · replace hR := ifn c23 hR
            refine lv_iload_n hx hb dX0_bySequences_29 rfl (lv_at hl 4 rfl) ?_
            refine lv_iload hx hb dX0_bySequences_30 (lv_at hl 0 rfl) ?_
            refine lv_ishr hx hb dX0_bySequences_32 ?_
            refine lv_iconst (v := 1) hx hb dX0_bySequences_33 (by decide) ?_
            refine lv_iand hx hb dX0_bySequences_34 ?_
            refine lv_if_ne (tgt := 98) hx hb dX0_bySequences_35 (by decide) (fun c24 => ?_) (fun c24 => ?_)
            · replace hR := ifn c24 hR
              refine lv_iinc (v := y5_20 + 1) (lv' := [(5, .int (y5_20 + 1)), (3, .long y3_20), (0, .ref (a (6 + 2 * i))), (1, .int p0), (2, .int p1)]) hx hb dX0_bySequences_98 hl (k := 0) rfl rfl (by decide) rfl (fun ls hl => ?_)
              refine lv_goto (tgt := 20) hx hb dX0_bySequences_101 (by decide) ?_
              exact ih20 (y5_20 + 1) y3_20 _ _  (gap_step c23 hμ20) hR hB _ hl
            · replace hR := ifp c24 hR
              refine lv_aload_n hx hb dX0_bySequences_38 rfl (lv_at hl 2 rfl) ?_
              refine lv_iload_n hx hb dX0_bySequences_39 rfl (lv_at hl 3 rfl) ?_
              refine lv_iload hx hb dX0_bySequences_40 (lv_at hl 0 rfl) ?_
              obtain ⟨x26, hd25⟩ := ex1 (D_X3_get r q f i p0 y5_20)
              replace hR := bnd1_use hd25 hR
              refine call_V (n := 2) (As := [.int p0, .int y5_20]) (rest := []) hX hB (k_X3_get κ l a r q f i p0 y5_20 hi x26 hd25) ⟨rfl, yk_X3_get⟩ wm_1_186 wm_1_187 wm_1_188 wm_1_2 wm_1_189 ⟨Nat.le_of_ble_eq_true rfl, Nat.le_of_ble_eq_true rfl⟩ ⟨Nat.le_of_ble_eq_true rfl, Nat.le_of_ble_eq_true rfl⟩ (cwG (i := i) hi) rfl rfl rfl hl.1 rfl (Nat.le_of_ble_eq_true rfl) dX0_bySequences_42 (fun o w' H locs hp hB => ?_)
              obtain ⟨rfl, rfl⟩ := hp
              refine W.eq (g2 := F0 m 45 ls [.long x26]) rfl ?_
              refine lv_aload_n hx hb dX0_bySequences_45 rfl (lv_at hl 2 rfl) ?_
              refine lv_iload_n hx hb dX0_bySequences_46 rfl (lv_at hl 3 rfl) ?_
              refine lv_iconst (v := 1) hx hb dX0_bySequences_47 (by decide) ?_
              refine lv_iadd hx hb dX0_bySequences_48 ?_
              refine lv_iload_n hx hb dX0_bySequences_49 rfl (lv_at hl 4 rfl) ?_
              refine lv_iconst (v := 1) hx hb dX0_bySequences_50 (by decide) ?_
              refine lv_iload hx hb dX0_bySequences_51 (lv_at hl 0 rfl) ?_
              refine lv_ishl hx hb dX0_bySequences_53 ?_
              refine lv_ior hx hb dX0_bySequences_54 ?_
              obtain ⟨x28, hd27⟩ := ex1 (D_X0_bySequences_0 r q f i (p0 + 1) (p1 ||| (1 <<< (y5_20 &&& 31))))
              replace hR := bnd1_use hd27 hR
              refine call_S (n := 3) (As := [.ref (a (6 + 2 * i)), .int (p0 + 1), .int (p1 ||| (1 <<< (y5_20 &&& 31)))]) (rest := [.long x26]) hX hB (k_X0_bySequences_0 κ l a r q f i (p0 + 1) (p1 ||| (1 <<< (y5_20 &&& 31))) hi (lvup (lo := 3) (hi := 4) rfl hp0 (by assumption)) x28 hd27) yk_X0_bySequences wm_1_193 wm_1_191 wm_1_29 wm_1_192 ⟨Nat.le_of_ble_eq_true rfl, Nat.le_of_ble_eq_true rfl⟩ ⟨Nat.le_of_ble_eq_true rfl, Nat.le_of_ble_eq_true rfl⟩ rfl hl.1 rfl (Nat.le_of_ble_eq_true rfl) dX0_bySequences_55 (fun o w' H locs hp hB => ?_)
              obtain ⟨rfl, rfl⟩ := hp
              refine W.eq (g2 := F0 m 58 ls [.long x28, .long x26]) rfl ?_
              refine lv_lmul hx hb dX0_bySequences_58 ?_
              refine lv_lstore (lv' := [(6, .long (x26 * x28)), (5, .int y5_20), (3, .long y3_20), (0, .ref (a (6 + 2 * i))), (1, .int p0), (2, .int p1)]) hx hb dX0_bySequences_59 hl (by decide) rfl (fun ls hl => ?_)
              refine lv_iload_n hx hb dX0_bySequences_61 rfl (lv_at hl 5 rfl) ?_
              refine lv_iload hx hb dX0_bySequences_62 (lv_at hl 1 rfl) ?_
              refine lv_iconst (v := 1) hx hb dX0_bySequences_64 (by decide) ?_
              refine lv_iadd hx hb dX0_bySequences_65 ?_
              refine lv_ishr hx hb dX0_bySequences_66 ?_
              refine call_S (n := 1) (As := [.int (p1 >>> ((y5_20 + 1) &&& 31))]) (rest := []) hX hB (k_J6_bitCount_0f7a4 κ l (cw κ a r q f) (p1 >>> ((y5_20 + 1) &&& 31)) ) yk_J6_bitCount_0f7a4 wm_1_194 wm_1_195 wm_1_26 wm_1_196 ⟨Nat.le_of_ble_eq_true rfl, Nat.le_of_ble_eq_true rfl⟩ ⟨Nat.le_of_ble_eq_true rfl, Nat.le_of_ble_eq_true rfl⟩ rfl hl.1 rfl (Nat.le_of_ble_eq_true rfl) dX0_bySequences_67 (fun o w' H locs hp hB => ?_)
              obtain ⟨x29, rfl, ex29, hw9⟩ := hp
              replace hR := nm_use ex29 hR
              rw [hw9] at hB
              refine W.eq (g2 := F0 m 70 ls [.int x29]) rfl ?_
              refine lv_iconst (v := 2) hx hb dX0_bySequences_70 (by decide) ?_
              refine lv_irem hx hb dX0_bySequences_71 (by decide) ?_
              have jn80 : ∀ (z0_80 : Int32) (H : Heap) (locs : List Loc), (z0_80 = 0 ∨ z0_80 = 1) → D_X0_bySequences_1_j80 (D_X0_bySequences_1_20 r q f i p0 p1 nn20) y5_20 y3_20 x26 x28 z0_80 = o_x → Bd κ A s (cw κ a r q f) H locs → ∀ ls : Array Slot, lv_has ls 9 [(6, .long (x26 * x28)), (5, .int y5_20), (3, .long y3_20), (0, .ref (a (6 + 2 * i))), (1, .int p0), (2, .int p1)] → W p l e (Rm 1 28 0 0) s m args below meth c H locs 0 0 Q (F0 m 80 ls [.int z0_80]) := by
                intro z0_80 H locs hz0_80 hR hB ls hl
                replace hR := (D_X0_bySequences_1_j80_s).symm.trans hR
                refine lv_istore (lv' := [(8, .int z0_80), (6, .long (x26 * x28)), (5, .int y5_20), (3, .long y3_20), (0, .ref (a (6 + 2 * i))), (1, .int p0), (2, .int p1)]) hx hb dX0_bySequences_80 hl (by decide) rfl (fun ls hl => ?_)
                refine lv_lload_n hx hb dX0_bySequences_82 rfl (lv_at hl 3 rfl) ?_
                refine lv_iload hx hb dX0_bySequences_83 (lv_at hl 0 rfl) ?_
                refine lv_if_eq (tgt := 94) hx hb dX0_bySequences_85 (by decide) (fun c31 => ?_) (fun c31 => ?_)
                · replace hR := ifp c31 hR
                  refine lv_lload hx hb dX0_bySequences_94 (lv_at hl 1 rfl) ?_
                  refine lv_ladd hx hb dX0_bySequences_96 ?_
                  refine lv_lstore_n (lv' := [(3, .long (y3_20 + (x26 * x28))), (8, .int z0_80), (6, .long (x26 * x28)), (5, .int y5_20), (0, .ref (a (6 + 2 * i))), (1, .int p0), (2, .int p1)]) hx hb dX0_bySequences_97 rfl hl (by decide) rfl (fun ls hl => ?_)
                  refine lv_iinc (v := y5_20 + 1) (lv' := [(5, .int (y5_20 + 1)), (3, .long (y3_20 + (x26 * x28))), (8, .int z0_80), (6, .long (x26 * x28)), (0, .ref (a (6 + 2 * i))), (1, .int p0), (2, .int p1)]) hx hb dX0_bySequences_98 hl (k := 3) rfl rfl (by decide) rfl (fun ls hl => ?_)
                  refine lv_goto (tgt := 20) hx hb dX0_bySequences_101 (by decide) ?_
                  exact ih20 (y5_20 + 1) (y3_20 + (x26 * x28)) _ _  (gap_step c23 hμ20) hR hB _ (lv_sub hl [0, 1, 4, 5, 6] rfl)
                · replace hR := ifn c31 hR
                  refine lv_lload hx hb dX0_bySequences_88 (lv_at hl 1 rfl) ?_
                  refine lv_lneg hx hb dX0_bySequences_90 ?_
                  refine lv_goto (tgt := 96) hx hb dX0_bySequences_91 (by decide) ?_
                  refine lv_ladd hx hb dX0_bySequences_96 ?_
                  refine lv_lstore_n (lv' := [(3, .long (y3_20 + (-(x26 * x28)))), (8, .int z0_80), (6, .long (x26 * x28)), (5, .int y5_20), (0, .ref (a (6 + 2 * i))), (1, .int p0), (2, .int p1)]) hx hb dX0_bySequences_97 rfl hl (by decide) rfl (fun ls hl => ?_)
                  refine lv_iinc (v := y5_20 + 1) (lv' := [(5, .int (y5_20 + 1)), (3, .long (y3_20 + (-(x26 * x28)))), (8, .int z0_80), (6, .long (x26 * x28)), (0, .ref (a (6 + 2 * i))), (1, .int p0), (2, .int p1)]) hx hb dX0_bySequences_98 hl (k := 3) rfl rfl (by decide) rfl (fun ls hl => ?_)
                  refine lv_goto (tgt := 20) hx hb dX0_bySequences_101 (by decide) ?_
                  exact ih20 (y5_20 + 1) (y3_20 + (-(x26 * x28))) _ _  (gap_step c23 hμ20) hR hB _ (lv_sub hl [0, 1, 4, 5, 6] rfl)
              refine lv_if_eq (tgt := 79) hx hb dX0_bySequences_72 (by decide) (fun c32 => ?_) (fun c32 => ?_)
              · replace hR := ifp c32 hR
                refine lv_iconst (v := 0) hx hb dX0_bySequences_79 (by decide) ?_
                exact jn80 0 _ _ (Or.inl rfl) hR hB _ hl
              · replace hR := ifn c32 hR
                refine lv_iconst (v := 1) hx hb dX0_bySequences_75 (by decide) ?_
                refine lv_goto (tgt := 80) hx hb dX0_bySequences_76 (by decide) ?_
                exact jn80 1 _ _ (Or.inr rfl) hR hB _ hl
      exact lp20 _ 0 0 _ _  (Nat.lt_succ_self _) hR hB _ hl
    · replace hR := ifn c2 hR
      refine lv_lconst (v := 1) hx hb dX0_bySequences_13 (by decide) ?_
      rw [← hQ]
      exact end_l hX hB hA3 rfl (by obtain rfl := hR; exact ⟨rfl, rfl⟩) (Nat.le_of_ble_eq_true rfl) (Nat.le_of_ble_eq_true rfl) dX0_bySequences_14
noncomputable def D_X0_bySequences_2_j80 (lb20 : Int32 → Int64 → Int64) (y5_20 : Int32) (y3_20 : Int64) (x26 : Int64) (x28 : Int64) (z0_80 : Int32) : Int64 := (if z0_80 = 0 then (lb20 (y5_20 + 1) (y3_20 + (x26 * x28))) else (lb20 (y5_20 + 1) (y3_20 + (-(x26 * x28)))))
theorem D_X0_bySequences_2_j80_s {lb20 : Int32 → Int64 → Int64} {y5_20 : Int32} {y3_20 : Int64} {x26 : Int64} {x28 : Int64} {z0_80 : Int32} : D_X0_bySequences_2_j80 lb20 y5_20 y3_20 x26 x28 z0_80 = (if z0_80 = 0 then (lb20 (y5_20 + 1) (y3_20 + (x26 * x28))) else (lb20 (y5_20 + 1) (y3_20 + (-(x26 * x28))))) := rfl
noncomputable def D_X0_bySequences_2_20 (r : Nat → Int32) (q : Nat → Int32) (f : Nat → Nat → Int64) (i : Nat) (p0 : Int32) (p1 : Int32) (nn : Nat) : Int32 → Int64 → Int64 := @Nat.rec (fun _ => Int32 → Int64 → Int64) (fun _ _ => default) (fun _ lb20 (y5_20 : Int32) (y3_20 : Int64) => (if (r (2 * i + 1)) ≤ y5_20 then y3_20 else (if ((p1 >>> (y5_20 &&& 31)) &&& 1) = 0 then bnd1 (D_X3_get r q f i p0 y5_20) (fun (x26 : Int64) => bnd1 (D_X0_bySequences_1 r q f i (p0 + 1) (p1 ||| (1 <<< (y5_20 &&& 31)))) (fun (x28 : Int64) => nm ((bcE (p1 >>> ((y5_20 + 1) &&& 31))) : Int32) (fun (x29 : Int32) => (if (x29 - x29 / 2 * 2) = 0 then (D_X0_bySequences_2_j80 lb20 y5_20 y3_20 x26 x28 0) else (D_X0_bySequences_2_j80 lb20 y5_20 y3_20 x26 x28 1))))) else (lb20 (y5_20 + 1) y3_20)))) nn
theorem D_X0_bySequences_2_20_s {r : Nat → Int32} {q : Nat → Int32} {f : Nat → Nat → Int64} {i : Nat} {p0 : Int32} {p1 : Int32} {nn : Nat} {y5_20 : Int32} {y3_20 : Int64} : D_X0_bySequences_2_20 r q f i p0 p1 (nn + 1) y5_20 y3_20 = (if (r (2 * i + 1)) ≤ y5_20 then y3_20 else (if ((p1 >>> (y5_20 &&& 31)) &&& 1) = 0 then bnd1 (D_X3_get r q f i p0 y5_20) (fun (x26 : Int64) => bnd1 (D_X0_bySequences_1 r q f i (p0 + 1) (p1 ||| (1 <<< (y5_20 &&& 31)))) (fun (x28 : Int64) => nm ((bcE (p1 >>> ((y5_20 + 1) &&& 31))) : Int32) (fun (x29 : Int32) => (if (x29 - x29 / 2 * 2) = 0 then (D_X0_bySequences_2_j80 (D_X0_bySequences_2_20 r q f i p0 p1 nn) y5_20 y3_20 x26 x28 0) else (D_X0_bySequences_2_j80 (D_X0_bySequences_2_20 r q f i p0 p1 nn) y5_20 y3_20 x26 x28 1))))) else ((D_X0_bySequences_2_20 r q f i p0 p1 nn) (y5_20 + 1) y3_20))) := rfl
noncomputable def D_X0_bySequences_2 (r : Nat → Int32) (q : Nat → Int32) (f : Nat → Nat → Int64) (i : Nat) (p0 : Int32) (p1 : Int32) : Int64 := (if (r (2 * i)) ≤ p0 then 1 else (if p0 < 4 then (D_X0_bySequences_2_20 r q f i p0 p1 (gap (r (2 * i + 1)) 0 + 1) 0 0) else 1))
theorem D_X0_bySequences_2_s {r : Nat → Int32} {q : Nat → Int32} {f : Nat → Nat → Int64} {i : Nat} {p0 : Int32} {p1 : Int32} : D_X0_bySequences_2 r q f i p0 p1 = (if (r (2 * i)) ≤ p0 then 1 else (if p0 < 4 then (D_X0_bySequences_2_20 r q f i p0 p1 (gap (r (2 * i + 1)) 0 + 1) 0 0) else 1)) := rfl
set_option maxHeartbeats 4000000 in
set_option maxRecDepth 100000 in
theorem k_X0_bySequences_2 (κ : Kt) (l : Launch) (a : Nat → Nat) (r q : Nat → Int32) (f : Nat → Nat → Int64) (i : Nat) (p0 : Int32) (p1 : Int32) (hi : i < 15) (hp0 : 2 ≤ p0) (o_x : Int64) (hR : D_X0_bySequences_2 r q f i p0 p1 = o_x) : CM κ l yX0_bySequences cX0_bySequences 9 (some .long) 2 56 0 0 [.ref (a (6 + 2 * i)), .int p0, .int p1] (cw κ a r q f) (fun o w' => o = some (.long o_x) ∧ w' = cw κ a r q f) := by
  refine CM_begin (plainFor_of_name pn_RX0) (Nat.le_of_ble_eq_true rfl) ?_
  intro p e s m args below meth c A Q hX hnm hA3 hQ hB ls hl
  have hx := hX.1.1
  have hb := hX.1.2.1
  have hl : lv_has ls 9 [(0, .ref (a (6 + 2 * i))), (1, .int p0), (2, .int p1)] := hl
  replace hR := (D_X0_bySequences_2_s).symm.trans hR
  refine lv_iload_n hx hb dX0_bySequences_0 rfl (lv_at hl 1 rfl) ?_
  refine lv_aload_n hx hb dX0_bySequences_1 rfl (lv_at hl 0 rfl) ?_
  refine gfN hX hB (cwG (i := i) hi) rfl in3 1 (by decide) wn_1_47 rfl rfl dX0_bySequences_2 ?_
  refine lv_icmp_ge (tgt := 13) hx hb dX0_bySequences_5 (by decide) (fun c1 => ?_) (fun c1 => ?_)
  · replace hR := ifp c1 hR
    refine lv_lconst (v := 1) hx hb dX0_bySequences_13 (by decide) ?_
    rw [← hQ]
    exact end_l hX hB hA3 rfl (by obtain rfl := hR; exact ⟨rfl, rfl⟩) (Nat.le_of_ble_eq_true rfl) (Nat.le_of_ble_eq_true rfl) dX0_bySequences_14
  · replace hR := ifn c1 hR
    refine lv_iload_n hx hb dX0_bySequences_8 rfl (lv_at hl 1 rfl) ?_
    refine lv_iconst (v := 4) hx hb dX0_bySequences_9 (by decide) ?_
    refine lv_icmp_lt (tgt := 15) hx hb dX0_bySequences_10 (by decide) (fun c2 => ?_) (fun c2 => ?_)
    · replace hR := ifp c2 hR
      refine lv_lconst (v := 0) hx hb dX0_bySequences_15 (by decide) ?_
      refine lv_lstore_n (lv' := [(3, .long 0), (0, .ref (a (6 + 2 * i))), (1, .int p0), (2, .int p1)]) hx hb dX0_bySequences_16 rfl hl (by decide) rfl (fun ls hl => ?_)
      refine lv_iconst (v := 0) hx hb dX0_bySequences_17 (by decide) ?_
      refine lv_istore (lv' := [(5, .int 0), (3, .long 0), (0, .ref (a (6 + 2 * i))), (1, .int p0), (2, .int p1)]) hx hb dX0_bySequences_18 hl (by decide) rfl (fun ls hl => ?_)
      have lp20 : ∀ (nn20 : Nat) (y5_20 : Int32) (y3_20 : Int64) (H : Heap) (locs : List Loc), gap (r (2 * i + 1)) y5_20 < nn20 → D_X0_bySequences_2_20 r q f i p0 p1 nn20 y5_20 y3_20 = o_x → Bd κ A s (cw κ a r q f) H locs → ∀ ls : Array Slot, lv_has ls 9 [(5, .int y5_20), (3, .long y3_20), (0, .ref (a (6 + 2 * i))), (1, .int p0), (2, .int p1)] → W p l e (Rm 2 56 0 0) s m args below meth c H locs 0 0 Q (F0 m 20 ls []) := by
        intro nn20
        induction nn20 with
        | zero => intro y5_20 y3_20 H locs hμ; exact absurd hμ (Nat.not_lt_zero _)
        | succ nn20 ih20 =>
          intro y5_20 y3_20 H locs hμ20 hR hB ls hl
          replace hR := (D_X0_bySequences_2_20_s).symm.trans hR
          refine lv_iload hx hb dX0_bySequences_20 (lv_at hl 0 rfl) ?_
          refine lv_aload_n hx hb dX0_bySequences_22 rfl (lv_at hl 2 rfl) ?_
          refine gfN hX hB (cwG (i := i) hi) rfl in3 2 (by decide) wn_1_53 rfl rfl dX0_bySequences_23 ?_
          refine lv_icmp_ge (tgt := 104) hx hb dX0_bySequences_26 (by decide) (fun c23 => ?_) (fun c23 => ?_)
          · replace hR := ifp c23 hR
            refine lv_lload_n hx hb dX0_bySequences_104 rfl (lv_at hl 1 rfl) ?_
            rw [← hQ]
            exact end_l hX hB hA3 rfl (by obtain rfl := hR; exact ⟨rfl, rfl⟩) (Nat.le_of_ble_eq_true rfl) (Nat.le_of_ble_eq_true rfl) dX0_bySequences_105
          · replace hR := ifn c23 hR
            refine lv_iload_n hx hb dX0_bySequences_29 rfl (lv_at hl 4 rfl) ?_
            refine lv_iload hx hb dX0_bySequences_30 (lv_at hl 0 rfl) ?_
            refine lv_ishr hx hb dX0_bySequences_32 ?_
            refine lv_iconst (v := 1) hx hb dX0_bySequences_33 (by decide) ?_
            refine lv_iand hx hb dX0_bySequences_34 ?_
            refine lv_if_ne (tgt := 98) hx hb dX0_bySequences_35 (by decide) (fun c24 => ?_) (fun c24 => ?_)
            · replace hR := ifn c24 hR
              refine lv_iinc (v := y5_20 + 1) (lv' := [(5, .int (y5_20 + 1)), (3, .long y3_20), (0, .ref (a (6 + 2 * i))), (1, .int p0), (2, .int p1)]) hx hb dX0_bySequences_98 hl (k := 0) rfl rfl (by decide) rfl (fun ls hl => ?_)
              refine lv_goto (tgt := 20) hx hb dX0_bySequences_101 (by decide) ?_
              exact ih20 (y5_20 + 1) y3_20 _ _  (gap_step c23 hμ20) hR hB _ hl
            · replace hR := ifp c24 hR
              refine lv_aload_n hx hb dX0_bySequences_38 rfl (lv_at hl 2 rfl) ?_
              refine lv_iload_n hx hb dX0_bySequences_39 rfl (lv_at hl 3 rfl) ?_
              refine lv_iload hx hb dX0_bySequences_40 (lv_at hl 0 rfl) ?_
              obtain ⟨x26, hd25⟩ := ex1 (D_X3_get r q f i p0 y5_20)
              replace hR := bnd1_use hd25 hR
              refine call_V (n := 2) (As := [.int p0, .int y5_20]) (rest := []) hX hB (k_X3_get κ l a r q f i p0 y5_20 hi x26 hd25) ⟨rfl, yk_X3_get⟩ wm_1_186 wm_1_187 wm_1_188 wm_1_2 wm_1_189 ⟨Nat.le_of_ble_eq_true rfl, Nat.le_of_ble_eq_true rfl⟩ ⟨Nat.le_of_ble_eq_true rfl, Nat.le_of_ble_eq_true rfl⟩ (cwG (i := i) hi) rfl rfl rfl hl.1 rfl (Nat.le_of_ble_eq_true rfl) dX0_bySequences_42 (fun o w' H locs hp hB => ?_)
              obtain ⟨rfl, rfl⟩ := hp
              refine W.eq (g2 := F0 m 45 ls [.long x26]) rfl ?_
              refine lv_aload_n hx hb dX0_bySequences_45 rfl (lv_at hl 2 rfl) ?_
              refine lv_iload_n hx hb dX0_bySequences_46 rfl (lv_at hl 3 rfl) ?_
              refine lv_iconst (v := 1) hx hb dX0_bySequences_47 (by decide) ?_
              refine lv_iadd hx hb dX0_bySequences_48 ?_
              refine lv_iload_n hx hb dX0_bySequences_49 rfl (lv_at hl 4 rfl) ?_
              refine lv_iconst (v := 1) hx hb dX0_bySequences_50 (by decide) ?_
              refine lv_iload hx hb dX0_bySequences_51 (lv_at hl 0 rfl) ?_
              refine lv_ishl hx hb dX0_bySequences_53 ?_
              refine lv_ior hx hb dX0_bySequences_54 ?_
              obtain ⟨x28, hd27⟩ := ex1 (D_X0_bySequences_1 r q f i (p0 + 1) (p1 ||| (1 <<< (y5_20 &&& 31))))
              replace hR := bnd1_use hd27 hR
              refine call_S (n := 3) (As := [.ref (a (6 + 2 * i)), .int (p0 + 1), .int (p1 ||| (1 <<< (y5_20 &&& 31)))]) (rest := [.long x26]) hX hB (k_X0_bySequences_1 κ l a r q f i (p0 + 1) (p1 ||| (1 <<< (y5_20 &&& 31))) hi (lvup (lo := 2) (hi := 3) rfl hp0 (by assumption)) x28 hd27) yk_X0_bySequences wm_1_193 wm_1_191 wm_1_29 wm_1_192 ⟨Nat.le_of_ble_eq_true rfl, Nat.le_of_ble_eq_true rfl⟩ ⟨Nat.le_of_ble_eq_true rfl, Nat.le_of_ble_eq_true rfl⟩ rfl hl.1 rfl (Nat.le_of_ble_eq_true rfl) dX0_bySequences_55 (fun o w' H locs hp hB => ?_)
              obtain ⟨rfl, rfl⟩ := hp
              refine W.eq (g2 := F0 m 58 ls [.long x28, .long x26]) rfl ?_
              refine lv_lmul hx hb dX0_bySequences_58 ?_
              refine lv_lstore (lv' := [(6, .long (x26 * x28)), (5, .int y5_20), (3, .long y3_20), (0, .ref (a (6 + 2 * i))), (1, .int p0), (2, .int p1)]) hx hb dX0_bySequences_59 hl (by decide) rfl (fun ls hl => ?_)
              refine lv_iload_n hx hb dX0_bySequences_61 rfl (lv_at hl 5 rfl) ?_
              refine lv_iload hx hb dX0_bySequences_62 (lv_at hl 1 rfl) ?_
              refine lv_iconst (v := 1) hx hb dX0_bySequences_64 (by decide) ?_
              refine lv_iadd hx hb dX0_bySequences_65 ?_
              refine lv_ishr hx hb dX0_bySequences_66 ?_
              refine call_S (n := 1) (As := [.int (p1 >>> ((y5_20 + 1) &&& 31))]) (rest := []) hX hB (k_J6_bitCount_0f7a4 κ l (cw κ a r q f) (p1 >>> ((y5_20 + 1) &&& 31)) ) yk_J6_bitCount_0f7a4 wm_1_194 wm_1_195 wm_1_26 wm_1_196 ⟨Nat.le_of_ble_eq_true rfl, Nat.le_of_ble_eq_true rfl⟩ ⟨Nat.le_of_ble_eq_true rfl, Nat.le_of_ble_eq_true rfl⟩ rfl hl.1 rfl (Nat.le_of_ble_eq_true rfl) dX0_bySequences_67 (fun o w' H locs hp hB => ?_)
              obtain ⟨x29, rfl, ex29, hw9⟩ := hp
              replace hR := nm_use ex29 hR
              rw [hw9] at hB
              refine W.eq (g2 := F0 m 70 ls [.int x29]) rfl ?_
              refine lv_iconst (v := 2) hx hb dX0_bySequences_70 (by decide) ?_
              refine lv_irem hx hb dX0_bySequences_71 (by decide) ?_
              have jn80 : ∀ (z0_80 : Int32) (H : Heap) (locs : List Loc), (z0_80 = 0 ∨ z0_80 = 1) → D_X0_bySequences_2_j80 (D_X0_bySequences_2_20 r q f i p0 p1 nn20) y5_20 y3_20 x26 x28 z0_80 = o_x → Bd κ A s (cw κ a r q f) H locs → ∀ ls : Array Slot, lv_has ls 9 [(6, .long (x26 * x28)), (5, .int y5_20), (3, .long y3_20), (0, .ref (a (6 + 2 * i))), (1, .int p0), (2, .int p1)] → W p l e (Rm 2 56 0 0) s m args below meth c H locs 0 0 Q (F0 m 80 ls [.int z0_80]) := by
                intro z0_80 H locs hz0_80 hR hB ls hl
                replace hR := (D_X0_bySequences_2_j80_s).symm.trans hR
                refine lv_istore (lv' := [(8, .int z0_80), (6, .long (x26 * x28)), (5, .int y5_20), (3, .long y3_20), (0, .ref (a (6 + 2 * i))), (1, .int p0), (2, .int p1)]) hx hb dX0_bySequences_80 hl (by decide) rfl (fun ls hl => ?_)
                refine lv_lload_n hx hb dX0_bySequences_82 rfl (lv_at hl 3 rfl) ?_
                refine lv_iload hx hb dX0_bySequences_83 (lv_at hl 0 rfl) ?_
                refine lv_if_eq (tgt := 94) hx hb dX0_bySequences_85 (by decide) (fun c31 => ?_) (fun c31 => ?_)
                · replace hR := ifp c31 hR
                  refine lv_lload hx hb dX0_bySequences_94 (lv_at hl 1 rfl) ?_
                  refine lv_ladd hx hb dX0_bySequences_96 ?_
                  refine lv_lstore_n (lv' := [(3, .long (y3_20 + (x26 * x28))), (8, .int z0_80), (6, .long (x26 * x28)), (5, .int y5_20), (0, .ref (a (6 + 2 * i))), (1, .int p0), (2, .int p1)]) hx hb dX0_bySequences_97 rfl hl (by decide) rfl (fun ls hl => ?_)
                  refine lv_iinc (v := y5_20 + 1) (lv' := [(5, .int (y5_20 + 1)), (3, .long (y3_20 + (x26 * x28))), (8, .int z0_80), (6, .long (x26 * x28)), (0, .ref (a (6 + 2 * i))), (1, .int p0), (2, .int p1)]) hx hb dX0_bySequences_98 hl (k := 3) rfl rfl (by decide) rfl (fun ls hl => ?_)
                  refine lv_goto (tgt := 20) hx hb dX0_bySequences_101 (by decide) ?_
                  exact ih20 (y5_20 + 1) (y3_20 + (x26 * x28)) _ _  (gap_step c23 hμ20) hR hB _ (lv_sub hl [0, 1, 4, 5, 6] rfl)
                · replace hR := ifn c31 hR
                  refine lv_lload hx hb dX0_bySequences_88 (lv_at hl 1 rfl) ?_
                  refine lv_lneg hx hb dX0_bySequences_90 ?_
                  refine lv_goto (tgt := 96) hx hb dX0_bySequences_91 (by decide) ?_
                  refine lv_ladd hx hb dX0_bySequences_96 ?_
                  refine lv_lstore_n (lv' := [(3, .long (y3_20 + (-(x26 * x28)))), (8, .int z0_80), (6, .long (x26 * x28)), (5, .int y5_20), (0, .ref (a (6 + 2 * i))), (1, .int p0), (2, .int p1)]) hx hb dX0_bySequences_97 rfl hl (by decide) rfl (fun ls hl => ?_)
                  refine lv_iinc (v := y5_20 + 1) (lv' := [(5, .int (y5_20 + 1)), (3, .long (y3_20 + (-(x26 * x28)))), (8, .int z0_80), (6, .long (x26 * x28)), (0, .ref (a (6 + 2 * i))), (1, .int p0), (2, .int p1)]) hx hb dX0_bySequences_98 hl (k := 3) rfl rfl (by decide) rfl (fun ls hl => ?_)
                  refine lv_goto (tgt := 20) hx hb dX0_bySequences_101 (by decide) ?_
                  exact ih20 (y5_20 + 1) (y3_20 + (-(x26 * x28))) _ _  (gap_step c23 hμ20) hR hB _ (lv_sub hl [0, 1, 4, 5, 6] rfl)
              refine lv_if_eq (tgt := 79) hx hb dX0_bySequences_72 (by decide) (fun c32 => ?_) (fun c32 => ?_)
              · replace hR := ifp c32 hR
                refine lv_iconst (v := 0) hx hb dX0_bySequences_79 (by decide) ?_
                exact jn80 0 _ _ (Or.inl rfl) hR hB _ hl
              · replace hR := ifn c32 hR
                refine lv_iconst (v := 1) hx hb dX0_bySequences_75 (by decide) ?_
                refine lv_goto (tgt := 80) hx hb dX0_bySequences_76 (by decide) ?_
                exact jn80 1 _ _ (Or.inr rfl) hR hB _ hl
      exact lp20 _ 0 0 _ _  (Nat.lt_succ_self _) hR hB _ hl
    · replace hR := ifn c2 hR
      refine lv_lconst (v := 1) hx hb dX0_bySequences_13 (by decide) ?_
      rw [← hQ]
      exact end_l hX hB hA3 rfl (by obtain rfl := hR; exact ⟨rfl, rfl⟩) (Nat.le_of_ble_eq_true rfl) (Nat.le_of_ble_eq_true rfl) dX0_bySequences_14
noncomputable def D_X0_bySequences_3_j80 (lb20 : Int32 → Int64 → Int64) (y5_20 : Int32) (y3_20 : Int64) (x26 : Int64) (x28 : Int64) (z0_80 : Int32) : Int64 := (if z0_80 = 0 then (lb20 (y5_20 + 1) (y3_20 + (x26 * x28))) else (lb20 (y5_20 + 1) (y3_20 + (-(x26 * x28)))))
theorem D_X0_bySequences_3_j80_s {lb20 : Int32 → Int64 → Int64} {y5_20 : Int32} {y3_20 : Int64} {x26 : Int64} {x28 : Int64} {z0_80 : Int32} : D_X0_bySequences_3_j80 lb20 y5_20 y3_20 x26 x28 z0_80 = (if z0_80 = 0 then (lb20 (y5_20 + 1) (y3_20 + (x26 * x28))) else (lb20 (y5_20 + 1) (y3_20 + (-(x26 * x28))))) := rfl
noncomputable def D_X0_bySequences_3_20 (r : Nat → Int32) (q : Nat → Int32) (f : Nat → Nat → Int64) (i : Nat) (p0 : Int32) (p1 : Int32) (nn : Nat) : Int32 → Int64 → Int64 := @Nat.rec (fun _ => Int32 → Int64 → Int64) (fun _ _ => default) (fun _ lb20 (y5_20 : Int32) (y3_20 : Int64) => (if (r (2 * i + 1)) ≤ y5_20 then y3_20 else (if ((p1 >>> (y5_20 &&& 31)) &&& 1) = 0 then bnd1 (D_X3_get r q f i p0 y5_20) (fun (x26 : Int64) => bnd1 (D_X0_bySequences_2 r q f i (p0 + 1) (p1 ||| (1 <<< (y5_20 &&& 31)))) (fun (x28 : Int64) => nm ((bcE (p1 >>> ((y5_20 + 1) &&& 31))) : Int32) (fun (x29 : Int32) => (if (x29 - x29 / 2 * 2) = 0 then (D_X0_bySequences_3_j80 lb20 y5_20 y3_20 x26 x28 0) else (D_X0_bySequences_3_j80 lb20 y5_20 y3_20 x26 x28 1))))) else (lb20 (y5_20 + 1) y3_20)))) nn
theorem D_X0_bySequences_3_20_s {r : Nat → Int32} {q : Nat → Int32} {f : Nat → Nat → Int64} {i : Nat} {p0 : Int32} {p1 : Int32} {nn : Nat} {y5_20 : Int32} {y3_20 : Int64} : D_X0_bySequences_3_20 r q f i p0 p1 (nn + 1) y5_20 y3_20 = (if (r (2 * i + 1)) ≤ y5_20 then y3_20 else (if ((p1 >>> (y5_20 &&& 31)) &&& 1) = 0 then bnd1 (D_X3_get r q f i p0 y5_20) (fun (x26 : Int64) => bnd1 (D_X0_bySequences_2 r q f i (p0 + 1) (p1 ||| (1 <<< (y5_20 &&& 31)))) (fun (x28 : Int64) => nm ((bcE (p1 >>> ((y5_20 + 1) &&& 31))) : Int32) (fun (x29 : Int32) => (if (x29 - x29 / 2 * 2) = 0 then (D_X0_bySequences_3_j80 (D_X0_bySequences_3_20 r q f i p0 p1 nn) y5_20 y3_20 x26 x28 0) else (D_X0_bySequences_3_j80 (D_X0_bySequences_3_20 r q f i p0 p1 nn) y5_20 y3_20 x26 x28 1))))) else ((D_X0_bySequences_3_20 r q f i p0 p1 nn) (y5_20 + 1) y3_20))) := rfl
noncomputable def D_X0_bySequences_3 (r : Nat → Int32) (q : Nat → Int32) (f : Nat → Nat → Int64) (i : Nat) (p0 : Int32) (p1 : Int32) : Int64 := (if (r (2 * i)) ≤ p0 then 1 else (if p0 < 4 then (D_X0_bySequences_3_20 r q f i p0 p1 (gap (r (2 * i + 1)) 0 + 1) 0 0) else 1))
theorem D_X0_bySequences_3_s {r : Nat → Int32} {q : Nat → Int32} {f : Nat → Nat → Int64} {i : Nat} {p0 : Int32} {p1 : Int32} : D_X0_bySequences_3 r q f i p0 p1 = (if (r (2 * i)) ≤ p0 then 1 else (if p0 < 4 then (D_X0_bySequences_3_20 r q f i p0 p1 (gap (r (2 * i + 1)) 0 + 1) 0 0) else 1)) := rfl
set_option maxHeartbeats 4000000 in
set_option maxRecDepth 100000 in
theorem k_X0_bySequences_3 (κ : Kt) (l : Launch) (a : Nat → Nat) (r q : Nat → Int32) (f : Nat → Nat → Int64) (i : Nat) (p0 : Int32) (p1 : Int32) (hi : i < 15) (hp0 : 1 ≤ p0) (o_x : Int64) (hR : D_X0_bySequences_3 r q f i p0 p1 = o_x) : CM κ l yX0_bySequences cX0_bySequences 9 (some .long) 3 84 0 0 [.ref (a (6 + 2 * i)), .int p0, .int p1] (cw κ a r q f) (fun o w' => o = some (.long o_x) ∧ w' = cw κ a r q f) := by
  refine CM_begin (plainFor_of_name pn_RX0) (Nat.le_of_ble_eq_true rfl) ?_
  intro p e s m args below meth c A Q hX hnm hA3 hQ hB ls hl
  have hx := hX.1.1
  have hb := hX.1.2.1
  have hl : lv_has ls 9 [(0, .ref (a (6 + 2 * i))), (1, .int p0), (2, .int p1)] := hl
  replace hR := (D_X0_bySequences_3_s).symm.trans hR
  refine lv_iload_n hx hb dX0_bySequences_0 rfl (lv_at hl 1 rfl) ?_
  refine lv_aload_n hx hb dX0_bySequences_1 rfl (lv_at hl 0 rfl) ?_
  refine gfN hX hB (cwG (i := i) hi) rfl in3 1 (by decide) wn_1_47 rfl rfl dX0_bySequences_2 ?_
  refine lv_icmp_ge (tgt := 13) hx hb dX0_bySequences_5 (by decide) (fun c1 => ?_) (fun c1 => ?_)
  · replace hR := ifp c1 hR
    refine lv_lconst (v := 1) hx hb dX0_bySequences_13 (by decide) ?_
    rw [← hQ]
    exact end_l hX hB hA3 rfl (by obtain rfl := hR; exact ⟨rfl, rfl⟩) (Nat.le_of_ble_eq_true rfl) (Nat.le_of_ble_eq_true rfl) dX0_bySequences_14
  · replace hR := ifn c1 hR
    refine lv_iload_n hx hb dX0_bySequences_8 rfl (lv_at hl 1 rfl) ?_
    refine lv_iconst (v := 4) hx hb dX0_bySequences_9 (by decide) ?_
    refine lv_icmp_lt (tgt := 15) hx hb dX0_bySequences_10 (by decide) (fun c2 => ?_) (fun c2 => ?_)
    · replace hR := ifp c2 hR
      refine lv_lconst (v := 0) hx hb dX0_bySequences_15 (by decide) ?_
      refine lv_lstore_n (lv' := [(3, .long 0), (0, .ref (a (6 + 2 * i))), (1, .int p0), (2, .int p1)]) hx hb dX0_bySequences_16 rfl hl (by decide) rfl (fun ls hl => ?_)
      refine lv_iconst (v := 0) hx hb dX0_bySequences_17 (by decide) ?_
      refine lv_istore (lv' := [(5, .int 0), (3, .long 0), (0, .ref (a (6 + 2 * i))), (1, .int p0), (2, .int p1)]) hx hb dX0_bySequences_18 hl (by decide) rfl (fun ls hl => ?_)
      have lp20 : ∀ (nn20 : Nat) (y5_20 : Int32) (y3_20 : Int64) (H : Heap) (locs : List Loc), gap (r (2 * i + 1)) y5_20 < nn20 → D_X0_bySequences_3_20 r q f i p0 p1 nn20 y5_20 y3_20 = o_x → Bd κ A s (cw κ a r q f) H locs → ∀ ls : Array Slot, lv_has ls 9 [(5, .int y5_20), (3, .long y3_20), (0, .ref (a (6 + 2 * i))), (1, .int p0), (2, .int p1)] → W p l e (Rm 3 84 0 0) s m args below meth c H locs 0 0 Q (F0 m 20 ls []) := by
        intro nn20
        induction nn20 with
        | zero => intro y5_20 y3_20 H locs hμ; exact absurd hμ (Nat.not_lt_zero _)
        | succ nn20 ih20 =>
          intro y5_20 y3_20 H locs hμ20 hR hB ls hl
          replace hR := (D_X0_bySequences_3_20_s).symm.trans hR
          refine lv_iload hx hb dX0_bySequences_20 (lv_at hl 0 rfl) ?_
          refine lv_aload_n hx hb dX0_bySequences_22 rfl (lv_at hl 2 rfl) ?_
          refine gfN hX hB (cwG (i := i) hi) rfl in3 2 (by decide) wn_1_53 rfl rfl dX0_bySequences_23 ?_
          refine lv_icmp_ge (tgt := 104) hx hb dX0_bySequences_26 (by decide) (fun c23 => ?_) (fun c23 => ?_)
          · replace hR := ifp c23 hR
            refine lv_lload_n hx hb dX0_bySequences_104 rfl (lv_at hl 1 rfl) ?_
            rw [← hQ]
            exact end_l hX hB hA3 rfl (by obtain rfl := hR; exact ⟨rfl, rfl⟩) (Nat.le_of_ble_eq_true rfl) (Nat.le_of_ble_eq_true rfl) dX0_bySequences_105
          · replace hR := ifn c23 hR
            refine lv_iload_n hx hb dX0_bySequences_29 rfl (lv_at hl 4 rfl) ?_
            refine lv_iload hx hb dX0_bySequences_30 (lv_at hl 0 rfl) ?_
            refine lv_ishr hx hb dX0_bySequences_32 ?_
            refine lv_iconst (v := 1) hx hb dX0_bySequences_33 (by decide) ?_
            refine lv_iand hx hb dX0_bySequences_34 ?_
            refine lv_if_ne (tgt := 98) hx hb dX0_bySequences_35 (by decide) (fun c24 => ?_) (fun c24 => ?_)
            · replace hR := ifn c24 hR
              refine lv_iinc (v := y5_20 + 1) (lv' := [(5, .int (y5_20 + 1)), (3, .long y3_20), (0, .ref (a (6 + 2 * i))), (1, .int p0), (2, .int p1)]) hx hb dX0_bySequences_98 hl (k := 0) rfl rfl (by decide) rfl (fun ls hl => ?_)
              refine lv_goto (tgt := 20) hx hb dX0_bySequences_101 (by decide) ?_
              exact ih20 (y5_20 + 1) y3_20 _ _  (gap_step c23 hμ20) hR hB _ hl
            · replace hR := ifp c24 hR
              refine lv_aload_n hx hb dX0_bySequences_38 rfl (lv_at hl 2 rfl) ?_
              refine lv_iload_n hx hb dX0_bySequences_39 rfl (lv_at hl 3 rfl) ?_
              refine lv_iload hx hb dX0_bySequences_40 (lv_at hl 0 rfl) ?_
              obtain ⟨x26, hd25⟩ := ex1 (D_X3_get r q f i p0 y5_20)
              replace hR := bnd1_use hd25 hR
              refine call_V (n := 2) (As := [.int p0, .int y5_20]) (rest := []) hX hB (k_X3_get κ l a r q f i p0 y5_20 hi x26 hd25) ⟨rfl, yk_X3_get⟩ wm_1_186 wm_1_187 wm_1_188 wm_1_2 wm_1_189 ⟨Nat.le_of_ble_eq_true rfl, Nat.le_of_ble_eq_true rfl⟩ ⟨Nat.le_of_ble_eq_true rfl, Nat.le_of_ble_eq_true rfl⟩ (cwG (i := i) hi) rfl rfl rfl hl.1 rfl (Nat.le_of_ble_eq_true rfl) dX0_bySequences_42 (fun o w' H locs hp hB => ?_)
              obtain ⟨rfl, rfl⟩ := hp
              refine W.eq (g2 := F0 m 45 ls [.long x26]) rfl ?_
              refine lv_aload_n hx hb dX0_bySequences_45 rfl (lv_at hl 2 rfl) ?_
              refine lv_iload_n hx hb dX0_bySequences_46 rfl (lv_at hl 3 rfl) ?_
              refine lv_iconst (v := 1) hx hb dX0_bySequences_47 (by decide) ?_
              refine lv_iadd hx hb dX0_bySequences_48 ?_
              refine lv_iload_n hx hb dX0_bySequences_49 rfl (lv_at hl 4 rfl) ?_
              refine lv_iconst (v := 1) hx hb dX0_bySequences_50 (by decide) ?_
              refine lv_iload hx hb dX0_bySequences_51 (lv_at hl 0 rfl) ?_
              refine lv_ishl hx hb dX0_bySequences_53 ?_
              refine lv_ior hx hb dX0_bySequences_54 ?_
              obtain ⟨x28, hd27⟩ := ex1 (D_X0_bySequences_2 r q f i (p0 + 1) (p1 ||| (1 <<< (y5_20 &&& 31))))
              replace hR := bnd1_use hd27 hR
              refine call_S (n := 3) (As := [.ref (a (6 + 2 * i)), .int (p0 + 1), .int (p1 ||| (1 <<< (y5_20 &&& 31)))]) (rest := [.long x26]) hX hB (k_X0_bySequences_2 κ l a r q f i (p0 + 1) (p1 ||| (1 <<< (y5_20 &&& 31))) hi (lvup (lo := 1) (hi := 2) rfl hp0 (by assumption)) x28 hd27) yk_X0_bySequences wm_1_193 wm_1_191 wm_1_29 wm_1_192 ⟨Nat.le_of_ble_eq_true rfl, Nat.le_of_ble_eq_true rfl⟩ ⟨Nat.le_of_ble_eq_true rfl, Nat.le_of_ble_eq_true rfl⟩ rfl hl.1 rfl (Nat.le_of_ble_eq_true rfl) dX0_bySequences_55 (fun o w' H locs hp hB => ?_)
              obtain ⟨rfl, rfl⟩ := hp
              refine W.eq (g2 := F0 m 58 ls [.long x28, .long x26]) rfl ?_
              refine lv_lmul hx hb dX0_bySequences_58 ?_
              refine lv_lstore (lv' := [(6, .long (x26 * x28)), (5, .int y5_20), (3, .long y3_20), (0, .ref (a (6 + 2 * i))), (1, .int p0), (2, .int p1)]) hx hb dX0_bySequences_59 hl (by decide) rfl (fun ls hl => ?_)
              refine lv_iload_n hx hb dX0_bySequences_61 rfl (lv_at hl 5 rfl) ?_
              refine lv_iload hx hb dX0_bySequences_62 (lv_at hl 1 rfl) ?_
              refine lv_iconst (v := 1) hx hb dX0_bySequences_64 (by decide) ?_
              refine lv_iadd hx hb dX0_bySequences_65 ?_
              refine lv_ishr hx hb dX0_bySequences_66 ?_
              refine call_S (n := 1) (As := [.int (p1 >>> ((y5_20 + 1) &&& 31))]) (rest := []) hX hB (k_J6_bitCount_0f7a4 κ l (cw κ a r q f) (p1 >>> ((y5_20 + 1) &&& 31)) ) yk_J6_bitCount_0f7a4 wm_1_194 wm_1_195 wm_1_26 wm_1_196 ⟨Nat.le_of_ble_eq_true rfl, Nat.le_of_ble_eq_true rfl⟩ ⟨Nat.le_of_ble_eq_true rfl, Nat.le_of_ble_eq_true rfl⟩ rfl hl.1 rfl (Nat.le_of_ble_eq_true rfl) dX0_bySequences_67 (fun o w' H locs hp hB => ?_)
              obtain ⟨x29, rfl, ex29, hw9⟩ := hp
              replace hR := nm_use ex29 hR
              rw [hw9] at hB
              refine W.eq (g2 := F0 m 70 ls [.int x29]) rfl ?_
              refine lv_iconst (v := 2) hx hb dX0_bySequences_70 (by decide) ?_
              refine lv_irem hx hb dX0_bySequences_71 (by decide) ?_
              have jn80 : ∀ (z0_80 : Int32) (H : Heap) (locs : List Loc), (z0_80 = 0 ∨ z0_80 = 1) → D_X0_bySequences_3_j80 (D_X0_bySequences_3_20 r q f i p0 p1 nn20) y5_20 y3_20 x26 x28 z0_80 = o_x → Bd κ A s (cw κ a r q f) H locs → ∀ ls : Array Slot, lv_has ls 9 [(6, .long (x26 * x28)), (5, .int y5_20), (3, .long y3_20), (0, .ref (a (6 + 2 * i))), (1, .int p0), (2, .int p1)] → W p l e (Rm 3 84 0 0) s m args below meth c H locs 0 0 Q (F0 m 80 ls [.int z0_80]) := by
                intro z0_80 H locs hz0_80 hR hB ls hl
                replace hR := (D_X0_bySequences_3_j80_s).symm.trans hR
                refine lv_istore (lv' := [(8, .int z0_80), (6, .long (x26 * x28)), (5, .int y5_20), (3, .long y3_20), (0, .ref (a (6 + 2 * i))), (1, .int p0), (2, .int p1)]) hx hb dX0_bySequences_80 hl (by decide) rfl (fun ls hl => ?_)
                refine lv_lload_n hx hb dX0_bySequences_82 rfl (lv_at hl 3 rfl) ?_
                refine lv_iload hx hb dX0_bySequences_83 (lv_at hl 0 rfl) ?_
                refine lv_if_eq (tgt := 94) hx hb dX0_bySequences_85 (by decide) (fun c31 => ?_) (fun c31 => ?_)
                · replace hR := ifp c31 hR
                  refine lv_lload hx hb dX0_bySequences_94 (lv_at hl 1 rfl) ?_
                  refine lv_ladd hx hb dX0_bySequences_96 ?_
                  refine lv_lstore_n (lv' := [(3, .long (y3_20 + (x26 * x28))), (8, .int z0_80), (6, .long (x26 * x28)), (5, .int y5_20), (0, .ref (a (6 + 2 * i))), (1, .int p0), (2, .int p1)]) hx hb dX0_bySequences_97 rfl hl (by decide) rfl (fun ls hl => ?_)
                  refine lv_iinc (v := y5_20 + 1) (lv' := [(5, .int (y5_20 + 1)), (3, .long (y3_20 + (x26 * x28))), (8, .int z0_80), (6, .long (x26 * x28)), (0, .ref (a (6 + 2 * i))), (1, .int p0), (2, .int p1)]) hx hb dX0_bySequences_98 hl (k := 3) rfl rfl (by decide) rfl (fun ls hl => ?_)
                  refine lv_goto (tgt := 20) hx hb dX0_bySequences_101 (by decide) ?_
                  exact ih20 (y5_20 + 1) (y3_20 + (x26 * x28)) _ _  (gap_step c23 hμ20) hR hB _ (lv_sub hl [0, 1, 4, 5, 6] rfl)
                · replace hR := ifn c31 hR
                  refine lv_lload hx hb dX0_bySequences_88 (lv_at hl 1 rfl) ?_
                  refine lv_lneg hx hb dX0_bySequences_90 ?_
                  refine lv_goto (tgt := 96) hx hb dX0_bySequences_91 (by decide) ?_
                  refine lv_ladd hx hb dX0_bySequences_96 ?_
                  refine lv_lstore_n (lv' := [(3, .long (y3_20 + (-(x26 * x28)))), (8, .int z0_80), (6, .long (x26 * x28)), (5, .int y5_20), (0, .ref (a (6 + 2 * i))), (1, .int p0), (2, .int p1)]) hx hb dX0_bySequences_97 rfl hl (by decide) rfl (fun ls hl => ?_)
                  refine lv_iinc (v := y5_20 + 1) (lv' := [(5, .int (y5_20 + 1)), (3, .long (y3_20 + (-(x26 * x28)))), (8, .int z0_80), (6, .long (x26 * x28)), (0, .ref (a (6 + 2 * i))), (1, .int p0), (2, .int p1)]) hx hb dX0_bySequences_98 hl (k := 3) rfl rfl (by decide) rfl (fun ls hl => ?_)
                  refine lv_goto (tgt := 20) hx hb dX0_bySequences_101 (by decide) ?_
                  exact ih20 (y5_20 + 1) (y3_20 + (-(x26 * x28))) _ _  (gap_step c23 hμ20) hR hB _ (lv_sub hl [0, 1, 4, 5, 6] rfl)
              refine lv_if_eq (tgt := 79) hx hb dX0_bySequences_72 (by decide) (fun c32 => ?_) (fun c32 => ?_)
              · replace hR := ifp c32 hR
                refine lv_iconst (v := 0) hx hb dX0_bySequences_79 (by decide) ?_
                exact jn80 0 _ _ (Or.inl rfl) hR hB _ hl
              · replace hR := ifn c32 hR
                refine lv_iconst (v := 1) hx hb dX0_bySequences_75 (by decide) ?_
                refine lv_goto (tgt := 80) hx hb dX0_bySequences_76 (by decide) ?_
                exact jn80 1 _ _ (Or.inr rfl) hR hB _ hl
      exact lp20 _ 0 0 _ _  (Nat.lt_succ_self _) hR hB _ hl
    · replace hR := ifn c2 hR
      refine lv_lconst (v := 1) hx hb dX0_bySequences_13 (by decide) ?_
      rw [← hQ]
      exact end_l hX hB hA3 rfl (by obtain rfl := hR; exact ⟨rfl, rfl⟩) (Nat.le_of_ble_eq_true rfl) (Nat.le_of_ble_eq_true rfl) dX0_bySequences_14
noncomputable def D_X0_bySequences_4_j80 (lb20 : Int32 → Int64 → Int64) (y5_20 : Int32) (y3_20 : Int64) (x26 : Int64) (x28 : Int64) (z0_80 : Int32) : Int64 := (if z0_80 = 0 then (lb20 (y5_20 + 1) (y3_20 + (x26 * x28))) else (lb20 (y5_20 + 1) (y3_20 + (-(x26 * x28)))))
theorem D_X0_bySequences_4_j80_s {lb20 : Int32 → Int64 → Int64} {y5_20 : Int32} {y3_20 : Int64} {x26 : Int64} {x28 : Int64} {z0_80 : Int32} : D_X0_bySequences_4_j80 lb20 y5_20 y3_20 x26 x28 z0_80 = (if z0_80 = 0 then (lb20 (y5_20 + 1) (y3_20 + (x26 * x28))) else (lb20 (y5_20 + 1) (y3_20 + (-(x26 * x28))))) := rfl
noncomputable def D_X0_bySequences_4_20 (r : Nat → Int32) (q : Nat → Int32) (f : Nat → Nat → Int64) (i : Nat) (p0 : Int32) (p1 : Int32) (nn : Nat) : Int32 → Int64 → Int64 := @Nat.rec (fun _ => Int32 → Int64 → Int64) (fun _ _ => default) (fun _ lb20 (y5_20 : Int32) (y3_20 : Int64) => (if (r (2 * i + 1)) ≤ y5_20 then y3_20 else (if ((p1 >>> (y5_20 &&& 31)) &&& 1) = 0 then bnd1 (D_X3_get r q f i p0 y5_20) (fun (x26 : Int64) => bnd1 (D_X0_bySequences_3 r q f i (p0 + 1) (p1 ||| (1 <<< (y5_20 &&& 31)))) (fun (x28 : Int64) => nm ((bcE (p1 >>> ((y5_20 + 1) &&& 31))) : Int32) (fun (x29 : Int32) => (if (x29 - x29 / 2 * 2) = 0 then (D_X0_bySequences_4_j80 lb20 y5_20 y3_20 x26 x28 0) else (D_X0_bySequences_4_j80 lb20 y5_20 y3_20 x26 x28 1))))) else (lb20 (y5_20 + 1) y3_20)))) nn
theorem D_X0_bySequences_4_20_s {r : Nat → Int32} {q : Nat → Int32} {f : Nat → Nat → Int64} {i : Nat} {p0 : Int32} {p1 : Int32} {nn : Nat} {y5_20 : Int32} {y3_20 : Int64} : D_X0_bySequences_4_20 r q f i p0 p1 (nn + 1) y5_20 y3_20 = (if (r (2 * i + 1)) ≤ y5_20 then y3_20 else (if ((p1 >>> (y5_20 &&& 31)) &&& 1) = 0 then bnd1 (D_X3_get r q f i p0 y5_20) (fun (x26 : Int64) => bnd1 (D_X0_bySequences_3 r q f i (p0 + 1) (p1 ||| (1 <<< (y5_20 &&& 31)))) (fun (x28 : Int64) => nm ((bcE (p1 >>> ((y5_20 + 1) &&& 31))) : Int32) (fun (x29 : Int32) => (if (x29 - x29 / 2 * 2) = 0 then (D_X0_bySequences_4_j80 (D_X0_bySequences_4_20 r q f i p0 p1 nn) y5_20 y3_20 x26 x28 0) else (D_X0_bySequences_4_j80 (D_X0_bySequences_4_20 r q f i p0 p1 nn) y5_20 y3_20 x26 x28 1))))) else ((D_X0_bySequences_4_20 r q f i p0 p1 nn) (y5_20 + 1) y3_20))) := rfl
noncomputable def D_X0_bySequences_4 (r : Nat → Int32) (q : Nat → Int32) (f : Nat → Nat → Int64) (i : Nat) (p0 : Int32) (p1 : Int32) : Int64 := (if (r (2 * i)) ≤ p0 then 1 else (if p0 < 4 then (D_X0_bySequences_4_20 r q f i p0 p1 (gap (r (2 * i + 1)) 0 + 1) 0 0) else 1))
theorem D_X0_bySequences_4_s {r : Nat → Int32} {q : Nat → Int32} {f : Nat → Nat → Int64} {i : Nat} {p0 : Int32} {p1 : Int32} : D_X0_bySequences_4 r q f i p0 p1 = (if (r (2 * i)) ≤ p0 then 1 else (if p0 < 4 then (D_X0_bySequences_4_20 r q f i p0 p1 (gap (r (2 * i + 1)) 0 + 1) 0 0) else 1)) := rfl
set_option maxHeartbeats 4000000 in
set_option maxRecDepth 100000 in
theorem k_X0_bySequences_4 (κ : Kt) (l : Launch) (a : Nat → Nat) (r q : Nat → Int32) (f : Nat → Nat → Int64) (i : Nat) (p0 : Int32) (p1 : Int32) (hi : i < 15) (hp0 : 0 ≤ p0) (o_x : Int64) (hR : D_X0_bySequences_4 r q f i p0 p1 = o_x) : CM κ l yX0_bySequences cX0_bySequences 9 (some .long) 4 112 0 0 [.ref (a (6 + 2 * i)), .int p0, .int p1] (cw κ a r q f) (fun o w' => o = some (.long o_x) ∧ w' = cw κ a r q f) := by
  refine CM_begin (plainFor_of_name pn_RX0) (Nat.le_of_ble_eq_true rfl) ?_
  intro p e s m args below meth c A Q hX hnm hA3 hQ hB ls hl
  have hx := hX.1.1
  have hb := hX.1.2.1
  have hl : lv_has ls 9 [(0, .ref (a (6 + 2 * i))), (1, .int p0), (2, .int p1)] := hl
  replace hR := (D_X0_bySequences_4_s).symm.trans hR
  refine lv_iload_n hx hb dX0_bySequences_0 rfl (lv_at hl 1 rfl) ?_
  refine lv_aload_n hx hb dX0_bySequences_1 rfl (lv_at hl 0 rfl) ?_
  refine gfN hX hB (cwG (i := i) hi) rfl in3 1 (by decide) wn_1_47 rfl rfl dX0_bySequences_2 ?_
  refine lv_icmp_ge (tgt := 13) hx hb dX0_bySequences_5 (by decide) (fun c1 => ?_) (fun c1 => ?_)
  · replace hR := ifp c1 hR
    refine lv_lconst (v := 1) hx hb dX0_bySequences_13 (by decide) ?_
    rw [← hQ]
    exact end_l hX hB hA3 rfl (by obtain rfl := hR; exact ⟨rfl, rfl⟩) (Nat.le_of_ble_eq_true rfl) (Nat.le_of_ble_eq_true rfl) dX0_bySequences_14
  · replace hR := ifn c1 hR
    refine lv_iload_n hx hb dX0_bySequences_8 rfl (lv_at hl 1 rfl) ?_
    refine lv_iconst (v := 4) hx hb dX0_bySequences_9 (by decide) ?_
    refine lv_icmp_lt (tgt := 15) hx hb dX0_bySequences_10 (by decide) (fun c2 => ?_) (fun c2 => ?_)
    · replace hR := ifp c2 hR
      refine lv_lconst (v := 0) hx hb dX0_bySequences_15 (by decide) ?_
      refine lv_lstore_n (lv' := [(3, .long 0), (0, .ref (a (6 + 2 * i))), (1, .int p0), (2, .int p1)]) hx hb dX0_bySequences_16 rfl hl (by decide) rfl (fun ls hl => ?_)
      refine lv_iconst (v := 0) hx hb dX0_bySequences_17 (by decide) ?_
      refine lv_istore (lv' := [(5, .int 0), (3, .long 0), (0, .ref (a (6 + 2 * i))), (1, .int p0), (2, .int p1)]) hx hb dX0_bySequences_18 hl (by decide) rfl (fun ls hl => ?_)
      have lp20 : ∀ (nn20 : Nat) (y5_20 : Int32) (y3_20 : Int64) (H : Heap) (locs : List Loc), gap (r (2 * i + 1)) y5_20 < nn20 → D_X0_bySequences_4_20 r q f i p0 p1 nn20 y5_20 y3_20 = o_x → Bd κ A s (cw κ a r q f) H locs → ∀ ls : Array Slot, lv_has ls 9 [(5, .int y5_20), (3, .long y3_20), (0, .ref (a (6 + 2 * i))), (1, .int p0), (2, .int p1)] → W p l e (Rm 4 112 0 0) s m args below meth c H locs 0 0 Q (F0 m 20 ls []) := by
        intro nn20
        induction nn20 with
        | zero => intro y5_20 y3_20 H locs hμ; exact absurd hμ (Nat.not_lt_zero _)
        | succ nn20 ih20 =>
          intro y5_20 y3_20 H locs hμ20 hR hB ls hl
          replace hR := (D_X0_bySequences_4_20_s).symm.trans hR
          refine lv_iload hx hb dX0_bySequences_20 (lv_at hl 0 rfl) ?_
          refine lv_aload_n hx hb dX0_bySequences_22 rfl (lv_at hl 2 rfl) ?_
          refine gfN hX hB (cwG (i := i) hi) rfl in3 2 (by decide) wn_1_53 rfl rfl dX0_bySequences_23 ?_
          refine lv_icmp_ge (tgt := 104) hx hb dX0_bySequences_26 (by decide) (fun c23 => ?_) (fun c23 => ?_)
          · replace hR := ifp c23 hR
            refine lv_lload_n hx hb dX0_bySequences_104 rfl (lv_at hl 1 rfl) ?_
            rw [← hQ]
            exact end_l hX hB hA3 rfl (by obtain rfl := hR; exact ⟨rfl, rfl⟩) (Nat.le_of_ble_eq_true rfl) (Nat.le_of_ble_eq_true rfl) dX0_bySequences_105
          · replace hR := ifn c23 hR
            refine lv_iload_n hx hb dX0_bySequences_29 rfl (lv_at hl 4 rfl) ?_
            refine lv_iload hx hb dX0_bySequences_30 (lv_at hl 0 rfl) ?_
            refine lv_ishr hx hb dX0_bySequences_32 ?_
            refine lv_iconst (v := 1) hx hb dX0_bySequences_33 (by decide) ?_
            refine lv_iand hx hb dX0_bySequences_34 ?_
            refine lv_if_ne (tgt := 98) hx hb dX0_bySequences_35 (by decide) (fun c24 => ?_) (fun c24 => ?_)
            · replace hR := ifn c24 hR
              refine lv_iinc (v := y5_20 + 1) (lv' := [(5, .int (y5_20 + 1)), (3, .long y3_20), (0, .ref (a (6 + 2 * i))), (1, .int p0), (2, .int p1)]) hx hb dX0_bySequences_98 hl (k := 0) rfl rfl (by decide) rfl (fun ls hl => ?_)
              refine lv_goto (tgt := 20) hx hb dX0_bySequences_101 (by decide) ?_
              exact ih20 (y5_20 + 1) y3_20 _ _  (gap_step c23 hμ20) hR hB _ hl
            · replace hR := ifp c24 hR
              refine lv_aload_n hx hb dX0_bySequences_38 rfl (lv_at hl 2 rfl) ?_
              refine lv_iload_n hx hb dX0_bySequences_39 rfl (lv_at hl 3 rfl) ?_
              refine lv_iload hx hb dX0_bySequences_40 (lv_at hl 0 rfl) ?_
              obtain ⟨x26, hd25⟩ := ex1 (D_X3_get r q f i p0 y5_20)
              replace hR := bnd1_use hd25 hR
              refine call_V (n := 2) (As := [.int p0, .int y5_20]) (rest := []) hX hB (k_X3_get κ l a r q f i p0 y5_20 hi x26 hd25) ⟨rfl, yk_X3_get⟩ wm_1_186 wm_1_187 wm_1_188 wm_1_2 wm_1_189 ⟨Nat.le_of_ble_eq_true rfl, Nat.le_of_ble_eq_true rfl⟩ ⟨Nat.le_of_ble_eq_true rfl, Nat.le_of_ble_eq_true rfl⟩ (cwG (i := i) hi) rfl rfl rfl hl.1 rfl (Nat.le_of_ble_eq_true rfl) dX0_bySequences_42 (fun o w' H locs hp hB => ?_)
              obtain ⟨rfl, rfl⟩ := hp
              refine W.eq (g2 := F0 m 45 ls [.long x26]) rfl ?_
              refine lv_aload_n hx hb dX0_bySequences_45 rfl (lv_at hl 2 rfl) ?_
              refine lv_iload_n hx hb dX0_bySequences_46 rfl (lv_at hl 3 rfl) ?_
              refine lv_iconst (v := 1) hx hb dX0_bySequences_47 (by decide) ?_
              refine lv_iadd hx hb dX0_bySequences_48 ?_
              refine lv_iload_n hx hb dX0_bySequences_49 rfl (lv_at hl 4 rfl) ?_
              refine lv_iconst (v := 1) hx hb dX0_bySequences_50 (by decide) ?_
              refine lv_iload hx hb dX0_bySequences_51 (lv_at hl 0 rfl) ?_
              refine lv_ishl hx hb dX0_bySequences_53 ?_
              refine lv_ior hx hb dX0_bySequences_54 ?_
              obtain ⟨x28, hd27⟩ := ex1 (D_X0_bySequences_3 r q f i (p0 + 1) (p1 ||| (1 <<< (y5_20 &&& 31))))
              replace hR := bnd1_use hd27 hR
              refine call_S (n := 3) (As := [.ref (a (6 + 2 * i)), .int (p0 + 1), .int (p1 ||| (1 <<< (y5_20 &&& 31)))]) (rest := [.long x26]) hX hB (k_X0_bySequences_3 κ l a r q f i (p0 + 1) (p1 ||| (1 <<< (y5_20 &&& 31))) hi (lvup (lo := 0) (hi := 1) rfl hp0 (by assumption)) x28 hd27) yk_X0_bySequences wm_1_193 wm_1_191 wm_1_29 wm_1_192 ⟨Nat.le_of_ble_eq_true rfl, Nat.le_of_ble_eq_true rfl⟩ ⟨Nat.le_of_ble_eq_true rfl, Nat.le_of_ble_eq_true rfl⟩ rfl hl.1 rfl (Nat.le_of_ble_eq_true rfl) dX0_bySequences_55 (fun o w' H locs hp hB => ?_)
              obtain ⟨rfl, rfl⟩ := hp
              refine W.eq (g2 := F0 m 58 ls [.long x28, .long x26]) rfl ?_
              refine lv_lmul hx hb dX0_bySequences_58 ?_
              refine lv_lstore (lv' := [(6, .long (x26 * x28)), (5, .int y5_20), (3, .long y3_20), (0, .ref (a (6 + 2 * i))), (1, .int p0), (2, .int p1)]) hx hb dX0_bySequences_59 hl (by decide) rfl (fun ls hl => ?_)
              refine lv_iload_n hx hb dX0_bySequences_61 rfl (lv_at hl 5 rfl) ?_
              refine lv_iload hx hb dX0_bySequences_62 (lv_at hl 1 rfl) ?_
              refine lv_iconst (v := 1) hx hb dX0_bySequences_64 (by decide) ?_
              refine lv_iadd hx hb dX0_bySequences_65 ?_
              refine lv_ishr hx hb dX0_bySequences_66 ?_
              refine call_S (n := 1) (As := [.int (p1 >>> ((y5_20 + 1) &&& 31))]) (rest := []) hX hB (k_J6_bitCount_0f7a4 κ l (cw κ a r q f) (p1 >>> ((y5_20 + 1) &&& 31)) ) yk_J6_bitCount_0f7a4 wm_1_194 wm_1_195 wm_1_26 wm_1_196 ⟨Nat.le_of_ble_eq_true rfl, Nat.le_of_ble_eq_true rfl⟩ ⟨Nat.le_of_ble_eq_true rfl, Nat.le_of_ble_eq_true rfl⟩ rfl hl.1 rfl (Nat.le_of_ble_eq_true rfl) dX0_bySequences_67 (fun o w' H locs hp hB => ?_)
              obtain ⟨x29, rfl, ex29, hw9⟩ := hp
              replace hR := nm_use ex29 hR
              rw [hw9] at hB
              refine W.eq (g2 := F0 m 70 ls [.int x29]) rfl ?_
              refine lv_iconst (v := 2) hx hb dX0_bySequences_70 (by decide) ?_
              refine lv_irem hx hb dX0_bySequences_71 (by decide) ?_
              have jn80 : ∀ (z0_80 : Int32) (H : Heap) (locs : List Loc), (z0_80 = 0 ∨ z0_80 = 1) → D_X0_bySequences_4_j80 (D_X0_bySequences_4_20 r q f i p0 p1 nn20) y5_20 y3_20 x26 x28 z0_80 = o_x → Bd κ A s (cw κ a r q f) H locs → ∀ ls : Array Slot, lv_has ls 9 [(6, .long (x26 * x28)), (5, .int y5_20), (3, .long y3_20), (0, .ref (a (6 + 2 * i))), (1, .int p0), (2, .int p1)] → W p l e (Rm 4 112 0 0) s m args below meth c H locs 0 0 Q (F0 m 80 ls [.int z0_80]) := by
                intro z0_80 H locs hz0_80 hR hB ls hl
                replace hR := (D_X0_bySequences_4_j80_s).symm.trans hR
                refine lv_istore (lv' := [(8, .int z0_80), (6, .long (x26 * x28)), (5, .int y5_20), (3, .long y3_20), (0, .ref (a (6 + 2 * i))), (1, .int p0), (2, .int p1)]) hx hb dX0_bySequences_80 hl (by decide) rfl (fun ls hl => ?_)
                refine lv_lload_n hx hb dX0_bySequences_82 rfl (lv_at hl 3 rfl) ?_
                refine lv_iload hx hb dX0_bySequences_83 (lv_at hl 0 rfl) ?_
                refine lv_if_eq (tgt := 94) hx hb dX0_bySequences_85 (by decide) (fun c31 => ?_) (fun c31 => ?_)
                · replace hR := ifp c31 hR
                  refine lv_lload hx hb dX0_bySequences_94 (lv_at hl 1 rfl) ?_
                  refine lv_ladd hx hb dX0_bySequences_96 ?_
                  refine lv_lstore_n (lv' := [(3, .long (y3_20 + (x26 * x28))), (8, .int z0_80), (6, .long (x26 * x28)), (5, .int y5_20), (0, .ref (a (6 + 2 * i))), (1, .int p0), (2, .int p1)]) hx hb dX0_bySequences_97 rfl hl (by decide) rfl (fun ls hl => ?_)
                  refine lv_iinc (v := y5_20 + 1) (lv' := [(5, .int (y5_20 + 1)), (3, .long (y3_20 + (x26 * x28))), (8, .int z0_80), (6, .long (x26 * x28)), (0, .ref (a (6 + 2 * i))), (1, .int p0), (2, .int p1)]) hx hb dX0_bySequences_98 hl (k := 3) rfl rfl (by decide) rfl (fun ls hl => ?_)
                  refine lv_goto (tgt := 20) hx hb dX0_bySequences_101 (by decide) ?_
                  exact ih20 (y5_20 + 1) (y3_20 + (x26 * x28)) _ _  (gap_step c23 hμ20) hR hB _ (lv_sub hl [0, 1, 4, 5, 6] rfl)
                · replace hR := ifn c31 hR
                  refine lv_lload hx hb dX0_bySequences_88 (lv_at hl 1 rfl) ?_
                  refine lv_lneg hx hb dX0_bySequences_90 ?_
                  refine lv_goto (tgt := 96) hx hb dX0_bySequences_91 (by decide) ?_
                  refine lv_ladd hx hb dX0_bySequences_96 ?_
                  refine lv_lstore_n (lv' := [(3, .long (y3_20 + (-(x26 * x28)))), (8, .int z0_80), (6, .long (x26 * x28)), (5, .int y5_20), (0, .ref (a (6 + 2 * i))), (1, .int p0), (2, .int p1)]) hx hb dX0_bySequences_97 rfl hl (by decide) rfl (fun ls hl => ?_)
                  refine lv_iinc (v := y5_20 + 1) (lv' := [(5, .int (y5_20 + 1)), (3, .long (y3_20 + (-(x26 * x28)))), (8, .int z0_80), (6, .long (x26 * x28)), (0, .ref (a (6 + 2 * i))), (1, .int p0), (2, .int p1)]) hx hb dX0_bySequences_98 hl (k := 3) rfl rfl (by decide) rfl (fun ls hl => ?_)
                  refine lv_goto (tgt := 20) hx hb dX0_bySequences_101 (by decide) ?_
                  exact ih20 (y5_20 + 1) (y3_20 + (-(x26 * x28))) _ _  (gap_step c23 hμ20) hR hB _ (lv_sub hl [0, 1, 4, 5, 6] rfl)
              refine lv_if_eq (tgt := 79) hx hb dX0_bySequences_72 (by decide) (fun c32 => ?_) (fun c32 => ?_)
              · replace hR := ifp c32 hR
                refine lv_iconst (v := 0) hx hb dX0_bySequences_79 (by decide) ?_
                exact jn80 0 _ _ (Or.inl rfl) hR hB _ hl
              · replace hR := ifn c32 hR
                refine lv_iconst (v := 1) hx hb dX0_bySequences_75 (by decide) ?_
                refine lv_goto (tgt := 80) hx hb dX0_bySequences_76 (by decide) ?_
                exact jn80 1 _ _ (Or.inr rfl) hR hB _ hl
      exact lp20 _ 0 0 _ _  (Nat.lt_succ_self _) hR hB _ hl
    · replace hR := ifn c2 hR
      refine lv_lconst (v := 1) hx hb dX0_bySequences_13 (by decide) ?_
      rw [← hQ]
      exact end_l hX hB hA3 rfl (by obtain rfl := hR; exact ⟨rfl, rfl⟩) (Nat.le_of_ble_eq_true rfl) (Nat.le_of_ble_eq_true rfl) dX0_bySequences_14
noncomputable def D_X0_byFirstRow (r : Nat → Int32) (q : Nat → Int32) (f : Nat → Nat → Int64) (i : Nat) : Int64 := bnd1 (D_X0_ofRest_4 r q f i ((1 <<< ((r (2 * i)) &&& 31)) - 1) ((1 <<< ((r (2 * i + 1)) &&& 31)) - 1) 0) (fun (x2 : Int64) => x2)
theorem D_X0_byFirstRow_s {r : Nat → Int32} {q : Nat → Int32} {f : Nat → Nat → Int64} {i : Nat} : D_X0_byFirstRow r q f i = bnd1 (D_X0_ofRest_4 r q f i ((1 <<< ((r (2 * i)) &&& 31)) - 1) ((1 <<< ((r (2 * i + 1)) &&& 31)) - 1) 0) (fun (x2 : Int64) => x2) := rfl
set_option maxHeartbeats 4000000 in
set_option maxRecDepth 100000 in
theorem k_X0_byFirstRow (κ : Kt) (l : Launch) (a : Nat → Nat) (r q : Nat → Int32) (f : Nat → Nat → Int64) (i : Nat) (hi : i < 15) (o_x : Int64) (hR : D_X0_byFirstRow r q f i = o_x) : CM κ l yX0_byFirstRow cX0_byFirstRow 1 (some .long) 5 145 0 0 [.ref (a (6 + 2 * i))] (cw κ a r q f) (fun o w' => o = some (.long o_x) ∧ w' = cw κ a r q f) := by
  refine CM_begin (plainFor_of_name pn_RX0) (Nat.le_of_ble_eq_true rfl) ?_
  intro p e s m args below meth c A Q hX hnm hA3 hQ hB ls hl
  have hx := hX.1.1
  have hb := hX.1.2.1
  have hl : lv_has ls 1 [(0, .ref (a (6 + 2 * i)))] := hl
  replace hR := (D_X0_byFirstRow_s).symm.trans hR
  refine lv_aload_n hx hb dX0_byFirstRow_0 rfl (lv_at hl 0 rfl) ?_
  refine lv_iconst (v := 1) hx hb dX0_byFirstRow_1 (by decide) ?_
  refine lv_aload_n hx hb dX0_byFirstRow_2 rfl (lv_at hl 0 rfl) ?_
  refine gfN hX hB (cwG (i := i) hi) rfl in3 1 (by decide) wn_1_47 rfl rfl dX0_byFirstRow_3 ?_
  refine lv_ishl hx hb dX0_byFirstRow_6 ?_
  refine lv_iconst (v := 1) hx hb dX0_byFirstRow_7 (by decide) ?_
  refine lv_isub hx hb dX0_byFirstRow_8 ?_
  refine lv_iconst (v := 1) hx hb dX0_byFirstRow_9 (by decide) ?_
  refine lv_aload_n hx hb dX0_byFirstRow_10 rfl (lv_at hl 0 rfl) ?_
  refine gfN hX hB (cwG (i := i) hi) rfl in3 2 (by decide) wn_1_53 rfl rfl dX0_byFirstRow_11 ?_
  refine lv_ishl hx hb dX0_byFirstRow_14 ?_
  refine lv_iconst (v := 1) hx hb dX0_byFirstRow_15 (by decide) ?_
  refine lv_isub hx hb dX0_byFirstRow_16 ?_
  refine lv_iconst (v := 0) hx hb dX0_byFirstRow_17 (by decide) ?_
  obtain ⟨x2, hd1⟩ := ex1 (D_X0_ofRest_4 r q f i ((1 <<< ((r (2 * i)) &&& 31)) - 1) ((1 <<< ((r (2 * i + 1)) &&& 31)) - 1) 0)
  replace hR := bnd1_use hd1 hR
  refine call_S (n := 4) (As := [.ref (a (6 + 2 * i)), .int ((1 <<< ((r (2 * i)) &&& 31)) - 1), .int ((1 <<< ((r (2 * i + 1)) &&& 31)) - 1), .int 0]) (rest := []) hX hB (k_X0_ofRest_4 κ l a r q f i ((1 <<< ((r (2 * i)) &&& 31)) - 1) ((1 <<< ((r (2 * i + 1)) &&& 31)) - 1) 0 hi (by decide) x2 hd1) yk_X0_ofRest wm_1_183 wm_1_184 wm_1_29 wm_1_185 ⟨Nat.le_of_ble_eq_true rfl, Nat.le_of_ble_eq_true rfl⟩ ⟨Nat.le_of_ble_eq_true rfl, Nat.le_of_ble_eq_true rfl⟩ rfl hl.1 rfl (Nat.le_of_ble_eq_true rfl) dX0_byFirstRow_18 (fun o w' H locs hp hB => ?_)
  obtain ⟨rfl, rfl⟩ := hp
  refine W.eq (g2 := F0 m 21 ls [.long x2]) rfl ?_
  rw [← hQ]
  exact end_l hX hB hA3 rfl (by obtain rfl := hR; exact ⟨rfl, rfl⟩) (Nat.le_of_ble_eq_true rfl) (Nat.le_of_ble_eq_true rfl) dX0_byFirstRow_21
noncomputable def D_X0_findDivisor_35 (r : Nat → Int32) (q : Nat → Int32) (f : Nat → Nat → Int64) (i : Nat) (p0 : Int32) (lb5 : Int32 → Int64 → Int64) (y4_5 : Int32) (nn : Nat) : Int32 → Int64 → Int64 := @Nat.rec (fun _ => Int32 → Int64 → Int64) (fun _ _ => default) (fun _ lb35 (y6_35 : Int32) (y2_35 : Int64) => (if (0 : Int32) = 0 then (lb5 (y4_5 + 1) y2_35) else (if (1 <<< ((r (2 * i + 1)) &&& 31)) ≤ y6_35 then (lb5 (y4_5 + 1) y2_35) else nm ((bcE y6_35) : Int32) (fun (x124 : Int32) => (if x124 = p0 then bnd1 (D_X0_ofRest_4 r q f i y4_5 y6_35 0) (fun (x127 : Int64) => bnd1 (D_X5_greatestCommonDivisor y2_35 x127) (fun (x128 : Int64) => (lb35 (y6_35 + 1) x128))) else (lb35 (y6_35 + 1) y2_35)))))) nn
theorem D_X0_findDivisor_35_s {r : Nat → Int32} {q : Nat → Int32} {f : Nat → Nat → Int64} {i : Nat} {p0 : Int32} {lb5 : Int32 → Int64 → Int64} {y4_5 : Int32} {nn : Nat} {y6_35 : Int32} {y2_35 : Int64} : D_X0_findDivisor_35 r q f i p0 lb5 y4_5 (nn + 1) y6_35 y2_35 = (if (0 : Int32) = 0 then (lb5 (y4_5 + 1) y2_35) else (if (1 <<< ((r (2 * i + 1)) &&& 31)) ≤ y6_35 then (lb5 (y4_5 + 1) y2_35) else nm ((bcE y6_35) : Int32) (fun (x124 : Int32) => (if x124 = p0 then bnd1 (D_X0_ofRest_4 r q f i y4_5 y6_35 0) (fun (x127 : Int64) => bnd1 (D_X5_greatestCommonDivisor y2_35 x127) (fun (x128 : Int64) => ((D_X0_findDivisor_35 r q f i p0 lb5 y4_5 nn) (y6_35 + 1) x128))) else ((D_X0_findDivisor_35 r q f i p0 lb5 y4_5 nn) (y6_35 + 1) y2_35))))) := rfl
noncomputable def D_X0_findDivisor_35_1 (r : Nat → Int32) (q : Nat → Int32) (f : Nat → Nat → Int64) (i : Nat) (p0 : Int32) (lb5 : Int32 → Int64 → Int64) (y4_5 : Int32) (nn : Nat) : Int32 → Int64 → Int64 := @Nat.rec (fun _ => Int32 → Int64 → Int64) (fun _ _ => default) (fun _ lb35 (y6_35 : Int32) (y2_35 : Int64) => (if (1 : Int32) = 0 then (lb5 (y4_5 + 1) y2_35) else (if (1 <<< ((r (2 * i + 1)) &&& 31)) ≤ y6_35 then (lb5 (y4_5 + 1) y2_35) else nm ((bcE y6_35) : Int32) (fun (x148 : Int32) => (if x148 = p0 then bnd1 (D_X0_ofRest_4 r q f i y4_5 y6_35 0) (fun (x151 : Int64) => bnd1 (D_X5_greatestCommonDivisor y2_35 x151) (fun (x152 : Int64) => (lb35 (y6_35 + 1) x152))) else (lb35 (y6_35 + 1) y2_35)))))) nn
theorem D_X0_findDivisor_35_1_s {r : Nat → Int32} {q : Nat → Int32} {f : Nat → Nat → Int64} {i : Nat} {p0 : Int32} {lb5 : Int32 → Int64 → Int64} {y4_5 : Int32} {nn : Nat} {y6_35 : Int32} {y2_35 : Int64} : D_X0_findDivisor_35_1 r q f i p0 lb5 y4_5 (nn + 1) y6_35 y2_35 = (if (1 : Int32) = 0 then (lb5 (y4_5 + 1) y2_35) else (if (1 <<< ((r (2 * i + 1)) &&& 31)) ≤ y6_35 then (lb5 (y4_5 + 1) y2_35) else nm ((bcE y6_35) : Int32) (fun (x148 : Int32) => (if x148 = p0 then bnd1 (D_X0_ofRest_4 r q f i y4_5 y6_35 0) (fun (x151 : Int64) => bnd1 (D_X5_greatestCommonDivisor y2_35 x151) (fun (x152 : Int64) => ((D_X0_findDivisor_35_1 r q f i p0 lb5 y4_5 nn) (y6_35 + 1) x152))) else ((D_X0_findDivisor_35_1 r q f i p0 lb5 y4_5 nn) (y6_35 + 1) y2_35))))) := rfl
noncomputable def D_X0_findDivisor_5 (r : Nat → Int32) (q : Nat → Int32) (f : Nat → Nat → Int64) (i : Nat) (p0 : Int32) (nn : Nat) : Int32 → Int64 → Int64 := @Nat.rec (fun _ => Int32 → Int64 → Int64) (fun _ _ => default) (fun _ lb5 (y4_5 : Int32) (y2_5 : Int64) => (if (1 <<< ((r (2 * i)) &&& 31)) ≤ y4_5 then y2_5 else nm ((bcE y4_5) : Int32) (fun (x104 : Int32) => (if x104 = p0 then (D_X0_findDivisor_35_1 r q f i p0 lb5 y4_5 (gap (1 <<< ((r (2 * i + 1)) &&& 31)) 0 + 1) 0 y2_5) else (D_X0_findDivisor_35 r q f i p0 lb5 y4_5 (gap (1 <<< ((r (2 * i + 1)) &&& 31)) 0 + 1) 0 y2_5))))) nn
theorem D_X0_findDivisor_5_s {r : Nat → Int32} {q : Nat → Int32} {f : Nat → Nat → Int64} {i : Nat} {p0 : Int32} {nn : Nat} {y4_5 : Int32} {y2_5 : Int64} : D_X0_findDivisor_5 r q f i p0 (nn + 1) y4_5 y2_5 = (if (1 <<< ((r (2 * i)) &&& 31)) ≤ y4_5 then y2_5 else nm ((bcE y4_5) : Int32) (fun (x104 : Int32) => (if x104 = p0 then (D_X0_findDivisor_35_1 r q f i p0 (D_X0_findDivisor_5 r q f i p0 nn) y4_5 (gap (1 <<< ((r (2 * i + 1)) &&& 31)) 0 + 1) 0 y2_5) else (D_X0_findDivisor_35 r q f i p0 (D_X0_findDivisor_5 r q f i p0 nn) y4_5 (gap (1 <<< ((r (2 * i + 1)) &&& 31)) 0 + 1) 0 y2_5)))) := rfl
noncomputable def D_X0_findDivisor (r : Nat → Int32) (q : Nat → Int32) (f : Nat → Nat → Int64) (i : Nat) (p0 : Int32) : Int64 := (D_X0_findDivisor_5 r q f i p0 (gap (1 <<< ((r (2 * i)) &&& 31)) 0 + 1) 0 0)
theorem D_X0_findDivisor_s {r : Nat → Int32} {q : Nat → Int32} {f : Nat → Nat → Int64} {i : Nat} {p0 : Int32} : D_X0_findDivisor r q f i p0 = (D_X0_findDivisor_5 r q f i p0 (gap (1 <<< ((r (2 * i)) &&& 31)) 0 + 1) 0 0) := rfl
set_option maxHeartbeats 4000000 in
set_option maxRecDepth 100000 in
theorem k_X0_findDivisor (κ : Kt) (l : Launch) (a : Nat → Nat) (r q : Nat → Int32) (f : Nat → Nat → Int64) (i : Nat) (p0 : Int32) (hi : i < 15) (o_x : Int64) (hR : D_X0_findDivisor r q f i p0 = o_x) : CM κ l yX0_findDivisor cX0_findDivisor 7 (some .long) 5 145 0 0 [.ref (a (6 + 2 * i)), .int p0] (cw κ a r q f) (fun o w' => o = some (.long o_x) ∧ w' = cw κ a r q f) := by
  refine CM_begin (plainFor_of_name pn_RX0) (Nat.le_of_ble_eq_true rfl) ?_
  intro p e s m args below meth c A Q hX hnm hA3 hQ hB ls hl
  have hx := hX.1.1
  have hb := hX.1.2.1
  have hl : lv_has ls 7 [(0, .ref (a (6 + 2 * i))), (1, .int p0)] := hl
  replace hR := (D_X0_findDivisor_s).symm.trans hR
  refine lv_lconst (v := 0) hx hb dX0_findDivisor_0 (by decide) ?_
  refine lv_lstore_n (lv' := [(2, .long 0), (0, .ref (a (6 + 2 * i))), (1, .int p0)]) hx hb dX0_findDivisor_1 rfl hl (by decide) rfl (fun ls hl => ?_)
  refine lv_iconst (v := 0) hx hb dX0_findDivisor_2 (by decide) ?_
  refine lv_istore (lv' := [(4, .int 0), (2, .long 0), (0, .ref (a (6 + 2 * i))), (1, .int p0)]) hx hb dX0_findDivisor_3 hl (by decide) rfl (fun ls hl => ?_)
  have lp5 : ∀ (nn5 : Nat) (y4_5 : Int32) (y2_5 : Int64) (H : Heap) (locs : List Loc), gap (1 <<< ((r (2 * i)) &&& 31)) y4_5 < nn5 → D_X0_findDivisor_5 r q f i p0 nn5 y4_5 y2_5 = o_x → Bd κ A s (cw κ a r q f) H locs → ∀ ls : Array Slot, lv_has ls 7 [(4, .int y4_5), (2, .long y2_5), (0, .ref (a (6 + 2 * i))), (1, .int p0)] → W p l e (Rm 5 145 0 0) s m args below meth c H locs 0 0 Q (F0 m 5 ls []) := by
    intro nn5
    induction nn5 with
    | zero => intro y4_5 y2_5 H locs hμ; exact absurd hμ (Nat.not_lt_zero _)
    | succ nn5 ih5 =>
      intro y4_5 y2_5 H locs hμ5 hR hB ls hl
      replace hR := (D_X0_findDivisor_5_s).symm.trans hR
      refine lv_iload hx hb dX0_findDivisor_5 (lv_at hl 0 rfl) ?_
      refine lv_iconst (v := 1) hx hb dX0_findDivisor_7 (by decide) ?_
      refine lv_aload_n hx hb dX0_findDivisor_8 rfl (lv_at hl 2 rfl) ?_
      refine gfN hX hB (cwG (i := i) hi) rfl in3 1 (by decide) wn_1_47 rfl rfl dX0_findDivisor_9 ?_
      refine lv_ishl hx hb dX0_findDivisor_12 ?_
      refine lv_icmp_ge (tgt := 86) hx hb dX0_findDivisor_13 (by decide) (fun c103 => ?_) (fun c103 => ?_)
      · replace hR := ifp c103 hR
        refine lv_lload_n hx hb dX0_findDivisor_86 rfl (lv_at hl 1 rfl) ?_
        rw [← hQ]
        exact end_l hX hB hA3 rfl (by obtain rfl := hR; exact ⟨rfl, rfl⟩) (Nat.le_of_ble_eq_true rfl) (Nat.le_of_ble_eq_true rfl) dX0_findDivisor_87
      · replace hR := ifn c103 hR
        refine lv_iload hx hb dX0_findDivisor_16 (lv_at hl 0 rfl) ?_
        refine call_S (n := 1) (As := [.int y4_5]) (rest := []) hX hB (k_J6_bitCount_0f7a4 κ l (cw κ a r q f) y4_5 ) yk_J6_bitCount_0f7a4 wm_1_194 wm_1_195 wm_1_26 wm_1_196 ⟨Nat.le_of_ble_eq_true rfl, Nat.le_of_ble_eq_true rfl⟩ ⟨Nat.le_of_ble_eq_true rfl, Nat.le_of_ble_eq_true rfl⟩ rfl hl.1 rfl (Nat.le_of_ble_eq_true rfl) dX0_findDivisor_18 (fun o w' H locs hp hB => ?_)
        obtain ⟨x104, rfl, ex104, hw9⟩ := hp
        replace hR := nm_use ex104 hR
        rw [hw9] at hB
        refine W.eq (g2 := F0 m 21 ls [.int x104]) rfl ?_
        refine lv_iload_n hx hb dX0_findDivisor_21 rfl (lv_at hl 3 rfl) ?_
        refine lv_icmp_ne (tgt := 29) hx hb dX0_findDivisor_22 (by decide) (fun c105 => ?_) (fun c105 => ?_)
        · replace hR := ifn c105 hR
          refine lv_iconst (v := 0) hx hb dX0_findDivisor_29 (by decide) ?_
          refine lv_istore (lv' := [(5, .int 0), (4, .int y4_5), (2, .long y2_5), (0, .ref (a (6 + 2 * i))), (1, .int p0)]) hx hb dX0_findDivisor_30 hl (by decide) rfl (fun ls hl => ?_)
          refine lv_iconst (v := 0) hx hb dX0_findDivisor_32 (by decide) ?_
          refine lv_istore (lv' := [(6, .int 0), (5, .int 0), (4, .int y4_5), (2, .long y2_5), (0, .ref (a (6 + 2 * i))), (1, .int p0)]) hx hb dX0_findDivisor_33 hl (by decide) rfl (fun ls hl => ?_)
          have lp35 : ∀ (nn35 : Nat) (y6_35 : Int32) (y2_35 : Int64) (H : Heap) (locs : List Loc), gap (1 <<< ((r (2 * i + 1)) &&& 31)) y6_35 < nn35 → D_X0_findDivisor_35 r q f i p0 (D_X0_findDivisor_5 r q f i p0 nn5) y4_5 nn35 y6_35 y2_35 = o_x → Bd κ A s (cw κ a r q f) H locs → ∀ ls : Array Slot, lv_has ls 7 [(6, .int y6_35), (5, .int 0), (4, .int y4_5), (2, .long y2_35), (0, .ref (a (6 + 2 * i))), (1, .int p0)] → W p l e (Rm 5 145 0 0) s m args below meth c H locs 0 0 Q (F0 m 35 ls []) := by
            intro nn35
            induction nn35 with
            | zero => intro y6_35 y2_35 H locs hμ; exact absurd hμ (Nat.not_lt_zero _)
            | succ nn35 ih35 =>
              intro y6_35 y2_35 H locs hμ35 hR hB ls hl
              replace hR := (D_X0_findDivisor_35_s).symm.trans hR
              refine lv_iload hx hb dX0_findDivisor_35 (lv_at hl 1 rfl) ?_
              refine lv_if_eq (tgt := 80) hx hb dX0_findDivisor_37 (by decide) (fun c122 => ?_) (fun c122 => ?_)
              · replace hR := ifp c122 hR
                refine lv_iinc (v := y4_5 + 1) (lv' := [(4, .int (y4_5 + 1)), (6, .int y6_35), (5, .int 0), (2, .long y2_35), (0, .ref (a (6 + 2 * i))), (1, .int p0)]) hx hb dX0_findDivisor_80 hl (k := 2) rfl rfl (by decide) rfl (fun ls hl => ?_)
                refine lv_goto (tgt := 5) hx hb dX0_findDivisor_83 (by decide) ?_
                exact ih5 (y4_5 + 1) y2_35 _ _  (gap_step c103 hμ5) hR hB _ (lv_sub hl [0, 3, 4, 5] rfl)
              · replace hR := ifn c122 hR
                refine lv_iload hx hb dX0_findDivisor_40 (lv_at hl 0 rfl) ?_
                refine lv_iconst (v := 1) hx hb dX0_findDivisor_42 (by decide) ?_
                refine lv_aload_n hx hb dX0_findDivisor_43 rfl (lv_at hl 4 rfl) ?_
                refine gfN hX hB (cwG (i := i) hi) rfl in3 2 (by decide) wn_1_53 rfl rfl dX0_findDivisor_44 ?_
                refine lv_ishl hx hb dX0_findDivisor_47 ?_
                refine lv_icmp_ge (tgt := 80) hx hb dX0_findDivisor_48 (by decide) (fun c123 => ?_) (fun c123 => ?_)
                · replace hR := ifp c123 hR
                  refine lv_iinc (v := y4_5 + 1) (lv' := [(4, .int (y4_5 + 1)), (6, .int y6_35), (5, .int 0), (2, .long y2_35), (0, .ref (a (6 + 2 * i))), (1, .int p0)]) hx hb dX0_findDivisor_80 hl (k := 2) rfl rfl (by decide) rfl (fun ls hl => ?_)
                  refine lv_goto (tgt := 5) hx hb dX0_findDivisor_83 (by decide) ?_
                  exact ih5 (y4_5 + 1) y2_35 _ _  (gap_step c103 hμ5) hR hB _ (lv_sub hl [0, 3, 4, 5] rfl)
                · replace hR := ifn c123 hR
                  refine lv_iload hx hb dX0_findDivisor_51 (lv_at hl 0 rfl) ?_
                  refine call_S (n := 1) (As := [.int y6_35]) (rest := []) hX hB (k_J6_bitCount_0f7a4 κ l (cw κ a r q f) y6_35 ) yk_J6_bitCount_0f7a4 wm_1_194 wm_1_195 wm_1_26 wm_1_196 ⟨Nat.le_of_ble_eq_true rfl, Nat.le_of_ble_eq_true rfl⟩ ⟨Nat.le_of_ble_eq_true rfl, Nat.le_of_ble_eq_true rfl⟩ rfl hl.1 rfl (Nat.le_of_ble_eq_true rfl) dX0_findDivisor_53 (fun o w' H locs hp hB => ?_)
                  obtain ⟨x124, rfl, ex124, hw9⟩ := hp
                  replace hR := nm_use ex124 hR
                  rw [hw9] at hB
                  refine W.eq (g2 := F0 m 56 ls [.int x124]) rfl ?_
                  refine lv_iload_n hx hb dX0_findDivisor_56 rfl (lv_at hl 5 rfl) ?_
                  refine lv_icmp_ne (tgt := 74) hx hb dX0_findDivisor_57 (by decide) (fun c125 => ?_) (fun c125 => ?_)
                  · replace hR := ifn c125 hR
                    refine lv_iinc (v := y6_35 + 1) (lv' := [(6, .int (y6_35 + 1)), (5, .int 0), (4, .int y4_5), (2, .long y2_35), (0, .ref (a (6 + 2 * i))), (1, .int p0)]) hx hb dX0_findDivisor_74 hl (k := 0) rfl rfl (by decide) rfl (fun ls hl => ?_)
                    refine lv_goto (tgt := 35) hx hb dX0_findDivisor_77 (by decide) ?_
                    exact ih35 (y6_35 + 1) y2_35 _ _  (gap_step c123 hμ35) hR hB _ hl
                  · replace hR := ifp c125 hR
                    refine lv_lload_n hx hb dX0_findDivisor_60 rfl (lv_at hl 3 rfl) ?_
                    refine lv_aload_n hx hb dX0_findDivisor_61 rfl (lv_at hl 4 rfl) ?_
                    refine lv_iload hx hb dX0_findDivisor_62 (lv_at hl 2 rfl) ?_
                    refine lv_iload hx hb dX0_findDivisor_64 (lv_at hl 0 rfl) ?_
                    refine lv_iconst (v := 0) hx hb dX0_findDivisor_66 (by decide) ?_
                    obtain ⟨x127, hd126⟩ := ex1 (D_X0_ofRest_4 r q f i y4_5 y6_35 0)
                    replace hR := bnd1_use hd126 hR
                    refine call_S (n := 4) (As := [.ref (a (6 + 2 * i)), .int y4_5, .int y6_35, .int 0]) (rest := [.long y2_35]) hX hB (k_X0_ofRest_4 κ l a r q f i y4_5 y6_35 0 hi (by decide) x127 hd126) yk_X0_ofRest wm_1_183 wm_1_184 wm_1_29 wm_1_185 ⟨Nat.le_of_ble_eq_true rfl, Nat.le_of_ble_eq_true rfl⟩ ⟨Nat.le_of_ble_eq_true rfl, Nat.le_of_ble_eq_true rfl⟩ rfl hl.1 rfl (Nat.le_of_ble_eq_true rfl) dX0_findDivisor_67 (fun o w' H locs hp hB => ?_)
                    obtain ⟨rfl, rfl⟩ := hp
                    refine W.eq (g2 := F0 m 70 ls [.long x127, .long y2_35]) rfl ?_
                    obtain ⟨x128, hd129⟩ := ex1 (D_X5_greatestCommonDivisor y2_35 x127)
                    replace hR := bnd1_use hd129 hR
                    refine call_SN (n := 2) (As := [.long y2_35, .long x127]) (rest := []) hX hB (k_X5_greatestCommonDivisor κ l (cw κ a r q f) y2_35 x127  x128 hd129) yk_X5_greatestCommonDivisor wn_2_58 wm_2_59 wm_1_1 wm_2_60 ⟨Nat.le_of_ble_eq_true rfl, Nat.le_of_ble_eq_true rfl⟩ ⟨Nat.le_of_ble_eq_true rfl, Nat.le_of_ble_eq_true rfl⟩ rfl hl.1 rfl (Nat.le_of_ble_eq_true rfl) dX0_findDivisor_70 (fun o w' H locs hp hB => ?_)
                    obtain ⟨rfl, hw9⟩ := hp
                    rw [hw9] at hB
                    refine W.eq (g2 := F0 m 73 ls [.long x128]) rfl ?_
                    refine lv_lstore_n (lv' := [(2, .long x128), (6, .int y6_35), (5, .int 0), (4, .int y4_5), (0, .ref (a (6 + 2 * i))), (1, .int p0)]) hx hb dX0_findDivisor_73 rfl hl (by decide) rfl (fun ls hl => ?_)
                    refine lv_iinc (v := y6_35 + 1) (lv' := [(6, .int (y6_35 + 1)), (2, .long x128), (5, .int 0), (4, .int y4_5), (0, .ref (a (6 + 2 * i))), (1, .int p0)]) hx hb dX0_findDivisor_74 hl (k := 1) rfl rfl (by decide) rfl (fun ls hl => ?_)
                    refine lv_goto (tgt := 35) hx hb dX0_findDivisor_77 (by decide) ?_
                    exact ih35 (y6_35 + 1) x128 _ _  (gap_step c123 hμ35) hR hB _ (lv_sub hl [0, 2, 3, 1, 4, 5] rfl)
          exact lp35 _ 0 y2_5 _ _  (Nat.lt_succ_self _) hR hB _ hl
        · replace hR := ifp c105 hR
          refine lv_iconst (v := 1) hx hb dX0_findDivisor_25 (by decide) ?_
          refine lv_goto (tgt := 30) hx hb dX0_findDivisor_26 (by decide) ?_
          refine lv_istore (lv' := [(5, .int 1), (4, .int y4_5), (2, .long y2_5), (0, .ref (a (6 + 2 * i))), (1, .int p0)]) hx hb dX0_findDivisor_30 hl (by decide) rfl (fun ls hl => ?_)
          refine lv_iconst (v := 0) hx hb dX0_findDivisor_32 (by decide) ?_
          refine lv_istore (lv' := [(6, .int 0), (5, .int 1), (4, .int y4_5), (2, .long y2_5), (0, .ref (a (6 + 2 * i))), (1, .int p0)]) hx hb dX0_findDivisor_33 hl (by decide) rfl (fun ls hl => ?_)
          have lp35 : ∀ (nn35 : Nat) (y6_35 : Int32) (y2_35 : Int64) (H : Heap) (locs : List Loc), gap (1 <<< ((r (2 * i + 1)) &&& 31)) y6_35 < nn35 → D_X0_findDivisor_35_1 r q f i p0 (D_X0_findDivisor_5 r q f i p0 nn5) y4_5 nn35 y6_35 y2_35 = o_x → Bd κ A s (cw κ a r q f) H locs → ∀ ls : Array Slot, lv_has ls 7 [(6, .int y6_35), (5, .int 1), (4, .int y4_5), (2, .long y2_35), (0, .ref (a (6 + 2 * i))), (1, .int p0)] → W p l e (Rm 5 145 0 0) s m args below meth c H locs 0 0 Q (F0 m 35 ls []) := by
            intro nn35
            induction nn35 with
            | zero => intro y6_35 y2_35 H locs hμ; exact absurd hμ (Nat.not_lt_zero _)
            | succ nn35 ih35 =>
              intro y6_35 y2_35 H locs hμ35 hR hB ls hl
              replace hR := (D_X0_findDivisor_35_1_s).symm.trans hR
              refine lv_iload hx hb dX0_findDivisor_35 (lv_at hl 1 rfl) ?_
              refine lv_if_eq (tgt := 80) hx hb dX0_findDivisor_37 (by decide) (fun c146 => ?_) (fun c146 => ?_)
              · replace hR := ifp c146 hR
                refine lv_iinc (v := y4_5 + 1) (lv' := [(4, .int (y4_5 + 1)), (6, .int y6_35), (5, .int 1), (2, .long y2_35), (0, .ref (a (6 + 2 * i))), (1, .int p0)]) hx hb dX0_findDivisor_80 hl (k := 2) rfl rfl (by decide) rfl (fun ls hl => ?_)
                refine lv_goto (tgt := 5) hx hb dX0_findDivisor_83 (by decide) ?_
                exact ih5 (y4_5 + 1) y2_35 _ _  (gap_step c103 hμ5) hR hB _ (lv_sub hl [0, 3, 4, 5] rfl)
              · replace hR := ifn c146 hR
                refine lv_iload hx hb dX0_findDivisor_40 (lv_at hl 0 rfl) ?_
                refine lv_iconst (v := 1) hx hb dX0_findDivisor_42 (by decide) ?_
                refine lv_aload_n hx hb dX0_findDivisor_43 rfl (lv_at hl 4 rfl) ?_
                refine gfN hX hB (cwG (i := i) hi) rfl in3 2 (by decide) wn_1_53 rfl rfl dX0_findDivisor_44 ?_
                refine lv_ishl hx hb dX0_findDivisor_47 ?_
                refine lv_icmp_ge (tgt := 80) hx hb dX0_findDivisor_48 (by decide) (fun c147 => ?_) (fun c147 => ?_)
                · replace hR := ifp c147 hR
                  refine lv_iinc (v := y4_5 + 1) (lv' := [(4, .int (y4_5 + 1)), (6, .int y6_35), (5, .int 1), (2, .long y2_35), (0, .ref (a (6 + 2 * i))), (1, .int p0)]) hx hb dX0_findDivisor_80 hl (k := 2) rfl rfl (by decide) rfl (fun ls hl => ?_)
                  refine lv_goto (tgt := 5) hx hb dX0_findDivisor_83 (by decide) ?_
                  exact ih5 (y4_5 + 1) y2_35 _ _  (gap_step c103 hμ5) hR hB _ (lv_sub hl [0, 3, 4, 5] rfl)
                · replace hR := ifn c147 hR
                  refine lv_iload hx hb dX0_findDivisor_51 (lv_at hl 0 rfl) ?_
                  refine call_S (n := 1) (As := [.int y6_35]) (rest := []) hX hB (k_J6_bitCount_0f7a4 κ l (cw κ a r q f) y6_35 ) yk_J6_bitCount_0f7a4 wm_1_194 wm_1_195 wm_1_26 wm_1_196 ⟨Nat.le_of_ble_eq_true rfl, Nat.le_of_ble_eq_true rfl⟩ ⟨Nat.le_of_ble_eq_true rfl, Nat.le_of_ble_eq_true rfl⟩ rfl hl.1 rfl (Nat.le_of_ble_eq_true rfl) dX0_findDivisor_53 (fun o w' H locs hp hB => ?_)
                  obtain ⟨x148, rfl, ex148, hw9⟩ := hp
                  replace hR := nm_use ex148 hR
                  rw [hw9] at hB
                  refine W.eq (g2 := F0 m 56 ls [.int x148]) rfl ?_
                  refine lv_iload_n hx hb dX0_findDivisor_56 rfl (lv_at hl 5 rfl) ?_
                  refine lv_icmp_ne (tgt := 74) hx hb dX0_findDivisor_57 (by decide) (fun c149 => ?_) (fun c149 => ?_)
                  · replace hR := ifn c149 hR
                    refine lv_iinc (v := y6_35 + 1) (lv' := [(6, .int (y6_35 + 1)), (5, .int 1), (4, .int y4_5), (2, .long y2_35), (0, .ref (a (6 + 2 * i))), (1, .int p0)]) hx hb dX0_findDivisor_74 hl (k := 0) rfl rfl (by decide) rfl (fun ls hl => ?_)
                    refine lv_goto (tgt := 35) hx hb dX0_findDivisor_77 (by decide) ?_
                    exact ih35 (y6_35 + 1) y2_35 _ _  (gap_step c147 hμ35) hR hB _ hl
                  · replace hR := ifp c149 hR
                    refine lv_lload_n hx hb dX0_findDivisor_60 rfl (lv_at hl 3 rfl) ?_
                    refine lv_aload_n hx hb dX0_findDivisor_61 rfl (lv_at hl 4 rfl) ?_
                    refine lv_iload hx hb dX0_findDivisor_62 (lv_at hl 2 rfl) ?_
                    refine lv_iload hx hb dX0_findDivisor_64 (lv_at hl 0 rfl) ?_
                    refine lv_iconst (v := 0) hx hb dX0_findDivisor_66 (by decide) ?_
                    obtain ⟨x151, hd150⟩ := ex1 (D_X0_ofRest_4 r q f i y4_5 y6_35 0)
                    replace hR := bnd1_use hd150 hR
                    refine call_S (n := 4) (As := [.ref (a (6 + 2 * i)), .int y4_5, .int y6_35, .int 0]) (rest := [.long y2_35]) hX hB (k_X0_ofRest_4 κ l a r q f i y4_5 y6_35 0 hi (by decide) x151 hd150) yk_X0_ofRest wm_1_183 wm_1_184 wm_1_29 wm_1_185 ⟨Nat.le_of_ble_eq_true rfl, Nat.le_of_ble_eq_true rfl⟩ ⟨Nat.le_of_ble_eq_true rfl, Nat.le_of_ble_eq_true rfl⟩ rfl hl.1 rfl (Nat.le_of_ble_eq_true rfl) dX0_findDivisor_67 (fun o w' H locs hp hB => ?_)
                    obtain ⟨rfl, rfl⟩ := hp
                    refine W.eq (g2 := F0 m 70 ls [.long x151, .long y2_35]) rfl ?_
                    obtain ⟨x152, hd153⟩ := ex1 (D_X5_greatestCommonDivisor y2_35 x151)
                    replace hR := bnd1_use hd153 hR
                    refine call_SN (n := 2) (As := [.long y2_35, .long x151]) (rest := []) hX hB (k_X5_greatestCommonDivisor κ l (cw κ a r q f) y2_35 x151  x152 hd153) yk_X5_greatestCommonDivisor wn_2_58 wm_2_59 wm_1_1 wm_2_60 ⟨Nat.le_of_ble_eq_true rfl, Nat.le_of_ble_eq_true rfl⟩ ⟨Nat.le_of_ble_eq_true rfl, Nat.le_of_ble_eq_true rfl⟩ rfl hl.1 rfl (Nat.le_of_ble_eq_true rfl) dX0_findDivisor_70 (fun o w' H locs hp hB => ?_)
                    obtain ⟨rfl, hw9⟩ := hp
                    rw [hw9] at hB
                    refine W.eq (g2 := F0 m 73 ls [.long x152]) rfl ?_
                    refine lv_lstore_n (lv' := [(2, .long x152), (6, .int y6_35), (5, .int 1), (4, .int y4_5), (0, .ref (a (6 + 2 * i))), (1, .int p0)]) hx hb dX0_findDivisor_73 rfl hl (by decide) rfl (fun ls hl => ?_)
                    refine lv_iinc (v := y6_35 + 1) (lv' := [(6, .int (y6_35 + 1)), (2, .long x152), (5, .int 1), (4, .int y4_5), (0, .ref (a (6 + 2 * i))), (1, .int p0)]) hx hb dX0_findDivisor_74 hl (k := 1) rfl rfl (by decide) rfl (fun ls hl => ?_)
                    refine lv_goto (tgt := 35) hx hb dX0_findDivisor_77 (by decide) ?_
                    exact ih35 (y6_35 + 1) x152 _ _  (gap_step c147 hμ35) hR hB _ (lv_sub hl [0, 2, 3, 1, 4, 5] rfl)
          exact lp35 _ 0 y2_5 _ _  (Nat.lt_succ_self _) hR hB _ hl
  exact lp5 _ 0 0 _ _  (Nat.lt_succ_self _) hR hB _ hl
noncomputable def D_X0_findRank_4 (r : Nat → Int32) (q : Nat → Int32) (f : Nat → Nat → Int64) (i : Nat) (nn : Nat) : Int32 → Int32 → Int32 := @Nat.rec (fun _ => Int32 → Int32 → Int32) (fun _ _ => default) (fun _ lb4 (y2_4 : Int32) (y1_4 : Int32) => (if (r (2 * i)) < y2_4 then y1_4 else (if (r (2 * i + 1)) < y2_4 then y1_4 else bnd1 (D_X0_findDivisor r q f i y2_4) (fun (x14 : Int64) => (if (lg_cmp x14 0) = 0 then (lb4 (y2_4 + 1) y1_4) else (lb4 (y2_4 + 1) y2_4)))))) nn
theorem D_X0_findRank_4_s {r : Nat → Int32} {q : Nat → Int32} {f : Nat → Nat → Int64} {i : Nat} {nn : Nat} {y2_4 : Int32} {y1_4 : Int32} : D_X0_findRank_4 r q f i (nn + 1) y2_4 y1_4 = (if (r (2 * i)) < y2_4 then y1_4 else (if (r (2 * i + 1)) < y2_4 then y1_4 else bnd1 (D_X0_findDivisor r q f i y2_4) (fun (x14 : Int64) => (if (lg_cmp x14 0) = 0 then ((D_X0_findRank_4 r q f i nn) (y2_4 + 1) y1_4) else ((D_X0_findRank_4 r q f i nn) (y2_4 + 1) y2_4))))) := rfl
noncomputable def D_X0_findRank (r : Nat → Int32) (q : Nat → Int32) (f : Nat → Nat → Int64) (i : Nat) : Int32 := (D_X0_findRank_4 r q f i (gap1 (r (2 * i)) 1 + 1) 1 0)
theorem D_X0_findRank_s {r : Nat → Int32} {q : Nat → Int32} {f : Nat → Nat → Int64} {i : Nat} : D_X0_findRank r q f i = (D_X0_findRank_4 r q f i (gap1 (r (2 * i)) 1 + 1) 1 0) := rfl
set_option maxHeartbeats 4000000 in
set_option maxRecDepth 100000 in
theorem k_X0_findRank (κ : Kt) (l : Launch) (a : Nat → Nat) (r q : Nat → Int32) (f : Nat → Nat → Int64) (i : Nat) (hi : i < 15) (hok : okr r) (o_x : Int32) (hR : D_X0_findRank r q f i = o_x) : CM κ l yX0_findRank cX0_findRank 3 (some .int) 6 171 0 0 [.ref (a (6 + 2 * i))] (cw κ a r q f) (fun o w' => o = some (.int o_x) ∧ w' = cw κ a r q f) := by
  refine CM_begin (plainFor_of_name pn_RX0) (Nat.le_of_ble_eq_true rfl) ?_
  intro p e s m args below meth c A Q hX hnm hA3 hQ hB ls hl
  have hx := hX.1.1
  have hb := hX.1.2.1
  have hl : lv_has ls 3 [(0, .ref (a (6 + 2 * i)))] := hl
  replace hR := (D_X0_findRank_s).symm.trans hR
  refine lv_iconst (v := 0) hx hb dX0_findRank_0 (by decide) ?_
  refine lv_istore_n (lv' := [(1, .int 0), (0, .ref (a (6 + 2 * i)))]) hx hb dX0_findRank_1 rfl hl (by decide) rfl (fun ls hl => ?_)
  refine lv_iconst (v := 1) hx hb dX0_findRank_2 (by decide) ?_
  refine lv_istore_n (lv' := [(2, .int 1), (1, .int 0), (0, .ref (a (6 + 2 * i)))]) hx hb dX0_findRank_3 rfl hl (by decide) rfl (fun ls hl => ?_)
  have lp4 : ∀ (nn4 : Nat) (y2_4 : Int32) (y1_4 : Int32) (H : Heap) (locs : List Loc), gap1 (r (2 * i)) y2_4 < nn4 → D_X0_findRank_4 r q f i nn4 y2_4 y1_4 = o_x → Bd κ A s (cw κ a r q f) H locs → ∀ ls : Array Slot, lv_has ls 3 [(2, .int y2_4), (1, .int y1_4), (0, .ref (a (6 + 2 * i)))] → W p l e (Rm 6 171 0 0) s m args below meth c H locs 0 0 Q (F0 m 4 ls []) := by
    intro nn4
    induction nn4 with
    | zero => intro y2_4 y1_4 H locs hμ; exact absurd hμ (Nat.not_lt_zero _)
    | succ nn4 ih4 =>
      intro y2_4 y1_4 H locs hμ4 hR hB ls hl
      replace hR := (D_X0_findRank_4_s).symm.trans hR
      refine lv_iload_n hx hb dX0_findRank_4 rfl (lv_at hl 0 rfl) ?_
      refine lv_aload_n hx hb dX0_findRank_5 rfl (lv_at hl 2 rfl) ?_
      refine gfN hX hB (cwG (i := i) hi) rfl in3 1 (by decide) wn_1_47 rfl rfl dX0_findRank_6 ?_
      refine lv_icmp_gt (tgt := 38) hx hb dX0_findRank_9 (by decide) (fun c11 => ?_) (fun c11 => ?_)
      · replace hR := ifp c11 hR
        refine lv_iload_n hx hb dX0_findRank_38 rfl (lv_at hl 1 rfl) ?_
        rw [← hQ]
        exact end_i hX hB hA3 rfl rfl (by obtain rfl := hR; exact ⟨rfl, rfl⟩) (Nat.le_of_ble_eq_true rfl) (Nat.le_of_ble_eq_true rfl) dX0_findRank_39
      · replace hR := ifn c11 hR
        refine lv_iload_n hx hb dX0_findRank_12 rfl (lv_at hl 0 rfl) ?_
        refine lv_aload_n hx hb dX0_findRank_13 rfl (lv_at hl 2 rfl) ?_
        refine gfN hX hB (cwG (i := i) hi) rfl in3 2 (by decide) wn_1_53 rfl rfl dX0_findRank_14 ?_
        refine lv_icmp_gt (tgt := 38) hx hb dX0_findRank_17 (by decide) (fun c12 => ?_) (fun c12 => ?_)
        · replace hR := ifp c12 hR
          refine lv_iload_n hx hb dX0_findRank_38 rfl (lv_at hl 1 rfl) ?_
          rw [← hQ]
          exact end_i hX hB hA3 rfl rfl (by obtain rfl := hR; exact ⟨rfl, rfl⟩) (Nat.le_of_ble_eq_true rfl) (Nat.le_of_ble_eq_true rfl) dX0_findRank_39
        · replace hR := ifn c12 hR
          refine lv_aload_n hx hb dX0_findRank_20 rfl (lv_at hl 2 rfl) ?_
          refine lv_iload_n hx hb dX0_findRank_21 rfl (lv_at hl 0 rfl) ?_
          obtain ⟨x14, hd13⟩ := ex1 (D_X0_findDivisor r q f i y2_4)
          replace hR := bnd1_use hd13 hR
          refine call_S (n := 2) (As := [.ref (a (6 + 2 * i)), .int y2_4]) (rest := []) hX hB (k_X0_findDivisor κ l a r q f i y2_4 hi x14 hd13) yk_X0_findDivisor wm_2_55 wm_2_56 wm_1_29 wm_2_57 ⟨Nat.le_of_ble_eq_true rfl, Nat.le_of_ble_eq_true rfl⟩ ⟨Nat.le_of_ble_eq_true rfl, Nat.le_of_ble_eq_true rfl⟩ rfl hl.1 rfl (Nat.le_of_ble_eq_true rfl) dX0_findRank_22 (fun o w' H locs hp hB => ?_)
          obtain ⟨rfl, rfl⟩ := hp
          refine W.eq (g2 := F0 m 25 ls [.long x14]) rfl ?_
          refine lv_lconst (v := 0) hx hb dX0_findRank_25 (by decide) ?_
          refine W.lcmp hx hb dX0_findRank_26 ?_
          refine lv_if_eq (tgt := 32) hx hb dX0_findRank_27 (by decide) (fun c15 => ?_) (fun c15 => ?_)
          · replace hR := ifp c15 hR
            refine lv_iinc (v := y2_4 + 1) (lv' := [(2, .int (y2_4 + 1)), (1, .int y1_4), (0, .ref (a (6 + 2 * i)))]) hx hb dX0_findRank_32 hl (k := 0) rfl rfl (by decide) rfl (fun ls hl => ?_)
            refine lv_goto (tgt := 4) hx hb dX0_findRank_35 (by decide) ?_
            exact ih4 (y2_4 + 1) y1_4 _ _  (gap1_step (le45 (hok i hi).1.2) c11 hμ4) hR hB _ hl
          · replace hR := ifn c15 hR
            refine lv_iload_n hx hb dX0_findRank_30 rfl (lv_at hl 0 rfl) ?_
            refine lv_istore_n (lv' := [(1, .int y2_4), (2, .int y2_4), (0, .ref (a (6 + 2 * i)))]) hx hb dX0_findRank_31 rfl hl (by decide) rfl (fun ls hl => ?_)
            refine lv_iinc (v := y2_4 + 1) (lv' := [(2, .int (y2_4 + 1)), (1, .int y2_4), (0, .ref (a (6 + 2 * i)))]) hx hb dX0_findRank_32 hl (k := 1) rfl rfl (by decide) rfl (fun ls hl => ?_)
            refine lv_goto (tgt := 4) hx hb dX0_findRank_35 (by decide) ?_
            exact ih4 (y2_4 + 1) y2_4 _ _  (gap1_step (le45 (hok i hi).1.2) c11 hμ4) hR hB _ hl
  exact lp4 _ 1 0 _ _  (Nat.lt_succ_self _) hR hB _ hl
end
section
-- 23.rowsteps
noncomputable def D_X4_findLeastRow_5 (r : Nat → Int32) (q : Nat → Int32) (f : Nat → Nat → Int64) (p1 : Int32) (nn : Nat) : Int32 → Int32 → Int32 := @Nat.rec (fun _ => Int32 → Int32 → Int32) (fun _ _ => default) (fun _ lb5 (y4_5 : Int32) (y3_5 : Int32) => (if (r (2 * 6)) ≤ y4_5 then y3_5 else bnd1 (D_X3_get r q f 6 y4_5 p1) (fun (x23 : Int64) => nm ((if 0 < x23 then x23 else -x23) : Int64) (fun (t24 : Int64) => (if (lg_cmp t24 0) = 0 then (lb5 (y4_5 + 1) y3_5) else (if y3_5 < 0 then (lb5 (y4_5 + 1) y4_5) else bnd1 (D_X3_get r q f 6 y3_5 p1) (fun (x28 : Int64) => nm ((if 0 < x28 then x28 else -x28) : Int64) (fun (t29 : Int64) => (if 0 ≤ (lg_cmp t24 t29) then (lb5 (y4_5 + 1) y3_5) else (lb5 (y4_5 + 1) y4_5)))))))))) nn
theorem D_X4_findLeastRow_5_s {r : Nat → Int32} {q : Nat → Int32} {f : Nat → Nat → Int64} {p1 : Int32} {nn : Nat} {y4_5 : Int32} {y3_5 : Int32} : D_X4_findLeastRow_5 r q f p1 (nn + 1) y4_5 y3_5 = (if (r (2 * 6)) ≤ y4_5 then y3_5 else bnd1 (D_X3_get r q f 6 y4_5 p1) (fun (x23 : Int64) => nm ((if 0 < x23 then x23 else -x23) : Int64) (fun (t24 : Int64) => (if (lg_cmp t24 0) = 0 then ((D_X4_findLeastRow_5 r q f p1 nn) (y4_5 + 1) y3_5) else (if y3_5 < 0 then ((D_X4_findLeastRow_5 r q f p1 nn) (y4_5 + 1) y4_5) else bnd1 (D_X3_get r q f 6 y3_5 p1) (fun (x28 : Int64) => nm ((if 0 < x28 then x28 else -x28) : Int64) (fun (t29 : Int64) => (if 0 ≤ (lg_cmp t24 t29) then ((D_X4_findLeastRow_5 r q f p1 nn) (y4_5 + 1) y3_5) else ((D_X4_findLeastRow_5 r q f p1 nn) (y4_5 + 1) y4_5))))))))) := rfl
noncomputable def D_X4_findLeastRow (r : Nat → Int32) (q : Nat → Int32) (f : Nat → Nat → Int64) (p0 : Int32) (p1 : Int32) : Int32 := (D_X4_findLeastRow_5 r q f p1 (gap (r (2 * 6)) p0 + 1) p0 (-1))
theorem D_X4_findLeastRow_s {r : Nat → Int32} {q : Nat → Int32} {f : Nat → Nat → Int64} {p0 : Int32} {p1 : Int32} : D_X4_findLeastRow r q f p0 p1 = (D_X4_findLeastRow_5 r q f p1 (gap (r (2 * 6)) p0 + 1) p0 (-1)) := rfl
set_option maxHeartbeats 4000000 in
set_option maxRecDepth 100000 in
theorem k_X4_findLeastRow (κ : Kt) (l : Launch) (a : Nat → Nat) (r q : Nat → Int32) (f : Nat → Nat → Int64) (p0 : Int32) (p1 : Int32)  (o_x : Int32) (hR : D_X4_findLeastRow r q f p0 p1 = o_x) : CM κ l yX4_findLeastRow cX4_findLeastRow 7 (some .int) 1 22 0 0 [.ref (a 2), .int p0, .int p1] (cw κ a r q f) (fun o w' => o = some (.int o_x) ∧ w' = cw κ a r q f) := by
  refine CM_begin (plainFor_of_name pn_RX4) (Nat.le_of_ble_eq_true rfl) ?_
  intro p e s m args below meth c A Q hX hnm hA3 hQ hB ls hl
  have hx := hX.1.1
  have hb := hX.1.2.1
  have hl : lv_has ls 7 [(0, .ref (a 2)), (1, .int p0), (2, .int p1)] := hl
  replace hR := (D_X4_findLeastRow_s).symm.trans hR
  refine lv_iconst (v := (-1)) hx hb dX4_findLeastRow_0 (by decide) ?_
  refine lv_istore_n (lv' := [(3, .int (-1)), (0, .ref (a 2)), (1, .int p0), (2, .int p1)]) hx hb dX4_findLeastRow_1 rfl hl (by decide) rfl (fun ls hl => ?_)
  refine lv_iload_n hx hb dX4_findLeastRow_2 rfl (lv_at hl 2 rfl) ?_
  refine lv_istore (lv' := [(4, .int p0), (3, .int (-1)), (0, .ref (a 2)), (1, .int p0), (2, .int p1)]) hx hb dX4_findLeastRow_3 hl (by decide) rfl (fun ls hl => ?_)
  have lp5 : ∀ (nn5 : Nat) (y4_5 : Int32) (y3_5 : Int32) (H : Heap) (locs : List Loc), gap (r (2 * 6)) y4_5 < nn5 → D_X4_findLeastRow_5 r q f p1 nn5 y4_5 y3_5 = o_x → Bd κ A s (cw κ a r q f) H locs → ∀ ls : Array Slot, lv_has ls 7 [(4, .int y4_5), (3, .int y3_5), (0, .ref (a 2)), (1, .int p0), (2, .int p1)] → W p l e (Rm 1 22 0 0) s m args below meth c H locs 0 0 Q (F0 m 5 ls []) := by
    intro nn5
    induction nn5 with
    | zero => intro y4_5 y3_5 H locs hμ; exact absurd hμ (Nat.not_lt_zero _)
    | succ nn5 ih5 =>
      intro y4_5 y3_5 H locs hμ5 hR hB ls hl
      replace hR := (D_X4_findLeastRow_5_s).symm.trans hR
      refine lv_iload hx hb dX4_findLeastRow_5 (lv_at hl 0 rfl) ?_
      refine lv_aload_n hx hb dX4_findLeastRow_7 rfl (lv_at hl 2 rfl) ?_
      refine gf hX hB cw2 rfl in4 0 (by decide) wm_1_74 rfl rfl dX4_findLeastRow_8 ?_
      refine gfN hX hB (cwG (i := 6) (by decide)) rfl in3 1 (by decide) wn_1_48 rfl rfl dX4_findLeastRow_11 ?_
      refine lv_icmp_ge (tgt := 70) hx hb dX4_findLeastRow_14 (by decide) (fun c21 => ?_) (fun c21 => ?_)
      · replace hR := ifp c21 hR
        refine lv_iload_n hx hb dX4_findLeastRow_70 rfl (lv_at hl 1 rfl) ?_
        rw [← hQ]
        exact end_i hX hB hA3 rfl rfl (by obtain rfl := hR; exact ⟨rfl, rfl⟩) (Nat.le_of_ble_eq_true rfl) (Nat.le_of_ble_eq_true rfl) dX4_findLeastRow_71
      · replace hR := ifn c21 hR
        refine lv_aload_n hx hb dX4_findLeastRow_17 rfl (lv_at hl 2 rfl) ?_
        refine gf hX hB cw2 rfl in4 0 (by decide) wm_1_74 rfl rfl dX4_findLeastRow_18 ?_
        refine lv_iload hx hb dX4_findLeastRow_21 (lv_at hl 0 rfl) ?_
        refine lv_iload_n hx hb dX4_findLeastRow_23 rfl (lv_at hl 4 rfl) ?_
        obtain ⟨x23, hd22⟩ := ex1 (D_X3_get r q f 6 y4_5 p1)
        replace hR := bnd1_use hd22 hR
        refine call_V (n := 2) (As := [.int y4_5, .int p1]) (rest := []) hX hB (k_X3_get κ l a r q f 6 y4_5 p1 (by decide) x23 hd22) ⟨rfl, yk_X3_get⟩ wm_1_235 wm_1_187 wm_1_188 wm_1_2 wm_1_189 ⟨Nat.le_of_ble_eq_true rfl, Nat.le_of_ble_eq_true rfl⟩ ⟨Nat.le_of_ble_eq_true rfl, Nat.le_of_ble_eq_true rfl⟩ (cwG (i := 6) (by decide)) rfl rfl rfl hl.1 rfl (Nat.le_of_ble_eq_true rfl) dX4_findLeastRow_24 (fun o w' H locs hp hB => ?_)
        obtain ⟨rfl, rfl⟩ := hp
        refine W.eq (g2 := F0 m 27 ls [.long x23]) rfl ?_
        refine va_mabs_long hx hb (by rw [hX.1.2.2.1]; exact hl.1.symm) hX.1.2.2.2.1 (hX.1.2.2.2.2 _ wm_1_236) (hX.1.2.2.2.2 _ wm_1_237) (hX.1.2.2.2.2 _ wm_1_14) (hX.1.2.2.2.2 _ wm_1_238) (Nat.le_of_ble_eq_true rfl) (Nat.le_of_ble_eq_true rfl) (Nat.le_of_ble_eq_true rfl) (Nat.le_of_ble_eq_true rfl) dX4_findLeastRow_27 ?_
        refine lv_topl (fun t24 et24 => ?_)
        replace hR := nm_use et24 hR
        refine lv_lstore (lv' := [(5, .long t24), (4, .int y4_5), (3, .int y3_5), (0, .ref (a 2)), (1, .int p0), (2, .int p1)]) hx hb dX4_findLeastRow_30 hl (by decide) rfl (fun ls hl => ?_)
        refine lv_lload hx hb dX4_findLeastRow_32 (lv_at hl 0 rfl) ?_
        refine lv_lconst (v := 0) hx hb dX4_findLeastRow_34 (by decide) ?_
        refine W.lcmp hx hb dX4_findLeastRow_35 ?_
        refine lv_if_eq (tgt := 64) hx hb dX4_findLeastRow_36 (by decide) (fun c25 => ?_) (fun c25 => ?_)
        · replace hR := ifp c25 hR
          refine lv_iinc (v := y4_5 + 1) (lv' := [(4, .int (y4_5 + 1)), (5, .long t24), (3, .int y3_5), (0, .ref (a 2)), (1, .int p0), (2, .int p1)]) hx hb dX4_findLeastRow_64 hl (k := 1) rfl rfl (by decide) rfl (fun ls hl => ?_)
          refine lv_goto (tgt := 5) hx hb dX4_findLeastRow_67 (by decide) ?_
          exact ih5 (y4_5 + 1) y3_5 _ _  (gap_step c21 hμ5) hR hB _ (lv_sub hl [0, 2, 3, 4, 5] rfl)
        · replace hR := ifn c25 hR
          refine lv_iload_n hx hb dX4_findLeastRow_39 rfl (lv_at hl 2 rfl) ?_
          refine lv_if_lt (tgt := 61) hx hb dX4_findLeastRow_40 (by decide) (fun c26 => ?_) (fun c26 => ?_)
          · replace hR := ifp c26 hR
            refine lv_iload hx hb dX4_findLeastRow_61 (lv_at hl 1 rfl) ?_
            refine lv_istore_n (lv' := [(3, .int y4_5), (5, .long t24), (4, .int y4_5), (0, .ref (a 2)), (1, .int p0), (2, .int p1)]) hx hb dX4_findLeastRow_63 rfl hl (by decide) rfl (fun ls hl => ?_)
            refine lv_iinc (v := y4_5 + 1) (lv' := [(4, .int (y4_5 + 1)), (3, .int y4_5), (5, .long t24), (0, .ref (a 2)), (1, .int p0), (2, .int p1)]) hx hb dX4_findLeastRow_64 hl (k := 2) rfl rfl (by decide) rfl (fun ls hl => ?_)
            refine lv_goto (tgt := 5) hx hb dX4_findLeastRow_67 (by decide) ?_
            exact ih5 (y4_5 + 1) y4_5 _ _  (gap_step c21 hμ5) hR hB _ (lv_sub hl [0, 1, 3, 4, 5] rfl)
          · replace hR := ifn c26 hR
            refine lv_lload hx hb dX4_findLeastRow_43 (lv_at hl 0 rfl) ?_
            refine lv_aload_n hx hb dX4_findLeastRow_45 rfl (lv_at hl 3 rfl) ?_
            refine gf hX hB cw2 rfl in4 0 (by decide) wm_1_74 rfl rfl dX4_findLeastRow_46 ?_
            refine lv_iload_n hx hb dX4_findLeastRow_49 rfl (lv_at hl 2 rfl) ?_
            refine lv_iload_n hx hb dX4_findLeastRow_50 rfl (lv_at hl 5 rfl) ?_
            obtain ⟨x28, hd27⟩ := ex1 (D_X3_get r q f 6 y3_5 p1)
            replace hR := bnd1_use hd27 hR
            refine call_V (n := 2) (As := [.int y3_5, .int p1]) (rest := [.long t24]) hX hB (k_X3_get κ l a r q f 6 y3_5 p1 (by decide) x28 hd27) ⟨rfl, yk_X3_get⟩ wm_1_235 wm_1_187 wm_1_188 wm_1_2 wm_1_189 ⟨Nat.le_of_ble_eq_true rfl, Nat.le_of_ble_eq_true rfl⟩ ⟨Nat.le_of_ble_eq_true rfl, Nat.le_of_ble_eq_true rfl⟩ (cwG (i := 6) (by decide)) rfl rfl rfl hl.1 rfl (Nat.le_of_ble_eq_true rfl) dX4_findLeastRow_51 (fun o w' H locs hp hB => ?_)
            obtain ⟨rfl, rfl⟩ := hp
            refine W.eq (g2 := F0 m 54 ls [.long x28, .long t24]) rfl ?_
            refine va_mabs_long hx hb (by rw [hX.1.2.2.1]; exact hl.1.symm) hX.1.2.2.2.1 (hX.1.2.2.2.2 _ wm_1_236) (hX.1.2.2.2.2 _ wm_1_237) (hX.1.2.2.2.2 _ wm_1_14) (hX.1.2.2.2.2 _ wm_1_238) (Nat.le_of_ble_eq_true rfl) (Nat.le_of_ble_eq_true rfl) (Nat.le_of_ble_eq_true rfl) (Nat.le_of_ble_eq_true rfl) dX4_findLeastRow_54 ?_
            refine lv_topl (fun t29 et29 => ?_)
            replace hR := nm_use et29 hR
            refine W.lcmp hx hb dX4_findLeastRow_57 ?_
            refine lv_if_ge (tgt := 64) hx hb dX4_findLeastRow_58 (by decide) (fun c30 => ?_) (fun c30 => ?_)
            · replace hR := ifp c30 hR
              refine lv_iinc (v := y4_5 + 1) (lv' := [(4, .int (y4_5 + 1)), (5, .long t24), (3, .int y3_5), (0, .ref (a 2)), (1, .int p0), (2, .int p1)]) hx hb dX4_findLeastRow_64 hl (k := 1) rfl rfl (by decide) rfl (fun ls hl => ?_)
              refine lv_goto (tgt := 5) hx hb dX4_findLeastRow_67 (by decide) ?_
              exact ih5 (y4_5 + 1) y3_5 _ _  (gap_step c21 hμ5) hR hB _ (lv_sub hl [0, 2, 3, 4, 5] rfl)
            · replace hR := ifn c30 hR
              refine lv_iload hx hb dX4_findLeastRow_61 (lv_at hl 1 rfl) ?_
              refine lv_istore_n (lv' := [(3, .int y4_5), (5, .long t24), (4, .int y4_5), (0, .ref (a 2)), (1, .int p0), (2, .int p1)]) hx hb dX4_findLeastRow_63 rfl hl (by decide) rfl (fun ls hl => ?_)
              refine lv_iinc (v := y4_5 + 1) (lv' := [(4, .int (y4_5 + 1)), (3, .int y4_5), (5, .long t24), (0, .ref (a 2)), (1, .int p0), (2, .int p1)]) hx hb dX4_findLeastRow_64 hl (k := 2) rfl rfl (by decide) rfl (fun ls hl => ?_)
              refine lv_goto (tgt := 5) hx hb dX4_findLeastRow_67 (by decide) ?_
              exact ih5 (y4_5 + 1) y4_5 _ _  (gap_step c21 hμ5) hR hB _ (lv_sub hl [0, 1, 3, 4, 5] rfl)
  exact lp5 _ p0 (-1) _ _  (Nat.lt_succ_self _) hR hB _ hl
noncomputable def D_X4_bring_j25 (r : Nat → Int32) (q : Nat → Int32) (p1 : Int32) (p2 : Int32) (f_25 : Nat → Nat → Int64) : (Nat → Nat → Int64) := bnd1 (D_X3_get r q f_25 6 p1 p2) (fun (x7 : Int64) => (if 0 ≤ (lg_cmp x7 0) then f_25 else bnd1 (D_X3_turnLine r q f_25 6 0 p1) (fun (f10 : Nat → Nat → Int64) => bnd1 (D_X3_turnLine r q f10 7 0 p1) (fun (f12 : Nat → Nat → Int64) => f12))))
theorem D_X4_bring_j25_s {r : Nat → Int32} {q : Nat → Int32} {p1 : Int32} {p2 : Int32} {f_25 : Nat → Nat → Int64} : D_X4_bring_j25 r q p1 p2 f_25 = bnd1 (D_X3_get r q f_25 6 p1 p2) (fun (x7 : Int64) => (if 0 ≤ (lg_cmp x7 0) then f_25 else bnd1 (D_X3_turnLine r q f_25 6 0 p1) (fun (f10 : Nat → Nat → Int64) => bnd1 (D_X3_turnLine r q f10 7 0 p1) (fun (f12 : Nat → Nat → Int64) => f12)))) := rfl
noncomputable def D_X4_bring (r : Nat → Int32) (q : Nat → Int32) (f : Nat → Nat → Int64) (p0 : Int32) (p1 : Int32) (p2 : Int32) : (Nat → Nat → Int64) := (if p0 = p1 then (D_X4_bring_j25 r q p1 p2 f) else bnd1 (D_X3_exchangeLines r q f 6 0 p0 p1) (fun (f15 : Nat → Nat → Int64) => bnd1 (D_X3_exchangeLines r q f15 7 0 p0 p1) (fun (f17 : Nat → Nat → Int64) => (D_X4_bring_j25 r q p1 p2 f17))))
theorem D_X4_bring_s {r : Nat → Int32} {q : Nat → Int32} {f : Nat → Nat → Int64} {p0 : Int32} {p1 : Int32} {p2 : Int32} : D_X4_bring r q f p0 p1 p2 = (if p0 = p1 then (D_X4_bring_j25 r q p1 p2 f) else bnd1 (D_X3_exchangeLines r q f 6 0 p0 p1) (fun (f15 : Nat → Nat → Int64) => bnd1 (D_X3_exchangeLines r q f15 7 0 p0 p1) (fun (f17 : Nat → Nat → Int64) => (D_X4_bring_j25 r q p1 p2 f17)))) := rfl
set_option maxHeartbeats 4000000 in
set_option maxRecDepth 100000 in
theorem k_X4_bring (κ : Kt) (l : Launch) (a : Nat → Nat) (r q : Nat → Int32) (f : Nat → Nat → Int64) (p0 : Int32) (p1 : Int32) (p2 : Int32)  (o_f : Nat → Nat → Int64) (hR : D_X4_bring r q f p0 p1 p2 = o_f) : CM κ l yX4_bring cX4_bring 4 (none) 2 51 0 0 [.ref (a 2), .int p0, .int p1, .int p2] (cw κ a r q f) (fun o w' => o = none ∧ w' = cw κ a r q o_f) := by
  refine CM_begin (plainFor_of_name pn_RX4) (Nat.le_of_ble_eq_true rfl) ?_
  intro p e s m args below meth c A Q hX hnm hA3 hQ hB ls hl
  have hx := hX.1.1
  have hb := hX.1.2.1
  have hl : lv_has ls 4 [(0, .ref (a 2)), (1, .int p0), (2, .int p1), (3, .int p2)] := hl
  replace hR := (D_X4_bring_s).symm.trans hR
  refine lv_iload_n hx hb dX4_bring_0 rfl (lv_at hl 1 rfl) ?_
  refine lv_iload_n hx hb dX4_bring_1 rfl (lv_at hl 2 rfl) ?_
  have jn25 : ∀ (f_25 : Nat → Nat → Int64) (H : Heap) (locs : List Loc), D_X4_bring_j25 r q p1 p2 f_25 = o_f → Bd κ A s (cw κ a r q f_25) H locs → ∀ ls : Array Slot, lv_has ls 4 [(0, .ref (a 2)), (1, .int p0), (2, .int p1), (3, .int p2)] → W p l e (Rm 2 51 0 0) s m args below meth c H locs 0 0 Q (F0 m 25 ls []) := by
    intro f_25 H locs hR hB ls hl
    replace hR := (D_X4_bring_j25_s).symm.trans hR
    refine lv_aload_n hx hb dX4_bring_25 rfl (lv_at hl 0 rfl) ?_
    refine gf hX hB cw2 rfl in4 0 (by decide) wm_1_74 rfl rfl dX4_bring_26 ?_
    refine lv_iload_n hx hb dX4_bring_29 rfl (lv_at hl 2 rfl) ?_
    refine lv_iload_n hx hb dX4_bring_30 rfl (lv_at hl 3 rfl) ?_
    obtain ⟨x7, hd6⟩ := ex1 (D_X3_get r q f_25 6 p1 p2)
    replace hR := bnd1_use hd6 hR
    refine call_V (n := 2) (As := [.int p1, .int p2]) (rest := []) hX hB (k_X3_get κ l a r q f_25 6 p1 p2 (by decide) x7 hd6) ⟨rfl, yk_X3_get⟩ wm_1_235 wm_1_187 wm_1_188 wm_1_2 wm_1_189 ⟨Nat.le_of_ble_eq_true rfl, Nat.le_of_ble_eq_true rfl⟩ ⟨Nat.le_of_ble_eq_true rfl, Nat.le_of_ble_eq_true rfl⟩ (cwG (i := 6) (by decide)) rfl rfl rfl hl.1 rfl (Nat.le_of_ble_eq_true rfl) dX4_bring_31 (fun o w' H locs hp hB => ?_)
    obtain ⟨rfl, rfl⟩ := hp
    refine W.eq (g2 := F0 m 34 ls [.long x7]) rfl ?_
    refine lv_lconst (v := 0) hx hb dX4_bring_34 (by decide) ?_
    refine W.lcmp hx hb dX4_bring_35 ?_
    refine lv_if_ge (tgt := 57) hx hb dX4_bring_36 (by decide) (fun c8 => ?_) (fun c8 => ?_)
    · replace hR := ifp c8 hR
      rw [← hQ]
      exact end_v hX hB hA3 rfl (by obtain rfl := hR; exact ⟨rfl, rfl⟩) (Nat.le_of_ble_eq_true rfl) (Nat.le_of_ble_eq_true rfl) dX4_bring_57
    · replace hR := ifn c8 hR
      refine lv_aload_n hx hb dX4_bring_39 rfl (lv_at hl 0 rfl) ?_
      refine gf hX hB cw2 rfl in4 0 (by decide) wm_1_74 rfl rfl dX4_bring_40 ?_
      refine lv_iconst (v := 0) hx hb dX4_bring_43 (by decide) ?_
      refine lv_iload_n hx hb dX4_bring_44 rfl (lv_at hl 2 rfl) ?_
      obtain ⟨f10, hd9⟩ := ex1 (D_X3_turnLine r q f_25 6 0 p1)
      replace hR := bnd1_use hd9 hR
      refine call_V (n := 2) (As := [.int 0, .int p1]) (rest := []) hX hB (k_X3_turnLine κ l a r q f_25 6 0 p1 (by decide) f10 hd9) ⟨rfl, yk_X3_turnLine⟩ wm_2_8 wm_2_9 wm_2_10 wm_1_2 wm_2_11 ⟨Nat.le_of_ble_eq_true rfl, Nat.le_of_ble_eq_true rfl⟩ ⟨Nat.le_of_ble_eq_true rfl, Nat.le_of_ble_eq_true rfl⟩ (cwG (i := 6) (by decide)) rfl rfl rfl hl.1 rfl (Nat.le_of_ble_eq_true rfl) dX4_bring_45 (fun o w' H locs hp hB => ?_)
      obtain ⟨rfl, rfl⟩ := hp
      refine W.eq (g2 := F0 m 48 ls []) rfl ?_
      refine lv_aload_n hx hb dX4_bring_48 rfl (lv_at hl 0 rfl) ?_
      refine gf hX hB cw2 rfl in4 1 (by decide) wm_1_76 rfl rfl dX4_bring_49 ?_
      refine lv_iconst (v := 0) hx hb dX4_bring_52 (by decide) ?_
      refine lv_iload_n hx hb dX4_bring_53 rfl (lv_at hl 2 rfl) ?_
      obtain ⟨f12, hd11⟩ := ex1 (D_X3_turnLine r q f10 7 0 p1)
      replace hR := bnd1_use hd11 hR
      refine call_V (n := 2) (As := [.int 0, .int p1]) (rest := []) hX hB (k_X3_turnLine κ l a r q f10 7 0 p1 (by decide) f12 hd11) ⟨rfl, yk_X3_turnLine⟩ wm_2_8 wm_2_9 wm_2_10 wm_1_2 wm_2_11 ⟨Nat.le_of_ble_eq_true rfl, Nat.le_of_ble_eq_true rfl⟩ ⟨Nat.le_of_ble_eq_true rfl, Nat.le_of_ble_eq_true rfl⟩ (cwG (i := 7) (by decide)) rfl rfl rfl hl.1 rfl (Nat.le_of_ble_eq_true rfl) dX4_bring_54 (fun o w' H locs hp hB => ?_)
      obtain ⟨rfl, rfl⟩ := hp
      refine W.eq (g2 := F0 m 57 ls []) rfl ?_
      rw [← hQ]
      exact end_v hX hB hA3 rfl (by obtain rfl := hR; exact ⟨rfl, rfl⟩) (Nat.le_of_ble_eq_true rfl) (Nat.le_of_ble_eq_true rfl) dX4_bring_57
  refine lv_icmp_eq (tgt := 25) hx hb dX4_bring_2 (by decide) (fun c13 => ?_) (fun c13 => ?_)
  · replace hR := ifp c13 hR
    exact jn25 f _ _  hR hB _ hl
  · replace hR := ifn c13 hR
    refine lv_aload_n hx hb dX4_bring_5 rfl (lv_at hl 0 rfl) ?_
    refine gf hX hB cw2 rfl in4 0 (by decide) wm_1_74 rfl rfl dX4_bring_6 ?_
    refine lv_iconst (v := 0) hx hb dX4_bring_9 (by decide) ?_
    refine lv_iload_n hx hb dX4_bring_10 rfl (lv_at hl 1 rfl) ?_
    refine lv_iload_n hx hb dX4_bring_11 rfl (lv_at hl 2 rfl) ?_
    obtain ⟨f15, hd14⟩ := ex1 (D_X3_exchangeLines r q f 6 0 p0 p1)
    replace hR := bnd1_use hd14 hR
    refine call_V (n := 3) (As := [.int 0, .int p0, .int p1]) (rest := []) hX hB (k_X3_exchangeLines κ l a r q f 6 0 p0 p1 (by decide) f15 hd14) ⟨rfl, yk_X3_exchangeLines⟩ wm_2_3 wm_2_4 wm_2_5 wm_1_2 wm_2_6 ⟨Nat.le_of_ble_eq_true rfl, Nat.le_of_ble_eq_true rfl⟩ ⟨Nat.le_of_ble_eq_true rfl, Nat.le_of_ble_eq_true rfl⟩ (cwG (i := 6) (by decide)) rfl rfl rfl hl.1 rfl (Nat.le_of_ble_eq_true rfl) dX4_bring_12 (fun o w' H locs hp hB => ?_)
    obtain ⟨rfl, rfl⟩ := hp
    refine W.eq (g2 := F0 m 15 ls []) rfl ?_
    refine lv_aload_n hx hb dX4_bring_15 rfl (lv_at hl 0 rfl) ?_
    refine gf hX hB cw2 rfl in4 1 (by decide) wm_1_76 rfl rfl dX4_bring_16 ?_
    refine lv_iconst (v := 0) hx hb dX4_bring_19 (by decide) ?_
    refine lv_iload_n hx hb dX4_bring_20 rfl (lv_at hl 1 rfl) ?_
    refine lv_iload_n hx hb dX4_bring_21 rfl (lv_at hl 2 rfl) ?_
    obtain ⟨f17, hd16⟩ := ex1 (D_X3_exchangeLines r q f15 7 0 p0 p1)
    replace hR := bnd1_use hd16 hR
    refine call_V (n := 3) (As := [.int 0, .int p0, .int p1]) (rest := []) hX hB (k_X3_exchangeLines κ l a r q f15 7 0 p0 p1 (by decide) f17 hd16) ⟨rfl, yk_X3_exchangeLines⟩ wm_2_3 wm_2_4 wm_2_5 wm_1_2 wm_2_6 ⟨Nat.le_of_ble_eq_true rfl, Nat.le_of_ble_eq_true rfl⟩ ⟨Nat.le_of_ble_eq_true rfl, Nat.le_of_ble_eq_true rfl⟩ (cwG (i := 7) (by decide)) rfl rfl rfl hl.1 rfl (Nat.le_of_ble_eq_true rfl) dX4_bring_22 (fun o w' H locs hp hB => ?_)
    obtain ⟨rfl, rfl⟩ := hp
    refine W.eq (g2 := F0 m 25 ls []) rfl ?_
    exact jn25 f17 _ _  hR hB _ hl
noncomputable def D_X4_takeOff (r : Nat → Int32) (q : Nat → Int32) (f : Nat → Nat → Int64) (p0 : Int32) (p1 : Int32) (p2 : Int32) : (Nat → Int32) × (Nat → Nat → Int64) := bnd1 (D_X3_get r q f 6 p0 p2) (fun (x2 : Int64) => bnd1 (D_X3_get r q f 6 p1 p2) (fun (x4 : Int64) => bnd1 (D_X5_divideDown x2 x4) (fun (x5 : Int64) => bnd1 (D_X3_addLine r q f 6 0 p0 p1 (-x5)) (fun (f8 : Nat → Nat → Int64) => bnd1 (D_X3_addLine r q f8 7 0 p0 p1 (-x5)) (fun (f10 : Nat → Nat → Int64) => bnd1 (D_X3_isWithin r q f10 6 1000000000) (fun (x12 : Int32) => (if x12 = 0 then (va_up q 0 1, f10) else bnd1 (D_X3_isWithin r q f10 7 1000000000) (fun (x15 : Int32) => (if x15 = 0 then (va_up q 0 1, f10) else (va_up q 0 0, f10))))))))))
theorem D_X4_takeOff_s {r : Nat → Int32} {q : Nat → Int32} {f : Nat → Nat → Int64} {p0 : Int32} {p1 : Int32} {p2 : Int32} : D_X4_takeOff r q f p0 p1 p2 = bnd1 (D_X3_get r q f 6 p0 p2) (fun (x2 : Int64) => bnd1 (D_X3_get r q f 6 p1 p2) (fun (x4 : Int64) => bnd1 (D_X5_divideDown x2 x4) (fun (x5 : Int64) => bnd1 (D_X3_addLine r q f 6 0 p0 p1 (-x5)) (fun (f8 : Nat → Nat → Int64) => bnd1 (D_X3_addLine r q f8 7 0 p0 p1 (-x5)) (fun (f10 : Nat → Nat → Int64) => bnd1 (D_X3_isWithin r q f10 6 1000000000) (fun (x12 : Int32) => (if x12 = 0 then (va_up q 0 1, f10) else bnd1 (D_X3_isWithin r q f10 7 1000000000) (fun (x15 : Int32) => (if x15 = 0 then (va_up q 0 1, f10) else (va_up q 0 0, f10)))))))))) := rfl
set_option maxHeartbeats 4000000 in
set_option maxRecDepth 100000 in
theorem k_X4_takeOff (κ : Kt) (l : Launch) (a : Nat → Nat) (r q : Nat → Int32) (f : Nat → Nat → Int64) (p0 : Int32) (p1 : Int32) (p2 : Int32)  (o_q : Nat → Int32) (o_f : Nat → Nat → Int64) (hR : D_X4_takeOff r q f p0 p1 p2 = (o_q, o_f)) : CM κ l yX4_takeOff cX4_takeOff 6 (none) 2 51 0 0 [.ref (a 2), .int p0, .int p1, .int p2] (cw κ a r q f) (fun o w' => o = none ∧ o_q 4 = q 4 ∧ w' = cw κ a r o_q o_f) := by
  refine CM_begin (plainFor_of_name pn_RX4) (Nat.le_of_ble_eq_true rfl) ?_
  intro p e s m args below meth c A Q hX hnm hA3 hQ hB ls hl
  have hx := hX.1.1
  have hb := hX.1.2.1
  have hl : lv_has ls 6 [(0, .ref (a 2)), (1, .int p0), (2, .int p1), (3, .int p2)] := hl
  replace hR := (D_X4_takeOff_s).symm.trans hR
  refine lv_aload_n hx hb dX4_takeOff_0 rfl (lv_at hl 0 rfl) ?_
  refine gf hX hB cw2 rfl in4 0 (by decide) wm_1_74 rfl rfl dX4_takeOff_1 ?_
  refine lv_iload_n hx hb dX4_takeOff_4 rfl (lv_at hl 1 rfl) ?_
  refine lv_iload_n hx hb dX4_takeOff_5 rfl (lv_at hl 3 rfl) ?_
  obtain ⟨x2, hd1⟩ := ex1 (D_X3_get r q f 6 p0 p2)
  replace hR := bnd1_use hd1 hR
  refine call_V (n := 2) (As := [.int p0, .int p2]) (rest := []) hX hB (k_X3_get κ l a r q f 6 p0 p2 (by decide) x2 hd1) ⟨rfl, yk_X3_get⟩ wm_1_235 wm_1_187 wm_1_188 wm_1_2 wm_1_189 ⟨Nat.le_of_ble_eq_true rfl, Nat.le_of_ble_eq_true rfl⟩ ⟨Nat.le_of_ble_eq_true rfl, Nat.le_of_ble_eq_true rfl⟩ (cwG (i := 6) (by decide)) rfl rfl rfl hl.1 rfl (Nat.le_of_ble_eq_true rfl) dX4_takeOff_6 (fun o w' H locs hp hB => ?_)
  obtain ⟨rfl, rfl⟩ := hp
  refine W.eq (g2 := F0 m 9 ls [.long x2]) rfl ?_
  refine lv_aload_n hx hb dX4_takeOff_9 rfl (lv_at hl 0 rfl) ?_
  refine gf hX hB cw2 rfl in4 0 (by decide) wm_1_74 rfl rfl dX4_takeOff_10 ?_
  refine lv_iload_n hx hb dX4_takeOff_13 rfl (lv_at hl 2 rfl) ?_
  refine lv_iload_n hx hb dX4_takeOff_14 rfl (lv_at hl 3 rfl) ?_
  obtain ⟨x4, hd3⟩ := ex1 (D_X3_get r q f 6 p1 p2)
  replace hR := bnd1_use hd3 hR
  refine call_V (n := 2) (As := [.int p1, .int p2]) (rest := [.long x2]) hX hB (k_X3_get κ l a r q f 6 p1 p2 (by decide) x4 hd3) ⟨rfl, yk_X3_get⟩ wm_1_235 wm_1_187 wm_1_188 wm_1_2 wm_1_189 ⟨Nat.le_of_ble_eq_true rfl, Nat.le_of_ble_eq_true rfl⟩ ⟨Nat.le_of_ble_eq_true rfl, Nat.le_of_ble_eq_true rfl⟩ (cwG (i := 6) (by decide)) rfl rfl rfl hl.1 rfl (Nat.le_of_ble_eq_true rfl) dX4_takeOff_15 (fun o w' H locs hp hB => ?_)
  obtain ⟨rfl, rfl⟩ := hp
  refine W.eq (g2 := F0 m 18 ls [.long x4, .long x2]) rfl ?_
  obtain ⟨x5, hd6⟩ := ex1 (D_X5_divideDown x2 x4)
  replace hR := bnd1_use hd6 hR
  refine call_SN (n := 2) (As := [.long x2, .long x4]) (rest := []) hX hB (k_X5_divideDown κ l (cw κ a r q f) x2 x4  x5 hd6) yk_X5_divideDown wn_2_16 wm_2_17 wm_1_1 wm_2_18 ⟨Nat.le_of_ble_eq_true rfl, Nat.le_of_ble_eq_true rfl⟩ ⟨Nat.le_of_ble_eq_true rfl, Nat.le_of_ble_eq_true rfl⟩ rfl hl.1 rfl (Nat.le_of_ble_eq_true rfl) dX4_takeOff_18 (fun o w' H locs hp hB => ?_)
  obtain ⟨rfl, hw9⟩ := hp
  rw [hw9] at hB
  refine W.eq (g2 := F0 m 21 ls [.long x5]) rfl ?_
  refine lv_lstore (lv' := [(4, .long x5), (0, .ref (a 2)), (1, .int p0), (2, .int p1), (3, .int p2)]) hx hb dX4_takeOff_21 hl (by decide) rfl (fun ls hl => ?_)
  refine lv_aload_n hx hb dX4_takeOff_23 rfl (lv_at hl 1 rfl) ?_
  refine gf hX hB cw2 rfl in4 0 (by decide) wm_1_74 rfl rfl dX4_takeOff_24 ?_
  refine lv_iconst (v := 0) hx hb dX4_takeOff_27 (by decide) ?_
  refine lv_iload_n hx hb dX4_takeOff_28 rfl (lv_at hl 2 rfl) ?_
  refine lv_iload_n hx hb dX4_takeOff_29 rfl (lv_at hl 3 rfl) ?_
  refine lv_lload hx hb dX4_takeOff_30 (lv_at hl 0 rfl) ?_
  refine lv_lneg hx hb dX4_takeOff_32 ?_
  obtain ⟨f8, hd7⟩ := ex1 (D_X3_addLine r q f 6 0 p0 p1 (-x5))
  replace hR := bnd1_use hd7 hR
  refine call_V (n := 4) (As := [.int 0, .int p0, .int p1, .long (-x5)]) (rest := []) hX hB (k_X3_addLine κ l a r q f 6 0 p0 p1 (-x5) (by decide) f8 hd7) ⟨rfl, yk_X3_addLine⟩ wm_2_22 wm_2_23 wm_2_24 wm_1_2 wm_2_25 ⟨Nat.le_of_ble_eq_true rfl, Nat.le_of_ble_eq_true rfl⟩ ⟨Nat.le_of_ble_eq_true rfl, Nat.le_of_ble_eq_true rfl⟩ (cwG (i := 6) (by decide)) rfl rfl rfl hl.1 rfl (Nat.le_of_ble_eq_true rfl) dX4_takeOff_33 (fun o w' H locs hp hB => ?_)
  obtain ⟨rfl, rfl⟩ := hp
  refine W.eq (g2 := F0 m 36 ls []) rfl ?_
  refine lv_aload_n hx hb dX4_takeOff_36 rfl (lv_at hl 1 rfl) ?_
  refine gf hX hB cw2 rfl in4 1 (by decide) wm_1_76 rfl rfl dX4_takeOff_37 ?_
  refine lv_iconst (v := 0) hx hb dX4_takeOff_40 (by decide) ?_
  refine lv_iload_n hx hb dX4_takeOff_41 rfl (lv_at hl 2 rfl) ?_
  refine lv_iload_n hx hb dX4_takeOff_42 rfl (lv_at hl 3 rfl) ?_
  refine lv_lload hx hb dX4_takeOff_43 (lv_at hl 0 rfl) ?_
  refine lv_lneg hx hb dX4_takeOff_45 ?_
  obtain ⟨f10, hd9⟩ := ex1 (D_X3_addLine r q f8 7 0 p0 p1 (-x5))
  replace hR := bnd1_use hd9 hR
  refine call_V (n := 4) (As := [.int 0, .int p0, .int p1, .long (-x5)]) (rest := []) hX hB (k_X3_addLine κ l a r q f8 7 0 p0 p1 (-x5) (by decide) f10 hd9) ⟨rfl, yk_X3_addLine⟩ wm_2_22 wm_2_23 wm_2_24 wm_1_2 wm_2_25 ⟨Nat.le_of_ble_eq_true rfl, Nat.le_of_ble_eq_true rfl⟩ ⟨Nat.le_of_ble_eq_true rfl, Nat.le_of_ble_eq_true rfl⟩ (cwG (i := 7) (by decide)) rfl rfl rfl hl.1 rfl (Nat.le_of_ble_eq_true rfl) dX4_takeOff_46 (fun o w' H locs hp hB => ?_)
  obtain ⟨rfl, rfl⟩ := hp
  refine W.eq (g2 := F0 m 49 ls []) rfl ?_
  refine lv_aload_n hx hb dX4_takeOff_49 rfl (lv_at hl 1 rfl) ?_
  refine lv_aload_n hx hb dX4_takeOff_50 rfl (lv_at hl 1 rfl) ?_
  refine gf hX hB cw2 rfl in4 0 (by decide) wm_1_74 rfl rfl dX4_takeOff_51 ?_
  refine lv_ldc2 (own := RX4) (v := 1000000000) hx hb hX.1.2.2.2.1 (hX.1.2.2.2.2 _ wm_2_26) dX4_takeOff_54 ?_
  obtain ⟨x12, hd11⟩ := ex1 (D_X3_isWithin r q f10 6 1000000000)
  replace hR := bnd1_use hd11 hR
  refine call_V (n := 1) (As := [.long 1000000000]) (rest := [.ref (a 2)]) hX hB (k_X3_isWithin κ l a r q f10 6 1000000000 (by decide) x12 hd11) ⟨rfl, yk_X3_isWithin⟩ wm_2_27 wm_2_28 wm_2_29 wm_1_2 wm_2_30 ⟨Nat.le_of_ble_eq_true rfl, Nat.le_of_ble_eq_true rfl⟩ ⟨Nat.le_of_ble_eq_true rfl, Nat.le_of_ble_eq_true rfl⟩ (cwG (i := 6) (by decide)) rfl rfl rfl hl.1 rfl (Nat.le_of_ble_eq_true rfl) dX4_takeOff_57 (fun o w' H locs hp hB => ?_)
  obtain ⟨rfl, bx12, rfl⟩ := hp
  refine W.eq (g2 := F0 m 60 ls [.int x12, .ref (a 2)]) rfl ?_
  refine lv_if_eq (tgt := 76) hx hb dX4_takeOff_60 (by decide) (fun c13 => ?_) (fun c13 => ?_)
  · replace hR := ifp c13 hR
    refine lv_iconst (v := 1) hx hb dX4_takeOff_76 (by decide) ?_
    refine lv_goto (tgt := 81) hx hb dX4_takeOff_77 (by decide) ?_
    refine pf (ty := .boolean) hX hB cw2 rfl in4 tyX4_ok nmX4 2 (by decide) wm_1_78 rfl rfl rfl rfl rfl (Nat.le_of_ble_eq_true rfl) (cwSQ0 _) dX4_takeOff_81 (fun H locs hB => ?_)
    rw [← hQ]
    exact end_v hX hB hA3 rfl (by obtain ⟨rfl, rfl⟩ := pr2 hR; exact ⟨rfl, rfl, rfl⟩) (Nat.le_of_ble_eq_true rfl) (Nat.le_of_ble_eq_true rfl) dX4_takeOff_84
  · replace hR := ifn c13 hR
    refine lv_aload_n hx hb dX4_takeOff_63 rfl (lv_at hl 1 rfl) ?_
    refine gf hX hB cw2 rfl in4 1 (by decide) wm_1_76 rfl rfl dX4_takeOff_64 ?_
    refine lv_ldc2 (own := RX4) (v := 1000000000) hx hb hX.1.2.2.2.1 (hX.1.2.2.2.2 _ wm_2_26) dX4_takeOff_67 ?_
    obtain ⟨x15, hd14⟩ := ex1 (D_X3_isWithin r q f10 7 1000000000)
    replace hR := bnd1_use hd14 hR
    refine call_V (n := 1) (As := [.long 1000000000]) (rest := [.ref (a 2)]) hX hB (k_X3_isWithin κ l a r q f10 7 1000000000 (by decide) x15 hd14) ⟨rfl, yk_X3_isWithin⟩ wm_2_27 wm_2_28 wm_2_29 wm_1_2 wm_2_30 ⟨Nat.le_of_ble_eq_true rfl, Nat.le_of_ble_eq_true rfl⟩ ⟨Nat.le_of_ble_eq_true rfl, Nat.le_of_ble_eq_true rfl⟩ (cwG (i := 7) (by decide)) rfl rfl rfl hl.1 rfl (Nat.le_of_ble_eq_true rfl) dX4_takeOff_70 (fun o w' H locs hp hB => ?_)
    obtain ⟨rfl, bx15, rfl⟩ := hp
    refine W.eq (g2 := F0 m 73 ls [.int x15, .ref (a 2)]) rfl ?_
    refine lv_if_ne (tgt := 80) hx hb dX4_takeOff_73 (by decide) (fun c16 => ?_) (fun c16 => ?_)
    · replace hR := ifn c16 hR
      refine lv_iconst (v := 0) hx hb dX4_takeOff_80 (by decide) ?_
      refine pf (ty := .boolean) hX hB cw2 rfl in4 tyX4_ok nmX4 2 (by decide) wm_1_78 rfl rfl rfl rfl rfl (Nat.le_of_ble_eq_true rfl) (cwSQ0 _) dX4_takeOff_81 (fun H locs hB => ?_)
      rw [← hQ]
      exact end_v hX hB hA3 rfl (by obtain ⟨rfl, rfl⟩ := pr2 hR; exact ⟨rfl, rfl, rfl⟩) (Nat.le_of_ble_eq_true rfl) (Nat.le_of_ble_eq_true rfl) dX4_takeOff_84
    · replace hR := ifp c16 hR
      refine lv_iconst (v := 1) hx hb dX4_takeOff_76 (by decide) ?_
      refine lv_goto (tgt := 81) hx hb dX4_takeOff_77 (by decide) ?_
      refine pf (ty := .boolean) hX hB cw2 rfl in4 tyX4_ok nmX4 2 (by decide) wm_1_78 rfl rfl rfl rfl rfl (Nat.le_of_ble_eq_true rfl) (cwSQ0 _) dX4_takeOff_81 (fun H locs hB => ?_)
      rw [← hQ]
      exact end_v hX hB hA3 rfl (by obtain ⟨rfl, rfl⟩ := pr2 hR; exact ⟨rfl, rfl, rfl⟩) (Nat.le_of_ble_eq_true rfl) (Nat.le_of_ble_eq_true rfl) dX4_takeOff_84
noncomputable def D_X4_isClearBelow_4 (r : Nat → Int32) (q : Nat → Int32) (f : Nat → Nat → Int64) (p1 : Int32) (nn : Nat) : Int32 → Int32 := @Nat.rec (fun _ => Int32 → Int32) (fun _ => default) (fun _ lb4 (y3_4 : Int32) => (if (r (2 * 6)) ≤ y3_4 then 1 else bnd1 (D_X3_get r q f 6 y3_4 p1) (fun (x11 : Int64) => (if (lg_cmp x11 0) = 0 then (lb4 (y3_4 + 1)) else 0)))) nn
theorem D_X4_isClearBelow_4_s {r : Nat → Int32} {q : Nat → Int32} {f : Nat → Nat → Int64} {p1 : Int32} {nn : Nat} {y3_4 : Int32} : D_X4_isClearBelow_4 r q f p1 (nn + 1) y3_4 = (if (r (2 * 6)) ≤ y3_4 then 1 else bnd1 (D_X3_get r q f 6 y3_4 p1) (fun (x11 : Int64) => (if (lg_cmp x11 0) = 0 then ((D_X4_isClearBelow_4 r q f p1 nn) (y3_4 + 1)) else 0))) := rfl
noncomputable def D_X4_isClearBelow (r : Nat → Int32) (q : Nat → Int32) (f : Nat → Nat → Int64) (p0 : Int32) (p1 : Int32) : Int32 := (D_X4_isClearBelow_4 r q f p1 (gap (r (2 * 6)) (p0 + 1) + 1) (p0 + 1))
theorem D_X4_isClearBelow_s {r : Nat → Int32} {q : Nat → Int32} {f : Nat → Nat → Int64} {p0 : Int32} {p1 : Int32} : D_X4_isClearBelow r q f p0 p1 = (D_X4_isClearBelow_4 r q f p1 (gap (r (2 * 6)) (p0 + 1) + 1) (p0 + 1)) := rfl
set_option maxHeartbeats 4000000 in
set_option maxRecDepth 100000 in
theorem k_X4_isClearBelow (κ : Kt) (l : Launch) (a : Nat → Nat) (r q : Nat → Int32) (f : Nat → Nat → Int64) (p0 : Int32) (p1 : Int32)  (o_x : Int32) (hR : D_X4_isClearBelow r q f p0 p1 = o_x) : CM κ l yX4_isClearBelow cX4_isClearBelow 4 (some .boolean) 1 22 0 0 [.ref (a 2), .int p0, .int p1] (cw κ a r q f) (fun o w' => o = some (.int o_x) ∧ (o_x = 0 ∨ o_x = 1) ∧ w' = cw κ a r q f) := by
  refine CM_begin (plainFor_of_name pn_RX4) (Nat.le_of_ble_eq_true rfl) ?_
  intro p e s m args below meth c A Q hX hnm hA3 hQ hB ls hl
  have hx := hX.1.1
  have hb := hX.1.2.1
  have hl : lv_has ls 4 [(0, .ref (a 2)), (1, .int p0), (2, .int p1)] := hl
  replace hR := (D_X4_isClearBelow_s).symm.trans hR
  refine lv_iload_n hx hb dX4_isClearBelow_0 rfl (lv_at hl 1 rfl) ?_
  refine lv_iconst (v := 1) hx hb dX4_isClearBelow_1 (by decide) ?_
  refine lv_iadd hx hb dX4_isClearBelow_2 ?_
  refine lv_istore_n (lv' := [(3, .int (p0 + 1)), (0, .ref (a 2)), (1, .int p0), (2, .int p1)]) hx hb dX4_isClearBelow_3 rfl hl (by decide) rfl (fun ls hl => ?_)
  have lp4 : ∀ (nn4 : Nat) (y3_4 : Int32) (H : Heap) (locs : List Loc), gap (r (2 * 6)) y3_4 < nn4 → D_X4_isClearBelow_4 r q f p1 nn4 y3_4 = o_x → Bd κ A s (cw κ a r q f) H locs → ∀ ls : Array Slot, lv_has ls 4 [(3, .int y3_4), (0, .ref (a 2)), (1, .int p0), (2, .int p1)] → W p l e (Rm 1 22 0 0) s m args below meth c H locs 0 0 Q (F0 m 4 ls []) := by
    intro nn4
    induction nn4 with
    | zero => intro y3_4 H locs hμ; exact absurd hμ (Nat.not_lt_zero _)
    | succ nn4 ih4 =>
      intro y3_4 H locs hμ4 hR hB ls hl
      replace hR := (D_X4_isClearBelow_4_s).symm.trans hR
      refine lv_iload_n hx hb dX4_isClearBelow_4 rfl (lv_at hl 0 rfl) ?_
      refine lv_aload_n hx hb dX4_isClearBelow_5 rfl (lv_at hl 1 rfl) ?_
      refine gf hX hB cw2 rfl in4 0 (by decide) wm_1_74 rfl rfl dX4_isClearBelow_6 ?_
      refine gfN hX hB (cwG (i := 6) (by decide)) rfl in3 1 (by decide) wn_1_48 rfl rfl dX4_isClearBelow_9 ?_
      refine lv_icmp_ge (tgt := 37) hx hb dX4_isClearBelow_12 (by decide) (fun c9 => ?_) (fun c9 => ?_)
      · replace hR := ifp c9 hR
        refine lv_iconst (v := 1) hx hb dX4_isClearBelow_37 (by decide) ?_
        rw [← hQ]
        exact end_i hX hB hA3 rfl rfl (by obtain rfl := hR; exact ⟨rfl, Or.inr rfl, rfl⟩) (Nat.le_of_ble_eq_true rfl) (Nat.le_of_ble_eq_true rfl) dX4_isClearBelow_38
      · replace hR := ifn c9 hR
        refine lv_aload_n hx hb dX4_isClearBelow_15 rfl (lv_at hl 1 rfl) ?_
        refine gf hX hB cw2 rfl in4 0 (by decide) wm_1_74 rfl rfl dX4_isClearBelow_16 ?_
        refine lv_iload_n hx hb dX4_isClearBelow_19 rfl (lv_at hl 0 rfl) ?_
        refine lv_iload_n hx hb dX4_isClearBelow_20 rfl (lv_at hl 3 rfl) ?_
        obtain ⟨x11, hd10⟩ := ex1 (D_X3_get r q f 6 y3_4 p1)
        replace hR := bnd1_use hd10 hR
        refine call_V (n := 2) (As := [.int y3_4, .int p1]) (rest := []) hX hB (k_X3_get κ l a r q f 6 y3_4 p1 (by decide) x11 hd10) ⟨rfl, yk_X3_get⟩ wm_1_235 wm_1_187 wm_1_188 wm_1_2 wm_1_189 ⟨Nat.le_of_ble_eq_true rfl, Nat.le_of_ble_eq_true rfl⟩ ⟨Nat.le_of_ble_eq_true rfl, Nat.le_of_ble_eq_true rfl⟩ (cwG (i := 6) (by decide)) rfl rfl rfl hl.1 rfl (Nat.le_of_ble_eq_true rfl) dX4_isClearBelow_21 (fun o w' H locs hp hB => ?_)
        obtain ⟨rfl, rfl⟩ := hp
        refine W.eq (g2 := F0 m 24 ls [.long x11]) rfl ?_
        refine lv_lconst (v := 0) hx hb dX4_isClearBelow_24 (by decide) ?_
        refine W.lcmp hx hb dX4_isClearBelow_25 ?_
        refine lv_if_eq (tgt := 31) hx hb dX4_isClearBelow_26 (by decide) (fun c12 => ?_) (fun c12 => ?_)
        · replace hR := ifp c12 hR
          refine lv_iinc (v := y3_4 + 1) (lv' := [(3, .int (y3_4 + 1)), (0, .ref (a 2)), (1, .int p0), (2, .int p1)]) hx hb dX4_isClearBelow_31 hl (k := 0) rfl rfl (by decide) rfl (fun ls hl => ?_)
          refine lv_goto (tgt := 4) hx hb dX4_isClearBelow_34 (by decide) ?_
          exact ih4 (y3_4 + 1) _ _  (gap_step c9 hμ4) hR hB _ hl
        · replace hR := ifn c12 hR
          refine lv_iconst (v := 0) hx hb dX4_isClearBelow_29 (by decide) ?_
          rw [← hQ]
          exact end_i hX hB hA3 rfl rfl (by obtain rfl := hR; exact ⟨rfl, Or.inl rfl, rfl⟩) (Nat.le_of_ble_eq_true rfl) (Nat.le_of_ble_eq_true rfl) dX4_isClearBelow_30
  exact lp4 _ (p0 + 1) _ _  (Nat.lt_succ_self _) hR hB _ hl
noncomputable def D_X4_clearColumn_95 (r : Nat → Int32) (p0 : Int32) (p1 : Int32) (nn : Nat) : Int32 → (Nat → Int32) → (Nat → Nat → Int64) → Int32 × (Nat → Int32) × (Nat → Nat → Int64) := @Nat.rec (fun _ => Int32 → (Nat → Int32) → (Nat → Nat → Int64) → Int32 × (Nat → Int32) × (Nat → Nat → Int64)) (fun _ _ _ => default) (fun _ lb95 (y5_95 : Int32) (q_95 : Nat → Int32) (f_95 : Nat → Nat → Int64) => (if p0 ≤ y5_95 then (1, q_95, f_95) else (if (q_95 0) = 0 then bnd2 (D_X4_takeOff r q_95 f_95 y5_95 p0 p1) (fun (q319 : Nat → Int32) (f321 : Nat → Nat → Int64) => (lb95 (y5_95 + 1) q319 f321)) else (1, q_95, f_95)))) nn
theorem D_X4_clearColumn_95_s {r : Nat → Int32} {p0 : Int32} {p1 : Int32} {nn : Nat} {y5_95 : Int32} {q_95 : Nat → Int32} {f_95 : Nat → Nat → Int64} : D_X4_clearColumn_95 r p0 p1 (nn + 1) y5_95 q_95 f_95 = (if p0 ≤ y5_95 then (1, q_95, f_95) else (if (q_95 0) = 0 then bnd2 (D_X4_takeOff r q_95 f_95 y5_95 p0 p1) (fun (q319 : Nat → Int32) (f321 : Nat → Nat → Int64) => ((D_X4_clearColumn_95 r p0 p1 nn) (y5_95 + 1) q319 f321)) else (1, q_95, f_95))) := rfl
noncomputable def D_X4_clearColumn_j76 (r : Nat → Int32) (p0 : Int32) (p1 : Int32) (lb2 : Int32 → (Nat → Int32) → (Nat → Nat → Int64) → Int32 × (Nat → Int32) × (Nat → Nat → Int64)) (y3_2 : Int32) (q_43 : Nat → Int32) (f_43 : Nat → Nat → Int64) : Int32 × (Nat → Int32) × (Nat → Nat → Int64) := (if (q_43 0) = 0 then bnd1 (D_X4_isClearBelow r q_43 f_43 p0 p1) (fun (x302 : Int32) => (if x302 = 0 then (lb2 (y3_2 + 1) q_43 f_43) else (D_X4_clearColumn_95 r p0 p1 (gap p0 0 + 1) 0 q_43 f_43))) else (lb2 (y3_2 + 1) q_43 f_43))
theorem D_X4_clearColumn_j76_s {r : Nat → Int32} {p0 : Int32} {p1 : Int32} {lb2 : Int32 → (Nat → Int32) → (Nat → Nat → Int64) → Int32 × (Nat → Int32) × (Nat → Nat → Int64)} {y3_2 : Int32} {q_43 : Nat → Int32} {f_43 : Nat → Nat → Int64} : D_X4_clearColumn_j76 r p0 p1 lb2 y3_2 q_43 f_43 = (if (q_43 0) = 0 then bnd1 (D_X4_isClearBelow r q_43 f_43 p0 p1) (fun (x302 : Int32) => (if x302 = 0 then (lb2 (y3_2 + 1) q_43 f_43) else (D_X4_clearColumn_95 r p0 p1 (gap p0 0 + 1) 0 q_43 f_43))) else (lb2 (y3_2 + 1) q_43 f_43)) := rfl
noncomputable def D_X4_clearColumn_43 (r : Nat → Int32) (p0 : Int32) (p1 : Int32) (lb2 : Int32 → (Nat → Int32) → (Nat → Nat → Int64) → Int32 × (Nat → Int32) × (Nat → Nat → Int64)) (y3_2 : Int32) (nn : Nat) : Int32 → (Nat → Int32) → (Nat → Nat → Int64) → Int32 × (Nat → Int32) × (Nat → Nat → Int64) := @Nat.rec (fun _ => Int32 → (Nat → Int32) → (Nat → Nat → Int64) → Int32 × (Nat → Int32) × (Nat → Nat → Int64)) (fun _ _ _ => default) (fun _ lb43 (y5_43 : Int32) (q_43 : Nat → Int32) (f_43 : Nat → Nat → Int64) => (if (r (2 * 6)) ≤ y5_43 then (D_X4_clearColumn_j76 r p0 p1 lb2 y3_2 q_43 f_43) else (if (q_43 0) = 0 then bnd2 (D_X4_takeOff r q_43 f_43 y5_43 p0 p1) (fun (q325 : Nat → Int32) (f327 : Nat → Nat → Int64) => (lb43 (y5_43 + 1) q325 f327)) else (D_X4_clearColumn_j76 r p0 p1 lb2 y3_2 q_43 f_43)))) nn
theorem D_X4_clearColumn_43_s {r : Nat → Int32} {p0 : Int32} {p1 : Int32} {lb2 : Int32 → (Nat → Int32) → (Nat → Nat → Int64) → Int32 × (Nat → Int32) × (Nat → Nat → Int64)} {y3_2 : Int32} {nn : Nat} {y5_43 : Int32} {q_43 : Nat → Int32} {f_43 : Nat → Nat → Int64} : D_X4_clearColumn_43 r p0 p1 lb2 y3_2 (nn + 1) y5_43 q_43 f_43 = (if (r (2 * 6)) ≤ y5_43 then (D_X4_clearColumn_j76 r p0 p1 lb2 y3_2 q_43 f_43) else (if (q_43 0) = 0 then bnd2 (D_X4_takeOff r q_43 f_43 y5_43 p0 p1) (fun (q325 : Nat → Int32) (f327 : Nat → Nat → Int64) => ((D_X4_clearColumn_43 r p0 p1 lb2 y3_2 nn) (y5_43 + 1) q325 f327)) else (D_X4_clearColumn_j76 r p0 p1 lb2 y3_2 q_43 f_43))) := rfl
noncomputable def D_X4_clearColumn_2 (r : Nat → Int32) (p0 : Int32) (p1 : Int32) (nn : Nat) : Int32 → (Nat → Int32) → (Nat → Nat → Int64) → Int32 × (Nat → Int32) × (Nat → Nat → Int64) := @Nat.rec (fun _ => Int32 → (Nat → Int32) → (Nat → Nat → Int64) → Int32 × (Nat → Int32) × (Nat → Nat → Int64)) (fun _ _ _ => default) (fun _ lb2 (y3_2 : Int32) (q_2 : Nat → Int32) (f_2 : Nat → Nat → Int64) => (if 1000000 ≤ y3_2 then (0, q_2, f_2) else (if (q_2 0) = 0 then bnd1 (D_X4_findLeastRow r q_2 f_2 p0 p1) (fun (x222 : Int32) => (if 0 ≤ x222 then bnd1 (D_X4_bring r q_2 f_2 x222 p0 p1) (fun (f225 : Nat → Nat → Int64) => (D_X4_clearColumn_43 r p0 p1 lb2 y3_2 (gap (r (2 * 6)) (p0 + 1) + 1) (p0 + 1) q_2 f225)) else (0, q_2, f_2))) else (0, q_2, f_2)))) nn
theorem D_X4_clearColumn_2_s {r : Nat → Int32} {p0 : Int32} {p1 : Int32} {nn : Nat} {y3_2 : Int32} {q_2 : Nat → Int32} {f_2 : Nat → Nat → Int64} : D_X4_clearColumn_2 r p0 p1 (nn + 1) y3_2 q_2 f_2 = (if 1000000 ≤ y3_2 then (0, q_2, f_2) else (if (q_2 0) = 0 then bnd1 (D_X4_findLeastRow r q_2 f_2 p0 p1) (fun (x222 : Int32) => (if 0 ≤ x222 then bnd1 (D_X4_bring r q_2 f_2 x222 p0 p1) (fun (f225 : Nat → Nat → Int64) => (D_X4_clearColumn_43 r p0 p1 (D_X4_clearColumn_2 r p0 p1 nn) y3_2 (gap (r (2 * 6)) (p0 + 1) + 1) (p0 + 1) q_2 f225)) else (0, q_2, f_2))) else (0, q_2, f_2))) := rfl
noncomputable def D_X4_clearColumn (r : Nat → Int32) (q : Nat → Int32) (f : Nat → Nat → Int64) (p0 : Int32) (p1 : Int32) : Int32 × (Nat → Int32) × (Nat → Nat → Int64) := (D_X4_clearColumn_2 r p0 p1 (gap 1000000 0 + 1) 0 q f)
theorem D_X4_clearColumn_s {r : Nat → Int32} {q : Nat → Int32} {f : Nat → Nat → Int64} {p0 : Int32} {p1 : Int32} : D_X4_clearColumn r q f p0 p1 = (D_X4_clearColumn_2 r p0 p1 (gap 1000000 0 + 1) 0 q f) := rfl
set_option maxHeartbeats 4000000 in
set_option maxRecDepth 100000 in
theorem k_X4_clearColumn (κ : Kt) (l : Launch) (a : Nat → Nat) (r q : Nat → Int32) (f : Nat → Nat → Int64) (p0 : Int32) (p1 : Int32)  (o_x : Int32) (o_q : Nat → Int32) (o_f : Nat → Nat → Int64) (hR : D_X4_clearColumn r q f p0 p1 = (o_x, o_q, o_f)) : CM κ l yX4_clearColumn cX4_clearColumn 6 (some .boolean) 3 76 0 0 [.ref (a 2), .int p0, .int p1] (cw κ a r q f) (fun o w' => o = some (.int o_x) ∧ (o_x = 0 ∨ o_x = 1) ∧ o_q 4 = q 4 ∧ w' = cw κ a r o_q o_f) := by
  refine CM_begin (plainFor_of_name pn_RX4) (Nat.le_of_ble_eq_true rfl) ?_
  intro p e s m args below meth c A Q hX hnm hA3 hQ hB ls hl
  have hx := hX.1.1
  have hb := hX.1.2.1
  have hl : lv_has ls 6 [(0, .ref (a 2)), (1, .int p0), (2, .int p1)] := hl
  replace hR := (D_X4_clearColumn_s).symm.trans hR
  refine lv_iconst (v := 0) hx hb dX4_clearColumn_0 (by decide) ?_
  refine lv_istore_n (lv' := [(3, .int 0), (0, .ref (a 2)), (1, .int p0), (2, .int p1)]) hx hb dX4_clearColumn_1 rfl hl (by decide) rfl (fun ls hl => ?_)
  have lp2 : ∀ (nn2 : Nat) (y3_2 : Int32) (q_2 : Nat → Int32) (f_2 : Nat → Nat → Int64) (H : Heap) (locs : List Loc), q_2 4 = q 4 → gap 1000000 y3_2 < nn2 → D_X4_clearColumn_2 r p0 p1 nn2 y3_2 q_2 f_2 = (o_x, o_q, o_f) → Bd κ A s (cw κ a r q_2 f_2) H locs → ∀ ls : Array Slot, lv_has ls 6 [(3, .int y3_2), (0, .ref (a 2)), (1, .int p0), (2, .int p1)] → W p l e (Rm 3 76 0 0) s m args below meth c H locs 0 0 Q (F0 m 2 ls []) := by
    intro nn2
    induction nn2 with
    | zero => intro y3_2 q_2 f_2 H locs hwq_2 hμ; exact absurd hμ (Nat.not_lt_zero _)
    | succ nn2 ih2 =>
      intro y3_2 q_2 f_2 H locs hwq_2 hμ2 hR hB ls hl
      replace hR := (D_X4_clearColumn_2_s).symm.trans hR
      refine lv_iload_n hx hb dX4_clearColumn_2 rfl (lv_at hl 0 rfl) ?_
      refine lv_ldc (own := RX4) (v := 1000000) hx hb hX.1.2.2.2.1 (hX.1.2.2.2.2 _ wm_1_230) dX4_clearColumn_3 ?_
      refine lv_icmp_ge (tgt := 130) hx hb dX4_clearColumn_5 (by decide) (fun c219 => ?_) (fun c219 => ?_)
      · replace hR := ifp c219 hR
        refine lv_iconst (v := 0) hx hb dX4_clearColumn_130 (by decide) ?_
        rw [← hQ]
        exact end_i hX hB hA3 rfl rfl (by obtain ⟨rfl, rfl, rfl⟩ := pr3 hR; exact ⟨rfl, Or.inl rfl, hwq_2, rfl⟩) (Nat.le_of_ble_eq_true rfl) (Nat.le_of_ble_eq_true rfl) dX4_clearColumn_131
      · replace hR := ifn c219 hR
        refine lv_aload_n hx hb dX4_clearColumn_8 rfl (lv_at hl 1 rfl) ?_
        refine gf hX hB cw2 rfl in4 2 (by decide) wm_1_78 rfl rfl dX4_clearColumn_9 ?_
        refine lv_if_ne (tgt := 130) hx hb dX4_clearColumn_12 (by decide) (fun c220 => ?_) (fun c220 => ?_)
        · replace hR := ifn c220 hR
          refine lv_iconst (v := 0) hx hb dX4_clearColumn_130 (by decide) ?_
          rw [← hQ]
          exact end_i hX hB hA3 rfl rfl (by obtain ⟨rfl, rfl, rfl⟩ := pr3 hR; exact ⟨rfl, Or.inl rfl, hwq_2, rfl⟩) (Nat.le_of_ble_eq_true rfl) (Nat.le_of_ble_eq_true rfl) dX4_clearColumn_131
        · replace hR := ifp c220 hR
          refine lv_aload_n hx hb dX4_clearColumn_15 rfl (lv_at hl 1 rfl) ?_
          refine lv_iload_n hx hb dX4_clearColumn_16 rfl (lv_at hl 2 rfl) ?_
          refine lv_iload_n hx hb dX4_clearColumn_17 rfl (lv_at hl 3 rfl) ?_
          obtain ⟨x222, hd221⟩ := ex1 (D_X4_findLeastRow r q_2 f_2 p0 p1)
          replace hR := bnd1_use hd221 hR
          refine call_V (n := 2) (As := [.int p0, .int p1]) (rest := []) hX hB (k_X4_findLeastRow κ l a r q_2 f_2 p0 p1 x222 hd221) ⟨rfl, yk_X4_findLeastRow⟩ wm_1_231 wm_1_233 wp_2 wm_1_3 wm_1_234 ⟨Nat.le_of_ble_eq_true rfl, Nat.le_of_ble_eq_true rfl⟩ ⟨Nat.le_of_ble_eq_true rfl, Nat.le_of_ble_eq_true rfl⟩ cw2 rfl rfl rfl hl.1 rfl (Nat.le_of_ble_eq_true rfl) dX4_clearColumn_18 (fun o w' H locs hp hB => ?_)
          obtain ⟨rfl, rfl⟩ := hp
          refine W.eq (g2 := F0 m 21 ls [.int x222]) rfl ?_
          refine lv_istore (lv' := [(4, .int x222), (3, .int y3_2), (0, .ref (a 2)), (1, .int p0), (2, .int p1)]) hx hb dX4_clearColumn_21 hl (by decide) rfl (fun ls hl => ?_)
          refine lv_iload hx hb dX4_clearColumn_23 (lv_at hl 0 rfl) ?_
          refine lv_if_ge (tgt := 30) hx hb dX4_clearColumn_25 (by decide) (fun c223 => ?_) (fun c223 => ?_)
          · replace hR := ifp c223 hR
            refine lv_aload_n hx hb dX4_clearColumn_30 rfl (lv_at hl 2 rfl) ?_
            refine lv_iload hx hb dX4_clearColumn_31 (lv_at hl 0 rfl) ?_
            refine lv_iload_n hx hb dX4_clearColumn_33 rfl (lv_at hl 3 rfl) ?_
            refine lv_iload_n hx hb dX4_clearColumn_34 rfl (lv_at hl 4 rfl) ?_
            obtain ⟨f225, hd224⟩ := ex1 (D_X4_bring r q_2 f_2 x222 p0 p1)
            replace hR := bnd1_use hd224 hR
            refine call_V (n := 3) (As := [.int x222, .int p0, .int p1]) (rest := []) hX hB (k_X4_bring κ l a r q_2 f_2 x222 p0 p1 f225 hd224) ⟨rfl, yk_X4_bring⟩ wm_1_239 wm_2_1 wp_3 wm_1_3 wm_2_2 ⟨Nat.le_of_ble_eq_true rfl, Nat.le_of_ble_eq_true rfl⟩ ⟨Nat.le_of_ble_eq_true rfl, Nat.le_of_ble_eq_true rfl⟩ cw2 rfl rfl rfl hl.1 rfl (Nat.le_of_ble_eq_true rfl) dX4_clearColumn_35 (fun o w' H locs hp hB => ?_)
            obtain ⟨rfl, rfl⟩ := hp
            refine W.eq (g2 := F0 m 38 ls []) rfl ?_
            refine lv_iload_n hx hb dX4_clearColumn_38 rfl (lv_at hl 3 rfl) ?_
            refine lv_iconst (v := 1) hx hb dX4_clearColumn_39 (by decide) ?_
            refine lv_iadd hx hb dX4_clearColumn_40 ?_
            refine lv_istore (lv' := [(5, .int (p0 + 1)), (4, .int x222), (3, .int y3_2), (0, .ref (a 2)), (1, .int p0), (2, .int p1)]) hx hb dX4_clearColumn_41 hl (by decide) rfl (fun ls hl => ?_)
            have lp43 : ∀ (nn43 : Nat) (y5_43 : Int32) (q_43 : Nat → Int32) (f_43 : Nat → Nat → Int64) (H : Heap) (locs : List Loc), q_43 4 = q 4 → gap (r (2 * 6)) y5_43 < nn43 → D_X4_clearColumn_43 r p0 p1 (D_X4_clearColumn_2 r p0 p1 nn2) y3_2 nn43 y5_43 q_43 f_43 = (o_x, o_q, o_f) → Bd κ A s (cw κ a r q_43 f_43) H locs → ∀ ls : Array Slot, lv_has ls 6 [(5, .int y5_43), (4, .int x222), (3, .int y3_2), (0, .ref (a 2)), (1, .int p0), (2, .int p1)] → W p l e (Rm 3 76 0 0) s m args below meth c H locs 0 0 Q (F0 m 43 ls []) := by
              intro nn43
              induction nn43 with
              | zero => intro y5_43 q_43 f_43 H locs hwq_43 hμ; exact absurd hμ (Nat.not_lt_zero _)
              | succ nn43 ih43 =>
                intro y5_43 q_43 f_43 H locs hwq_43 hμ43 hR hB ls hl
                replace hR := (D_X4_clearColumn_43_s).symm.trans hR
                refine lv_iload hx hb dX4_clearColumn_43 (lv_at hl 0 rfl) ?_
                refine lv_aload_n hx hb dX4_clearColumn_45 rfl (lv_at hl 3 rfl) ?_
                refine gf hX hB cw2 rfl in4 0 (by decide) wm_1_74 rfl rfl dX4_clearColumn_46 ?_
                refine gfN hX hB (cwG (i := 6) (by decide)) rfl in3 1 (by decide) wn_1_48 rfl rfl dX4_clearColumn_49 ?_
                have jn76 : ∀ (H : Heap) (locs : List Loc), D_X4_clearColumn_j76 r p0 p1 (D_X4_clearColumn_2 r p0 p1 nn2) y3_2 q_43 f_43 = (o_x, o_q, o_f) → Bd κ A s (cw κ a r q_43 f_43) H locs → ∀ ls : Array Slot, lv_has ls 6 [(5, .int y5_43), (4, .int x222), (3, .int y3_2), (0, .ref (a 2)), (1, .int p0), (2, .int p1)] → W p l e (Rm 3 76 0 0) s m args below meth c H locs 0 0 Q (F0 m 76 ls []) := by
                  intro H locs hR hB ls hl
                  replace hR := (D_X4_clearColumn_j76_s).symm.trans hR
                  refine lv_aload_n hx hb dX4_clearColumn_76 rfl (lv_at hl 3 rfl) ?_
                  refine gf hX hB cw2 rfl in4 2 (by decide) wm_1_78 rfl rfl dX4_clearColumn_77 ?_
                  refine lv_if_ne (tgt := 124) hx hb dX4_clearColumn_80 (by decide) (fun c300 => ?_) (fun c300 => ?_)
                  · replace hR := ifn c300 hR
                    refine lv_iinc (v := y3_2 + 1) (lv' := [(3, .int (y3_2 + 1)), (5, .int y5_43), (4, .int x222), (0, .ref (a 2)), (1, .int p0), (2, .int p1)]) hx hb dX4_clearColumn_124 hl (k := 2) rfl rfl (by decide) rfl (fun ls hl => ?_)
                    refine lv_goto (tgt := 2) hx hb dX4_clearColumn_127 (by decide) ?_
                    exact ih2 (y3_2 + 1) q_43 f_43 _ _ hwq_43 (gap_step c219 hμ2) hR hB _ (lv_sub hl [0, 3, 4, 5] rfl)
                  · replace hR := ifp c300 hR
                    refine lv_aload_n hx hb dX4_clearColumn_83 rfl (lv_at hl 3 rfl) ?_
                    refine lv_iload_n hx hb dX4_clearColumn_84 rfl (lv_at hl 4 rfl) ?_
                    refine lv_iload_n hx hb dX4_clearColumn_85 rfl (lv_at hl 5 rfl) ?_
                    obtain ⟨x302, hd301⟩ := ex1 (D_X4_isClearBelow r q_43 f_43 p0 p1)
                    replace hR := bnd1_use hd301 hR
                    refine call_V (n := 2) (As := [.int p0, .int p1]) (rest := []) hX hB (k_X4_isClearBelow κ l a r q_43 f_43 p0 p1 x302 hd301) ⟨rfl, yk_X4_isClearBelow⟩ wm_2_32 wm_2_34 wp_5 wm_1_3 wm_2_35 ⟨Nat.le_of_ble_eq_true rfl, Nat.le_of_ble_eq_true rfl⟩ ⟨Nat.le_of_ble_eq_true rfl, Nat.le_of_ble_eq_true rfl⟩ cw2 rfl rfl rfl hl.1 rfl (Nat.le_of_ble_eq_true rfl) dX4_clearColumn_86 (fun o w' H locs hp hB => ?_)
                    obtain ⟨rfl, bx302, rfl⟩ := hp
                    refine W.eq (g2 := F0 m 89 ls [.int x302]) rfl ?_
                    refine lv_if_eq (tgt := 124) hx hb dX4_clearColumn_89 (by decide) (fun c303 => ?_) (fun c303 => ?_)
                    · replace hR := ifp c303 hR
                      refine lv_iinc (v := y3_2 + 1) (lv' := [(3, .int (y3_2 + 1)), (5, .int y5_43), (4, .int x222), (0, .ref (a 2)), (1, .int p0), (2, .int p1)]) hx hb dX4_clearColumn_124 hl (k := 2) rfl rfl (by decide) rfl (fun ls hl => ?_)
                      refine lv_goto (tgt := 2) hx hb dX4_clearColumn_127 (by decide) ?_
                      exact ih2 (y3_2 + 1) q_43 f_43 _ _ hwq_43 (gap_step c219 hμ2) hR hB _ (lv_sub hl [0, 3, 4, 5] rfl)
                    · replace hR := ifn c303 hR
                      refine lv_iconst (v := 0) hx hb dX4_clearColumn_92 (by decide) ?_
                      refine lv_istore (lv' := [(5, .int 0), (4, .int x222), (3, .int y3_2), (0, .ref (a 2)), (1, .int p0), (2, .int p1)]) hx hb dX4_clearColumn_93 hl (by decide) rfl (fun ls hl => ?_)
                      have lp95 : ∀ (nn95 : Nat) (y5_95 : Int32) (q_95 : Nat → Int32) (f_95 : Nat → Nat → Int64) (H : Heap) (locs : List Loc), q_95 4 = q 4 → gap p0 y5_95 < nn95 → D_X4_clearColumn_95 r p0 p1 nn95 y5_95 q_95 f_95 = (o_x, o_q, o_f) → Bd κ A s (cw κ a r q_95 f_95) H locs → ∀ ls : Array Slot, lv_has ls 6 [(5, .int y5_95), (4, .int x222), (3, .int y3_2), (0, .ref (a 2)), (1, .int p0), (2, .int p1)] → W p l e (Rm 3 76 0 0) s m args below meth c H locs 0 0 Q (F0 m 95 ls []) := by
                        intro nn95
                        induction nn95 with
                        | zero => intro y5_95 q_95 f_95 H locs hwq_95 hμ; exact absurd hμ (Nat.not_lt_zero _)
                        | succ nn95 ih95 =>
                          intro y5_95 q_95 f_95 H locs hwq_95 hμ95 hR hB ls hl
                          replace hR := (D_X4_clearColumn_95_s).symm.trans hR
                          refine lv_iload hx hb dX4_clearColumn_95 (lv_at hl 0 rfl) ?_
                          refine lv_iload_n hx hb dX4_clearColumn_97 rfl (lv_at hl 4 rfl) ?_
                          refine lv_icmp_ge (tgt := 122) hx hb dX4_clearColumn_98 (by decide) (fun c316 => ?_) (fun c316 => ?_)
                          · replace hR := ifp c316 hR
                            refine lv_iconst (v := 1) hx hb dX4_clearColumn_122 (by decide) ?_
                            rw [← hQ]
                            exact end_i hX hB hA3 rfl rfl (by obtain ⟨rfl, rfl, rfl⟩ := pr3 hR; exact ⟨rfl, Or.inr rfl, hwq_95, rfl⟩) (Nat.le_of_ble_eq_true rfl) (Nat.le_of_ble_eq_true rfl) dX4_clearColumn_123
                          · replace hR := ifn c316 hR
                            refine lv_aload_n hx hb dX4_clearColumn_101 rfl (lv_at hl 3 rfl) ?_
                            refine gf hX hB cw2 rfl in4 2 (by decide) wm_1_78 rfl rfl dX4_clearColumn_102 ?_
                            refine lv_if_ne (tgt := 122) hx hb dX4_clearColumn_105 (by decide) (fun c317 => ?_) (fun c317 => ?_)
                            · replace hR := ifn c317 hR
                              refine lv_iconst (v := 1) hx hb dX4_clearColumn_122 (by decide) ?_
                              rw [← hQ]
                              exact end_i hX hB hA3 rfl rfl (by obtain ⟨rfl, rfl, rfl⟩ := pr3 hR; exact ⟨rfl, Or.inr rfl, hwq_95, rfl⟩) (Nat.le_of_ble_eq_true rfl) (Nat.le_of_ble_eq_true rfl) dX4_clearColumn_123
                            · replace hR := ifp c317 hR
                              refine lv_aload_n hx hb dX4_clearColumn_108 rfl (lv_at hl 3 rfl) ?_
                              refine lv_iload hx hb dX4_clearColumn_109 (lv_at hl 0 rfl) ?_
                              refine lv_iload_n hx hb dX4_clearColumn_111 rfl (lv_at hl 4 rfl) ?_
                              refine lv_iload_n hx hb dX4_clearColumn_112 rfl (lv_at hl 5 rfl) ?_
                              obtain ⟨q319, f321, hd318⟩ := ex2 (D_X4_takeOff r q_95 f_95 y5_95 p0 p1)
                              replace hR := bnd2_use hd318 hR
                              refine call_V (n := 3) (As := [.int y5_95, .int p0, .int p1]) (rest := []) hX hB (k_X4_takeOff κ l a r q_95 f_95 y5_95 p0 p1 q319 f321 hd318) ⟨rfl, yk_X4_takeOff⟩ wm_2_12 wm_2_14 wp_4 wm_1_3 wm_2_15 ⟨Nat.le_of_ble_eq_true rfl, Nat.le_of_ble_eq_true rfl⟩ ⟨Nat.le_of_ble_eq_true rfl, Nat.le_of_ble_eq_true rfl⟩ cw2 rfl rfl rfl hl.1 rfl (Nat.le_of_ble_eq_true rfl) dX4_clearColumn_113 (fun o w' H locs hp hB => ?_)
                              obtain ⟨rfl, hq320, rfl⟩ := hp
                              refine W.eq (g2 := F0 m 116 ls []) rfl ?_
                              refine lv_iinc (v := y5_95 + 1) (lv' := [(5, .int (y5_95 + 1)), (4, .int x222), (3, .int y3_2), (0, .ref (a 2)), (1, .int p0), (2, .int p1)]) hx hb dX4_clearColumn_116 hl (k := 0) rfl rfl (by decide) rfl (fun ls hl => ?_)
                              refine lv_goto (tgt := 95) hx hb dX4_clearColumn_119 (by decide) ?_
                              exact ih95 (y5_95 + 1) q319 f321 _ _ (hq320.trans hwq_95) (gap_step c316 hμ95) hR hB _ hl
                      exact lp95 _ 0 q_43 f_43 _ _ hwq_43 (Nat.lt_succ_self _) hR hB _ hl
                refine lv_icmp_ge (tgt := 76) hx hb dX4_clearColumn_52 (by decide) (fun c322 => ?_) (fun c322 => ?_)
                · replace hR := ifp c322 hR
                  exact jn76  _ _  hR hB _ hl
                · replace hR := ifn c322 hR
                  refine lv_aload_n hx hb dX4_clearColumn_55 rfl (lv_at hl 3 rfl) ?_
                  refine gf hX hB cw2 rfl in4 2 (by decide) wm_1_78 rfl rfl dX4_clearColumn_56 ?_
                  refine lv_if_ne (tgt := 76) hx hb dX4_clearColumn_59 (by decide) (fun c323 => ?_) (fun c323 => ?_)
                  · replace hR := ifn c323 hR
                    exact jn76  _ _  hR hB _ hl
                  · replace hR := ifp c323 hR
                    refine lv_aload_n hx hb dX4_clearColumn_62 rfl (lv_at hl 3 rfl) ?_
                    refine lv_iload hx hb dX4_clearColumn_63 (lv_at hl 0 rfl) ?_
                    refine lv_iload_n hx hb dX4_clearColumn_65 rfl (lv_at hl 4 rfl) ?_
                    refine lv_iload_n hx hb dX4_clearColumn_66 rfl (lv_at hl 5 rfl) ?_
                    obtain ⟨q325, f327, hd324⟩ := ex2 (D_X4_takeOff r q_43 f_43 y5_43 p0 p1)
                    replace hR := bnd2_use hd324 hR
                    refine call_V (n := 3) (As := [.int y5_43, .int p0, .int p1]) (rest := []) hX hB (k_X4_takeOff κ l a r q_43 f_43 y5_43 p0 p1 q325 f327 hd324) ⟨rfl, yk_X4_takeOff⟩ wm_2_12 wm_2_14 wp_4 wm_1_3 wm_2_15 ⟨Nat.le_of_ble_eq_true rfl, Nat.le_of_ble_eq_true rfl⟩ ⟨Nat.le_of_ble_eq_true rfl, Nat.le_of_ble_eq_true rfl⟩ cw2 rfl rfl rfl hl.1 rfl (Nat.le_of_ble_eq_true rfl) dX4_clearColumn_67 (fun o w' H locs hp hB => ?_)
                    obtain ⟨rfl, hq326, rfl⟩ := hp
                    refine W.eq (g2 := F0 m 70 ls []) rfl ?_
                    refine lv_iinc (v := y5_43 + 1) (lv' := [(5, .int (y5_43 + 1)), (4, .int x222), (3, .int y3_2), (0, .ref (a 2)), (1, .int p0), (2, .int p1)]) hx hb dX4_clearColumn_70 hl (k := 0) rfl rfl (by decide) rfl (fun ls hl => ?_)
                    refine lv_goto (tgt := 43) hx hb dX4_clearColumn_73 (by decide) ?_
                    exact ih43 (y5_43 + 1) q325 f327 _ _ (hq326.trans hwq_43) (gap_step c322 hμ43) hR hB _ hl
            exact lp43 _ (p0 + 1) q_2 f225 _ _ hwq_2 (Nat.lt_succ_self _) hR hB _ hl
          · replace hR := ifn c223 hR
            refine lv_iconst (v := 0) hx hb dX4_clearColumn_28 (by decide) ?_
            rw [← hQ]
            exact end_i hX hB hA3 rfl rfl (by obtain ⟨rfl, rfl, rfl⟩ := pr3 hR; exact ⟨rfl, Or.inl rfl, hwq_2, rfl⟩) (Nat.le_of_ble_eq_true rfl) (Nat.le_of_ble_eq_true rfl) dX4_clearColumn_29
  exact lp2 _ 0 q f _ _ rfl (Nat.lt_succ_self _) hR hB _ hl
noncomputable def D_X4_walk_28 (r8 : Nat → Int32) (nn : Nat) : Int32 → Int32 → (Nat → Int32) → (Nat → Nat → Int64) → (Nat → Int32) × (Nat → Int32) × (Nat → Nat → Int64) := @Nat.rec (fun _ => Int32 → Int32 → (Nat → Int32) → (Nat → Nat → Int64) → (Nat → Int32) × (Nat → Int32) × (Nat → Nat → Int64)) (fun _ _ _ _ => default) (fun _ lb28 (y3_28 : Int32) (y2_28 : Int32) (q_28 : Nat → Int32) (f_28 : Nat → Nat → Int64) => (if (r8 (2 * 6 + 1)) ≤ y3_28 then (r8, q_28, f_28) else (if (r8 (2 * 6)) ≤ y2_28 then (r8, q_28, f_28) else (if (q_28 0) = 0 then bnd3 (D_X4_clearColumn r8 q_28 f_28 y2_28 y3_28) (fun (x35 : Int32) (q36 : Nat → Int32) (f38 : Nat → Nat → Int64) => (if x35 = 0 then (lb28 (y3_28 + 1) y2_28 q36 f38) else (lb28 (y3_28 + 1) (y2_28 + 1) q36 f38))) else (r8, q_28, f_28))))) nn
theorem D_X4_walk_28_s {r8 : Nat → Int32} {nn : Nat} {y3_28 : Int32} {y2_28 : Int32} {q_28 : Nat → Int32} {f_28 : Nat → Nat → Int64} : D_X4_walk_28 r8 (nn + 1) y3_28 y2_28 q_28 f_28 = (if (r8 (2 * 6 + 1)) ≤ y3_28 then (r8, q_28, f_28) else (if (r8 (2 * 6)) ≤ y2_28 then (r8, q_28, f_28) else (if (q_28 0) = 0 then bnd3 (D_X4_clearColumn r8 q_28 f_28 y2_28 y3_28) (fun (x35 : Int32) (q36 : Nat → Int32) (f38 : Nat → Nat → Int64) => (if x35 = 0 then ((D_X4_walk_28 r8 nn) (y3_28 + 1) y2_28 q36 f38) else ((D_X4_walk_28 r8 nn) (y3_28 + 1) (y2_28 + 1) q36 f38))) else (r8, q_28, f_28)))) := rfl
noncomputable def D_X4_walk (r : Nat → Int32) (q : Nat → Int32) (f : Nat → Nat → Int64) (i : Nat) : (Nat → Int32) × (Nat → Int32) × (Nat → Nat → Int64) := bnd3 (D_X3_becomeLike r q f 6 i) (fun (r2 : Nat → Int32) (q4 : Nat → Int32) (f6 : Nat → Nat → Int64) => bnd3 (D_X3_becomeUnit r2 q4 f6 7 (r2 (2 * i))) (fun (r8 : Nat → Int32) (q10 : Nat → Int32) (f12 : Nat → Nat → Int64) => (D_X4_walk_28 r8 (gap (r8 (2 * 6 + 1)) 0 + 1) 0 0 (va_up q10 0 0) f12)))
theorem D_X4_walk_s {r : Nat → Int32} {q : Nat → Int32} {f : Nat → Nat → Int64} {i : Nat} : D_X4_walk r q f i = bnd3 (D_X3_becomeLike r q f 6 i) (fun (r2 : Nat → Int32) (q4 : Nat → Int32) (f6 : Nat → Nat → Int64) => bnd3 (D_X3_becomeUnit r2 q4 f6 7 (r2 (2 * i))) (fun (r8 : Nat → Int32) (q10 : Nat → Int32) (f12 : Nat → Nat → Int64) => (D_X4_walk_28 r8 (gap (r8 (2 * 6 + 1)) 0 + 1) 0 0 (va_up q10 0 0) f12))) := rfl
set_option maxHeartbeats 4000000 in
set_option maxRecDepth 100000 in
theorem k_X4_walk (κ : Kt) (l : Launch) (a : Nat → Nat) (r q : Nat → Int32) (f : Nat → Nat → Int64) (i : Nat) (hi : i < 15) (o_r : Nat → Int32) (o_q : Nat → Int32) (o_f : Nat → Nat → Int64) (hR : D_X4_walk r q f i = (o_r, o_q, o_f)) : CM κ l yX4_walk cX4_walk 4 (none) 4 101 0 0 [.ref (a 2), .ref (a (6 + 2 * i))] (cw κ a r q f) (fun o w' => o = none ∧ (okr r → okr o_r) ∧ o_q 4 = q 4 ∧ w' = cw κ a o_r o_q o_f) := by
  refine CM_begin (plainFor_of_name pn_RX4) (Nat.le_of_ble_eq_true rfl) ?_
  intro p e s m args below meth c A Q hX hnm hA3 hQ hB ls hl
  have hx := hX.1.1
  have hb := hX.1.2.1
  have hl : lv_has ls 4 [(0, .ref (a 2)), (1, .ref (a (6 + 2 * i)))] := hl
  replace hR := (D_X4_walk_s).symm.trans hR
  refine lv_aload_n hx hb dX4_walk_0 rfl (lv_at hl 0 rfl) ?_
  refine gf hX hB cw2 rfl in4 0 (by decide) wm_1_74 rfl rfl dX4_walk_1 ?_
  refine lv_aload_n hx hb dX4_walk_4 rfl (lv_at hl 1 rfl) ?_
  obtain ⟨r2, q4, f6, hd1⟩ := ex3 (D_X3_becomeLike r q f 6 i)
  replace hR := bnd3_use hd1 hR
  refine call_V (n := 1) (As := [.ref (a (6 + 2 * i))]) (rest := []) hX hB (k_X3_becomeLike κ l a r q f 6 i (by decide) hi r2 q4 f6 hd1) ⟨rfl, yk_X3_becomeLike⟩ wm_1_204 wm_1_205 wm_1_206 wm_1_2 wm_1_207 ⟨Nat.le_of_ble_eq_true rfl, Nat.le_of_ble_eq_true rfl⟩ ⟨Nat.le_of_ble_eq_true rfl, Nat.le_of_ble_eq_true rfl⟩ (cwG (i := 6) (by decide)) rfl rfl rfl hl.1 rfl (Nat.le_of_ble_eq_true rfl) dX4_walk_5 (fun o w' H locs hp hB => ?_)
  obtain ⟨rfl, ho3, hq5, rfl⟩ := hp
  refine W.eq (g2 := F0 m 8 ls []) rfl ?_
  refine lv_aload_n hx hb dX4_walk_8 rfl (lv_at hl 0 rfl) ?_
  refine gf hX hB cw2 rfl in4 1 (by decide) wm_1_76 rfl rfl dX4_walk_9 ?_
  refine lv_aload_n hx hb dX4_walk_12 rfl (lv_at hl 1 rfl) ?_
  refine gfN hX hB (cwG (i := i) hi) rfl in3 1 (by decide) wn_1_48 rfl rfl dX4_walk_13 ?_
  obtain ⟨r8, q10, f12, hd7⟩ := ex3 (D_X3_becomeUnit r2 q4 f6 7 (r2 (2 * i)))
  replace hR := bnd3_use hd7 hR
  refine call_V (n := 1) (As := [.int (r2 (2 * i))]) (rest := []) hX hB (k_X3_becomeUnit κ l a r2 q4 f6 7 (r2 (2 * i)) (by decide) r8 q10 f12 hd7) ⟨rfl, yk_X3_becomeUnit⟩ wm_1_208 wm_1_209 wm_1_210 wm_1_2 wm_1_211 ⟨Nat.le_of_ble_eq_true rfl, Nat.le_of_ble_eq_true rfl⟩ ⟨Nat.le_of_ble_eq_true rfl, Nat.le_of_ble_eq_true rfl⟩ (cwG (i := 7) (by decide)) rfl rfl rfl hl.1 rfl (Nat.le_of_ble_eq_true rfl) dX4_walk_16 (fun o w' H locs hp hB => ?_)
  obtain ⟨rfl, ho9, hq11, rfl⟩ := hp
  refine W.eq (g2 := F0 m 19 ls []) rfl ?_
  refine lv_aload_n hx hb dX4_walk_19 rfl (lv_at hl 0 rfl) ?_
  refine lv_iconst (v := 0) hx hb dX4_walk_20 (by decide) ?_
  refine pf (ty := .boolean) hX hB cw2 rfl in4 tyX4_ok nmX4 2 (by decide) wm_1_78 rfl rfl rfl rfl rfl (Nat.le_of_ble_eq_true rfl) (cwSQ0 _) dX4_walk_21 (fun H locs hB => ?_)
  refine lv_iconst (v := 0) hx hb dX4_walk_24 (by decide) ?_
  refine lv_istore_n (lv' := [(2, .int 0), (0, .ref (a 2)), (1, .ref (a (6 + 2 * i)))]) hx hb dX4_walk_25 rfl hl (by decide) rfl (fun ls hl => ?_)
  refine lv_iconst (v := 0) hx hb dX4_walk_26 (by decide) ?_
  refine lv_istore_n (lv' := [(3, .int 0), (2, .int 0), (0, .ref (a 2)), (1, .ref (a (6 + 2 * i)))]) hx hb dX4_walk_27 rfl hl (by decide) rfl (fun ls hl => ?_)
  have lp28 : ∀ (nn28 : Nat) (y3_28 : Int32) (y2_28 : Int32) (q_28 : Nat → Int32) (f_28 : Nat → Nat → Int64) (H : Heap) (locs : List Loc), q_28 4 = q 4 → gap (r8 (2 * 6 + 1)) y3_28 < nn28 → D_X4_walk_28 r8 nn28 y3_28 y2_28 q_28 f_28 = (o_r, o_q, o_f) → Bd κ A s (cw κ a r8 q_28 f_28) H locs → ∀ ls : Array Slot, lv_has ls 4 [(3, .int y3_28), (2, .int y2_28), (0, .ref (a 2)), (1, .ref (a (6 + 2 * i)))] → W p l e (Rm 4 101 0 0) s m args below meth c H locs 0 0 Q (F0 m 28 ls []) := by
    intro nn28
    induction nn28 with
    | zero => intro y3_28 y2_28 q_28 f_28 H locs hwq_28 hμ; exact absurd hμ (Nat.not_lt_zero _)
    | succ nn28 ih28 =>
      intro y3_28 y2_28 q_28 f_28 H locs hwq_28 hμ28 hR hB ls hl
      replace hR := (D_X4_walk_28_s).symm.trans hR
      refine lv_iload_n hx hb dX4_walk_28 rfl (lv_at hl 0 rfl) ?_
      refine lv_aload_n hx hb dX4_walk_29 rfl (lv_at hl 2 rfl) ?_
      refine gf hX hB cw2 rfl in4 0 (by decide) wm_1_74 rfl rfl dX4_walk_30 ?_
      refine gfN hX hB (cwG (i := 6) (by decide)) rfl in3 2 (by decide) wn_1_56 rfl rfl dX4_walk_33 ?_
      refine lv_icmp_ge (tgt := 75) hx hb dX4_walk_36 (by decide) (fun c31 => ?_) (fun c31 => ?_)
      · replace hR := ifp c31 hR
        rw [← hQ]
        exact end_v hX hB hA3 rfl (by obtain ⟨rfl, rfl, rfl⟩ := pr3 hR; exact ⟨rfl, (fun h => ho9 ((fun h => ho3 ((fun h => h) h)) h)), hwq_28, rfl⟩) (Nat.le_of_ble_eq_true rfl) (Nat.le_of_ble_eq_true rfl) dX4_walk_75
      · replace hR := ifn c31 hR
        refine lv_iload_n hx hb dX4_walk_39 rfl (lv_at hl 1 rfl) ?_
        refine lv_aload_n hx hb dX4_walk_40 rfl (lv_at hl 2 rfl) ?_
        refine gf hX hB cw2 rfl in4 0 (by decide) wm_1_74 rfl rfl dX4_walk_41 ?_
        refine gfN hX hB (cwG (i := 6) (by decide)) rfl in3 1 (by decide) wn_1_48 rfl rfl dX4_walk_44 ?_
        refine lv_icmp_ge (tgt := 75) hx hb dX4_walk_47 (by decide) (fun c32 => ?_) (fun c32 => ?_)
        · replace hR := ifp c32 hR
          rw [← hQ]
          exact end_v hX hB hA3 rfl (by obtain ⟨rfl, rfl, rfl⟩ := pr3 hR; exact ⟨rfl, (fun h => ho9 ((fun h => ho3 ((fun h => h) h)) h)), hwq_28, rfl⟩) (Nat.le_of_ble_eq_true rfl) (Nat.le_of_ble_eq_true rfl) dX4_walk_75
        · replace hR := ifn c32 hR
          refine lv_aload_n hx hb dX4_walk_50 rfl (lv_at hl 2 rfl) ?_
          refine gf hX hB cw2 rfl in4 2 (by decide) wm_1_78 rfl rfl dX4_walk_51 ?_
          refine lv_if_ne (tgt := 75) hx hb dX4_walk_54 (by decide) (fun c33 => ?_) (fun c33 => ?_)
          · replace hR := ifn c33 hR
            rw [← hQ]
            exact end_v hX hB hA3 rfl (by obtain ⟨rfl, rfl, rfl⟩ := pr3 hR; exact ⟨rfl, (fun h => ho9 ((fun h => ho3 ((fun h => h) h)) h)), hwq_28, rfl⟩) (Nat.le_of_ble_eq_true rfl) (Nat.le_of_ble_eq_true rfl) dX4_walk_75
          · replace hR := ifp c33 hR
            refine lv_aload_n hx hb dX4_walk_57 rfl (lv_at hl 2 rfl) ?_
            refine lv_iload_n hx hb dX4_walk_58 rfl (lv_at hl 1 rfl) ?_
            refine lv_iload_n hx hb dX4_walk_59 rfl (lv_at hl 0 rfl) ?_
            obtain ⟨x35, q36, f38, hd34⟩ := ex3 (D_X4_clearColumn r8 q_28 f_28 y2_28 y3_28)
            replace hR := bnd3_use hd34 hR
            refine call_V (n := 2) (As := [.int y2_28, .int y3_28]) (rest := []) hX hB (k_X4_clearColumn κ l a r8 q_28 f_28 y2_28 y3_28 x35 q36 f38 hd34) ⟨rfl, yk_X4_clearColumn⟩ wm_1_226 wm_1_228 wp_1 wm_1_3 wm_1_229 ⟨Nat.le_of_ble_eq_true rfl, Nat.le_of_ble_eq_true rfl⟩ ⟨Nat.le_of_ble_eq_true rfl, Nat.le_of_ble_eq_true rfl⟩ cw2 rfl rfl rfl hl.1 rfl (Nat.le_of_ble_eq_true rfl) dX4_walk_60 (fun o w' H locs hp hB => ?_)
            obtain ⟨rfl, bx35, hq37, rfl⟩ := hp
            refine W.eq (g2 := F0 m 63 ls [.int x35]) rfl ?_
            refine lv_if_eq (tgt := 69) hx hb dX4_walk_63 (by decide) (fun c39 => ?_) (fun c39 => ?_)
            · replace hR := ifp c39 hR
              refine lv_iinc (v := y3_28 + 1) (lv' := [(3, .int (y3_28 + 1)), (2, .int y2_28), (0, .ref (a 2)), (1, .ref (a (6 + 2 * i)))]) hx hb dX4_walk_69 hl (k := 0) rfl rfl (by decide) rfl (fun ls hl => ?_)
              refine lv_goto (tgt := 28) hx hb dX4_walk_72 (by decide) ?_
              exact ih28 (y3_28 + 1) y2_28 q36 f38 _ _ (hq37.trans hwq_28) (gap_step c31 hμ28) hR hB _ hl
            · replace hR := ifn c39 hR
              refine lv_iinc (v := y2_28 + 1) (lv' := [(2, .int (y2_28 + 1)), (3, .int y3_28), (0, .ref (a 2)), (1, .ref (a (6 + 2 * i)))]) hx hb dX4_walk_66 hl (k := 1) rfl rfl (by decide) rfl (fun ls hl => ?_)
              refine lv_iinc (v := y3_28 + 1) (lv' := [(3, .int (y3_28 + 1)), (2, .int (y2_28 + 1)), (0, .ref (a 2)), (1, .ref (a (6 + 2 * i)))]) hx hb dX4_walk_69 hl (k := 1) rfl rfl (by decide) rfl (fun ls hl => ?_)
              refine lv_goto (tgt := 28) hx hb dX4_walk_72 (by decide) ?_
              exact ih28 (y3_28 + 1) (y2_28 + 1) q36 f38 _ _ (hq37.trans hwq_28) (gap_step c31 hμ28) hR hB _ hl
  exact lp28 _ 0 0 (va_up q10 0 0) f12 _ _ (hq11.trans (hq5.trans rfl)) (Nat.lt_succ_self _) hR hB _ hl
noncomputable def D_X4_countFilledRows_20 (r : Nat → Int32) (q : Nat → Int32) (f : Nat → Nat → Int64) (lb4 : Int32 → Int32 → Int32) (y2_4 : Int32) (y1_4 : Int32) (nn : Nat) : Int32 → Int32 → Int32 := @Nat.rec (fun _ => Int32 → Int32 → Int32) (fun _ _ => default) (fun _ lb20 (y4_20 : Int32) (y3_20 : Int32) => (if (r (2 * 6 + 1)) ≤ y4_20 then (if y3_20 = 0 then (lb4 (y2_4 + 1) (y1_4 + 0)) else (lb4 (y2_4 + 1) (y1_4 + 1))) else (if y3_20 = 0 then bnd1 (D_X3_get r q f 6 y2_4 y4_20) (fun (x101 : Int64) => (if (lg_cmp x101 0) = 0 then (lb20 (y4_20 + 1) 0) else (lb20 (y4_20 + 1) 1))) else (lb20 (y4_20 + 1) 1)))) nn
theorem D_X4_countFilledRows_20_s {r : Nat → Int32} {q : Nat → Int32} {f : Nat → Nat → Int64} {lb4 : Int32 → Int32 → Int32} {y2_4 : Int32} {y1_4 : Int32} {nn : Nat} {y4_20 : Int32} {y3_20 : Int32} : D_X4_countFilledRows_20 r q f lb4 y2_4 y1_4 (nn + 1) y4_20 y3_20 = (if (r (2 * 6 + 1)) ≤ y4_20 then (if y3_20 = 0 then (lb4 (y2_4 + 1) (y1_4 + 0)) else (lb4 (y2_4 + 1) (y1_4 + 1))) else (if y3_20 = 0 then bnd1 (D_X3_get r q f 6 y2_4 y4_20) (fun (x101 : Int64) => (if (lg_cmp x101 0) = 0 then ((D_X4_countFilledRows_20 r q f lb4 y2_4 y1_4 nn) (y4_20 + 1) 0) else ((D_X4_countFilledRows_20 r q f lb4 y2_4 y1_4 nn) (y4_20 + 1) 1))) else ((D_X4_countFilledRows_20 r q f lb4 y2_4 y1_4 nn) (y4_20 + 1) 1))) := rfl
noncomputable def D_X4_countFilledRows_4 (r : Nat → Int32) (q : Nat → Int32) (f : Nat → Nat → Int64) (nn : Nat) : Int32 → Int32 → Int32 := @Nat.rec (fun _ => Int32 → Int32 → Int32) (fun _ _ => default) (fun _ lb4 (y2_4 : Int32) (y1_4 : Int32) => (if (r (2 * 6)) ≤ y2_4 then y1_4 else (D_X4_countFilledRows_20 r q f lb4 y2_4 y1_4 (gap (r (2 * 6 + 1)) 0 + 1) 0 0))) nn
theorem D_X4_countFilledRows_4_s {r : Nat → Int32} {q : Nat → Int32} {f : Nat → Nat → Int64} {nn : Nat} {y2_4 : Int32} {y1_4 : Int32} : D_X4_countFilledRows_4 r q f (nn + 1) y2_4 y1_4 = (if (r (2 * 6)) ≤ y2_4 then y1_4 else (D_X4_countFilledRows_20 r q f (D_X4_countFilledRows_4 r q f nn) y2_4 y1_4 (gap (r (2 * 6 + 1)) 0 + 1) 0 0)) := rfl
noncomputable def D_X4_countFilledRows (r : Nat → Int32) (q : Nat → Int32) (f : Nat → Nat → Int64) : Int32 := (D_X4_countFilledRows_4 r q f (gap (r (2 * 6)) 0 + 1) 0 0)
theorem D_X4_countFilledRows_s {r : Nat → Int32} {q : Nat → Int32} {f : Nat → Nat → Int64} : D_X4_countFilledRows r q f = (D_X4_countFilledRows_4 r q f (gap (r (2 * 6)) 0 + 1) 0 0) := rfl
set_option maxHeartbeats 4000000 in
set_option maxRecDepth 100000 in
theorem k_X4_countFilledRows (κ : Kt) (l : Launch) (a : Nat → Nat) (r q : Nat → Int32) (f : Nat → Nat → Int64)  (o_x : Int32) (hR : D_X4_countFilledRows r q f = o_x) : CM κ l yX4_countFilledRows cX4_countFilledRows 5 (some .int) 1 22 0 0 [.ref (a 2)] (cw κ a r q f) (fun o w' => o = some (.int o_x) ∧ w' = cw κ a r q f) := by
  refine CM_begin (plainFor_of_name pn_RX4) (Nat.le_of_ble_eq_true rfl) ?_
  intro p e s m args below meth c A Q hX hnm hA3 hQ hB ls hl
  have hx := hX.1.1
  have hb := hX.1.2.1
  have hl : lv_has ls 5 [(0, .ref (a 2))] := hl
  replace hR := (D_X4_countFilledRows_s).symm.trans hR
  refine lv_iconst (v := 0) hx hb dX4_countFilledRows_0 (by decide) ?_
  refine lv_istore_n (lv' := [(1, .int 0), (0, .ref (a 2))]) hx hb dX4_countFilledRows_1 rfl hl (by decide) rfl (fun ls hl => ?_)
  refine lv_iconst (v := 0) hx hb dX4_countFilledRows_2 (by decide) ?_
  refine lv_istore_n (lv' := [(2, .int 0), (1, .int 0), (0, .ref (a 2))]) hx hb dX4_countFilledRows_3 rfl hl (by decide) rfl (fun ls hl => ?_)
  have lp4 : ∀ (nn4 : Nat) (y2_4 : Int32) (y1_4 : Int32) (H : Heap) (locs : List Loc), gap (r (2 * 6)) y2_4 < nn4 → D_X4_countFilledRows_4 r q f nn4 y2_4 y1_4 = o_x → Bd κ A s (cw κ a r q f) H locs → ∀ ls : Array Slot, lv_has ls 5 [(2, .int y2_4), (1, .int y1_4), (0, .ref (a 2))] → W p l e (Rm 1 22 0 0) s m args below meth c H locs 0 0 Q (F0 m 4 ls []) := by
    intro nn4
    induction nn4 with
    | zero => intro y2_4 y1_4 H locs hμ; exact absurd hμ (Nat.not_lt_zero _)
    | succ nn4 ih4 =>
      intro y2_4 y1_4 H locs hμ4 hR hB ls hl
      replace hR := (D_X4_countFilledRows_4_s).symm.trans hR
      refine lv_iload_n hx hb dX4_countFilledRows_4 rfl (lv_at hl 0 rfl) ?_
      refine lv_aload_n hx hb dX4_countFilledRows_5 rfl (lv_at hl 2 rfl) ?_
      refine gf hX hB cw2 rfl in4 0 (by decide) wm_1_74 rfl rfl dX4_countFilledRows_6 ?_
      refine gfN hX hB (cwG (i := 6) (by decide)) rfl in3 1 (by decide) wn_1_48 rfl rfl dX4_countFilledRows_9 ?_
      refine lv_icmp_ge (tgt := 81) hx hb dX4_countFilledRows_12 (by decide) (fun c69 => ?_) (fun c69 => ?_)
      · replace hR := ifp c69 hR
        refine lv_iload_n hx hb dX4_countFilledRows_81 rfl (lv_at hl 1 rfl) ?_
        rw [← hQ]
        exact end_i hX hB hA3 rfl rfl (by obtain rfl := hR; exact ⟨rfl, rfl⟩) (Nat.le_of_ble_eq_true rfl) (Nat.le_of_ble_eq_true rfl) dX4_countFilledRows_82
      · replace hR := ifn c69 hR
        refine lv_iconst (v := 0) hx hb dX4_countFilledRows_15 (by decide) ?_
        refine lv_istore_n (lv' := [(3, .int 0), (2, .int y2_4), (1, .int y1_4), (0, .ref (a 2))]) hx hb dX4_countFilledRows_16 rfl hl (by decide) rfl (fun ls hl => ?_)
        refine lv_iconst (v := 0) hx hb dX4_countFilledRows_17 (by decide) ?_
        refine lv_istore (lv' := [(4, .int 0), (3, .int 0), (2, .int y2_4), (1, .int y1_4), (0, .ref (a 2))]) hx hb dX4_countFilledRows_18 hl (by decide) rfl (fun ls hl => ?_)
        have lp20 : ∀ (nn20 : Nat) (y4_20 : Int32) (y3_20 : Int32) (H : Heap) (locs : List Loc), gap (r (2 * 6 + 1)) y4_20 < nn20 → D_X4_countFilledRows_20 r q f (D_X4_countFilledRows_4 r q f nn4) y2_4 y1_4 nn20 y4_20 y3_20 = o_x → Bd κ A s (cw κ a r q f) H locs → ∀ ls : Array Slot, lv_has ls 5 [(4, .int y4_20), (3, .int y3_20), (2, .int y2_4), (1, .int y1_4), (0, .ref (a 2))] → W p l e (Rm 1 22 0 0) s m args below meth c H locs 0 0 Q (F0 m 20 ls []) := by
          intro nn20
          induction nn20 with
          | zero => intro y4_20 y3_20 H locs hμ; exact absurd hμ (Nat.not_lt_zero _)
          | succ nn20 ih20 =>
            intro y4_20 y3_20 H locs hμ20 hR hB ls hl
            replace hR := (D_X4_countFilledRows_20_s).symm.trans hR
            refine lv_iload hx hb dX4_countFilledRows_20 (lv_at hl 0 rfl) ?_
            refine lv_aload_n hx hb dX4_countFilledRows_22 rfl (lv_at hl 4 rfl) ?_
            refine gf hX hB cw2 rfl in4 0 (by decide) wm_1_74 rfl rfl dX4_countFilledRows_23 ?_
            refine gfN hX hB (cwG (i := 6) (by decide)) rfl in3 2 (by decide) wn_1_56 rfl rfl dX4_countFilledRows_26 ?_
            refine lv_icmp_ge (tgt := 63) hx hb dX4_countFilledRows_29 (by decide) (fun c97 => ?_) (fun c97 => ?_)
            · replace hR := ifp c97 hR
              refine lv_iload_n hx hb dX4_countFilledRows_63 rfl (lv_at hl 3 rfl) ?_
              refine lv_iload_n hx hb dX4_countFilledRows_64 rfl (lv_at hl 1 rfl) ?_
              refine lv_if_eq (tgt := 72) hx hb dX4_countFilledRows_65 (by decide) (fun c98 => ?_) (fun c98 => ?_)
              · replace hR := ifp c98 hR
                refine lv_iconst (v := 0) hx hb dX4_countFilledRows_72 (by decide) ?_
                refine lv_iadd hx hb dX4_countFilledRows_73 ?_
                refine lv_istore_n (lv' := [(1, .int (y1_4 + 0)), (4, .int y4_20), (3, .int y3_20), (2, .int y2_4), (0, .ref (a 2))]) hx hb dX4_countFilledRows_74 rfl hl (by decide) rfl (fun ls hl => ?_)
                refine lv_iinc (v := y2_4 + 1) (lv' := [(2, .int (y2_4 + 1)), (1, .int (y1_4 + 0)), (4, .int y4_20), (3, .int y3_20), (0, .ref (a 2))]) hx hb dX4_countFilledRows_75 hl (k := 3) rfl rfl (by decide) rfl (fun ls hl => ?_)
                refine lv_goto (tgt := 4) hx hb dX4_countFilledRows_78 (by decide) ?_
                exact ih4 (y2_4 + 1) (y1_4 + 0) _ _  (gap_step c69 hμ4) hR hB _ (lv_sub hl [0, 1, 4] rfl)
              · replace hR := ifn c98 hR
                refine lv_iconst (v := 1) hx hb dX4_countFilledRows_68 (by decide) ?_
                refine lv_goto (tgt := 73) hx hb dX4_countFilledRows_69 (by decide) ?_
                refine lv_iadd hx hb dX4_countFilledRows_73 ?_
                refine lv_istore_n (lv' := [(1, .int (y1_4 + 1)), (4, .int y4_20), (3, .int y3_20), (2, .int y2_4), (0, .ref (a 2))]) hx hb dX4_countFilledRows_74 rfl hl (by decide) rfl (fun ls hl => ?_)
                refine lv_iinc (v := y2_4 + 1) (lv' := [(2, .int (y2_4 + 1)), (1, .int (y1_4 + 1)), (4, .int y4_20), (3, .int y3_20), (0, .ref (a 2))]) hx hb dX4_countFilledRows_75 hl (k := 3) rfl rfl (by decide) rfl (fun ls hl => ?_)
                refine lv_goto (tgt := 4) hx hb dX4_countFilledRows_78 (by decide) ?_
                exact ih4 (y2_4 + 1) (y1_4 + 1) _ _  (gap_step c69 hμ4) hR hB _ (lv_sub hl [0, 1, 4] rfl)
            · replace hR := ifn c97 hR
              refine lv_iload_n hx hb dX4_countFilledRows_32 rfl (lv_at hl 1 rfl) ?_
              refine lv_if_ne (tgt := 51) hx hb dX4_countFilledRows_33 (by decide) (fun c99 => ?_) (fun c99 => ?_)
              · replace hR := ifn c99 hR
                refine lv_iconst (v := 1) hx hb dX4_countFilledRows_51 (by decide) ?_
                refine lv_goto (tgt := 56) hx hb dX4_countFilledRows_52 (by decide) ?_
                refine lv_istore_n (lv' := [(3, .int 1), (4, .int y4_20), (2, .int y2_4), (1, .int y1_4), (0, .ref (a 2))]) hx hb dX4_countFilledRows_56 rfl hl (by decide) rfl (fun ls hl => ?_)
                refine lv_iinc (v := y4_20 + 1) (lv' := [(4, .int (y4_20 + 1)), (3, .int 1), (2, .int y2_4), (1, .int y1_4), (0, .ref (a 2))]) hx hb dX4_countFilledRows_57 hl (k := 1) rfl rfl (by decide) rfl (fun ls hl => ?_)
                refine lv_goto (tgt := 20) hx hb dX4_countFilledRows_60 (by decide) ?_
                exact ih20 (y4_20 + 1) 1 _ _  (gap_step c97 hμ20) hR hB _ hl
              · replace hR := ifp c99 hR
                refine lv_aload_n hx hb dX4_countFilledRows_36 rfl (lv_at hl 4 rfl) ?_
                refine gf hX hB cw2 rfl in4 0 (by decide) wm_1_74 rfl rfl dX4_countFilledRows_37 ?_
                refine lv_iload_n hx hb dX4_countFilledRows_40 rfl (lv_at hl 2 rfl) ?_
                refine lv_iload hx hb dX4_countFilledRows_41 (lv_at hl 0 rfl) ?_
                obtain ⟨x101, hd100⟩ := ex1 (D_X3_get r q f 6 y2_4 y4_20)
                replace hR := bnd1_use hd100 hR
                refine call_V (n := 2) (As := [.int y2_4, .int y4_20]) (rest := []) hX hB (k_X3_get κ l a r q f 6 y2_4 y4_20 (by decide) x101 hd100) ⟨rfl, yk_X3_get⟩ wm_1_235 wm_1_187 wm_1_188 wm_1_2 wm_1_189 ⟨Nat.le_of_ble_eq_true rfl, Nat.le_of_ble_eq_true rfl⟩ ⟨Nat.le_of_ble_eq_true rfl, Nat.le_of_ble_eq_true rfl⟩ (cwG (i := 6) (by decide)) rfl rfl rfl hl.1 rfl (Nat.le_of_ble_eq_true rfl) dX4_countFilledRows_43 (fun o w' H locs hp hB => ?_)
                obtain ⟨rfl, rfl⟩ := hp
                refine W.eq (g2 := F0 m 46 ls [.long x101]) rfl ?_
                refine lv_lconst (v := 0) hx hb dX4_countFilledRows_46 (by decide) ?_
                refine W.lcmp hx hb dX4_countFilledRows_47 ?_
                refine lv_if_eq (tgt := 55) hx hb dX4_countFilledRows_48 (by decide) (fun c102 => ?_) (fun c102 => ?_)
                · replace hR := ifp c102 hR
                  refine lv_iconst (v := 0) hx hb dX4_countFilledRows_55 (by decide) ?_
                  refine lv_istore_n (lv' := [(3, .int 0), (4, .int y4_20), (2, .int y2_4), (1, .int y1_4), (0, .ref (a 2))]) hx hb dX4_countFilledRows_56 rfl hl (by decide) rfl (fun ls hl => ?_)
                  refine lv_iinc (v := y4_20 + 1) (lv' := [(4, .int (y4_20 + 1)), (3, .int 0), (2, .int y2_4), (1, .int y1_4), (0, .ref (a 2))]) hx hb dX4_countFilledRows_57 hl (k := 1) rfl rfl (by decide) rfl (fun ls hl => ?_)
                  refine lv_goto (tgt := 20) hx hb dX4_countFilledRows_60 (by decide) ?_
                  exact ih20 (y4_20 + 1) 0 _ _  (gap_step c97 hμ20) hR hB _ hl
                · replace hR := ifn c102 hR
                  refine lv_iconst (v := 1) hx hb dX4_countFilledRows_51 (by decide) ?_
                  refine lv_goto (tgt := 56) hx hb dX4_countFilledRows_52 (by decide) ?_
                  refine lv_istore_n (lv' := [(3, .int 1), (4, .int y4_20), (2, .int y2_4), (1, .int y1_4), (0, .ref (a 2))]) hx hb dX4_countFilledRows_56 rfl hl (by decide) rfl (fun ls hl => ?_)
                  refine lv_iinc (v := y4_20 + 1) (lv' := [(4, .int (y4_20 + 1)), (3, .int 1), (2, .int y2_4), (1, .int y1_4), (0, .ref (a 2))]) hx hb dX4_countFilledRows_57 hl (k := 1) rfl rfl (by decide) rfl (fun ls hl => ?_)
                  refine lv_goto (tgt := 20) hx hb dX4_countFilledRows_60 (by decide) ?_
                  exact ih20 (y4_20 + 1) 1 _ _  (gap_step c97 hμ20) hR hB _ hl
        exact lp20 _ 0 0 _ _  (Nat.lt_succ_self _) hR hB _ hl
  exact lp4 _ 0 0 _ _  (Nat.lt_succ_self _) hR hB _ hl
noncomputable def D_X4_findDeterminant_10 (r : Nat → Int32) (q : Nat → Int32) (f : Nat → Nat → Int64) (nn : Nat) : Int32 → Int64 → Int64 := @Nat.rec (fun _ => Int32 → Int64 → Int64) (fun _ _ => default) (fun _ lb10 (y3_10 : Int32) (y1_10 : Int64) => (if (r (2 * 6)) ≤ y3_10 then y1_10 else bnd1 (D_X3_get r q f 6 y3_10 y3_10) (fun (x11 : Int64) => (lb10 (y3_10 + 1) (y1_10 * x11))))) nn
theorem D_X4_findDeterminant_10_s {r : Nat → Int32} {q : Nat → Int32} {f : Nat → Nat → Int64} {nn : Nat} {y3_10 : Int32} {y1_10 : Int64} : D_X4_findDeterminant_10 r q f (nn + 1) y3_10 y1_10 = (if (r (2 * 6)) ≤ y3_10 then y1_10 else bnd1 (D_X3_get r q f 6 y3_10 y3_10) (fun (x11 : Int64) => ((D_X4_findDeterminant_10 r q f nn) (y3_10 + 1) (y1_10 * x11)))) := rfl
noncomputable def D_X4_findDeterminant (r : Nat → Int32) (q : Nat → Int32) (f : Nat → Nat → Int64) : Int64 := bnd1 (D_X0_byFirstRow r q f 7) (fun (x2 : Int64) => (D_X4_findDeterminant_10 r q f (gap (r (2 * 6)) 0 + 1) 0 x2))
theorem D_X4_findDeterminant_s {r : Nat → Int32} {q : Nat → Int32} {f : Nat → Nat → Int64} : D_X4_findDeterminant r q f = bnd1 (D_X0_byFirstRow r q f 7) (fun (x2 : Int64) => (D_X4_findDeterminant_10 r q f (gap (r (2 * 6)) 0 + 1) 0 x2)) := rfl
set_option maxHeartbeats 4000000 in
set_option maxRecDepth 100000 in
theorem k_X4_findDeterminant (κ : Kt) (l : Launch) (a : Nat → Nat) (r q : Nat → Int32) (f : Nat → Nat → Int64)  (o_x : Int64) (hR : D_X4_findDeterminant r q f = o_x) : CM κ l yX4_findDeterminant cX4_findDeterminant 4 (some .long) 6 165 0 0 [.ref (a 2)] (cw κ a r q f) (fun o w' => o = some (.long o_x) ∧ w' = cw κ a r q f) := by
  refine CM_begin (plainFor_of_name pn_RX4) (Nat.le_of_ble_eq_true rfl) ?_
  intro p e s m args below meth c A Q hX hnm hA3 hQ hB ls hl
  have hx := hX.1.1
  have hb := hX.1.2.1
  have hl : lv_has ls 4 [(0, .ref (a 2))] := hl
  replace hR := (D_X4_findDeterminant_s).symm.trans hR
  refine lv_aload_n hx hb dX4_findDeterminant_0 rfl (lv_at hl 0 rfl) ?_
  refine gf hX hB cw2 rfl in4 1 (by decide) wm_1_76 rfl rfl dX4_findDeterminant_1 ?_
  obtain ⟨x2, hd1⟩ := ex1 (D_X0_byFirstRow r q f 7)
  replace hR := bnd1_use hd1 hR
  refine call_S (n := 1) (As := [.ref (a 20)]) (rest := []) hX hB (k_X0_byFirstRow κ l a r q f 7 (by decide) x2 hd1) yk_X0_byFirstRow wm_2_71 wm_1_181 wm_1_29 wm_1_182 ⟨Nat.le_of_ble_eq_true rfl, Nat.le_of_ble_eq_true rfl⟩ ⟨Nat.le_of_ble_eq_true rfl, Nat.le_of_ble_eq_true rfl⟩ rfl hl.1 rfl (Nat.le_of_ble_eq_true rfl) dX4_findDeterminant_4 (fun o w' H locs hp hB => ?_)
  obtain ⟨rfl, rfl⟩ := hp
  refine W.eq (g2 := F0 m 7 ls [.long x2]) rfl ?_
  refine lv_lstore_n (lv' := [(1, .long x2), (0, .ref (a 2))]) hx hb dX4_findDeterminant_7 rfl hl (by decide) rfl (fun ls hl => ?_)
  refine lv_iconst (v := 0) hx hb dX4_findDeterminant_8 (by decide) ?_
  refine lv_istore_n (lv' := [(3, .int 0), (1, .long x2), (0, .ref (a 2))]) hx hb dX4_findDeterminant_9 rfl hl (by decide) rfl (fun ls hl => ?_)
  have lp10 : ∀ (nn10 : Nat) (y3_10 : Int32) (y1_10 : Int64) (H : Heap) (locs : List Loc), gap (r (2 * 6)) y3_10 < nn10 → D_X4_findDeterminant_10 r q f nn10 y3_10 y1_10 = o_x → Bd κ A s (cw κ a r q f) H locs → ∀ ls : Array Slot, lv_has ls 4 [(3, .int y3_10), (1, .long y1_10), (0, .ref (a 2))] → W p l e (Rm 6 165 0 0) s m args below meth c H locs 0 0 Q (F0 m 10 ls []) := by
    intro nn10
    induction nn10 with
    | zero => intro y3_10 y1_10 H locs hμ; exact absurd hμ (Nat.not_lt_zero _)
    | succ nn10 ih10 =>
      intro y3_10 y1_10 H locs hμ10 hR hB ls hl
      replace hR := (D_X4_findDeterminant_10_s).symm.trans hR
      refine lv_iload_n hx hb dX4_findDeterminant_10 rfl (lv_at hl 0 rfl) ?_
      refine lv_aload_n hx hb dX4_findDeterminant_11 rfl (lv_at hl 2 rfl) ?_
      refine gf hX hB cw2 rfl in4 0 (by decide) wm_1_74 rfl rfl dX4_findDeterminant_12 ?_
      refine gfN hX hB (cwG (i := 6) (by decide)) rfl in3 1 (by decide) wn_1_48 rfl rfl dX4_findDeterminant_15 ?_
      refine lv_icmp_ge (tgt := 39) hx hb dX4_findDeterminant_18 (by decide) (fun c9 => ?_) (fun c9 => ?_)
      · replace hR := ifp c9 hR
        refine lv_lload_n hx hb dX4_findDeterminant_39 rfl (lv_at hl 1 rfl) ?_
        rw [← hQ]
        exact end_l hX hB hA3 rfl (by obtain rfl := hR; exact ⟨rfl, rfl⟩) (Nat.le_of_ble_eq_true rfl) (Nat.le_of_ble_eq_true rfl) dX4_findDeterminant_40
      · replace hR := ifn c9 hR
        refine lv_lload_n hx hb dX4_findDeterminant_21 rfl (lv_at hl 1 rfl) ?_
        refine lv_aload_n hx hb dX4_findDeterminant_22 rfl (lv_at hl 2 rfl) ?_
        refine gf hX hB cw2 rfl in4 0 (by decide) wm_1_74 rfl rfl dX4_findDeterminant_23 ?_
        refine lv_iload_n hx hb dX4_findDeterminant_26 rfl (lv_at hl 0 rfl) ?_
        refine lv_iload_n hx hb dX4_findDeterminant_27 rfl (lv_at hl 0 rfl) ?_
        obtain ⟨x11, hd10⟩ := ex1 (D_X3_get r q f 6 y3_10 y3_10)
        replace hR := bnd1_use hd10 hR
        refine call_V (n := 2) (As := [.int y3_10, .int y3_10]) (rest := [.long y1_10]) hX hB (k_X3_get κ l a r q f 6 y3_10 y3_10 (by decide) x11 hd10) ⟨rfl, yk_X3_get⟩ wm_1_235 wm_1_187 wm_1_188 wm_1_2 wm_1_189 ⟨Nat.le_of_ble_eq_true rfl, Nat.le_of_ble_eq_true rfl⟩ ⟨Nat.le_of_ble_eq_true rfl, Nat.le_of_ble_eq_true rfl⟩ (cwG (i := 6) (by decide)) rfl rfl rfl hl.1 rfl (Nat.le_of_ble_eq_true rfl) dX4_findDeterminant_28 (fun o w' H locs hp hB => ?_)
        obtain ⟨rfl, rfl⟩ := hp
        refine W.eq (g2 := F0 m 31 ls [.long x11, .long y1_10]) rfl ?_
        refine lv_lmul hx hb dX4_findDeterminant_31 ?_
        refine lv_lstore_n (lv' := [(1, .long (y1_10 * x11)), (3, .int y3_10), (0, .ref (a 2))]) hx hb dX4_findDeterminant_32 rfl hl (by decide) rfl (fun ls hl => ?_)
        refine lv_iinc (v := y3_10 + 1) (lv' := [(3, .int (y3_10 + 1)), (1, .long (y1_10 * x11)), (0, .ref (a 2))]) hx hb dX4_findDeterminant_33 hl (k := 1) rfl rfl (by decide) rfl (fun ls hl => ?_)
        refine lv_goto (tgt := 10) hx hb dX4_findDeterminant_36 (by decide) ?_
        exact ih10 (y3_10 + 1) (y1_10 * x11) _ _  (gap_step c9 hμ10) hR hB _ hl
  exact lp10 _ 0 x2 _ _  (Nat.lt_succ_self _) hR hB _ hl
end
section
-- 24.steps
noncomputable def D_X1_findLeastPlace_22 (r : Nat → Int32) (q : Nat → Int32) (f : Nat → Nat → Int64) (lb7 : Int32 → Int64 → Int32 → Int32) (y5_7 : Int32) (nn : Nat) : Int32 → Int64 → Int32 → Int32 := @Nat.rec (fun _ => Int32 → Int64 → Int32 → Int32) (fun _ _ _ => default) (fun _ lb22 (y6_22 : Int32) (y3_22 : Int64) (y2_22 : Int32) => (if (r (2 * 8 + 1)) ≤ y6_22 then (lb7 (y5_7 + 1) y3_22 y2_22) else bnd1 (D_X3_get r q f 8 y5_7 y6_22) (fun (x62 : Int64) => nm ((if 0 < x62 then x62 else -x62) : Int64) (fun (t63 : Int64) => (if (lg_cmp t63 0) = 0 then (lb22 (y6_22 + 1) y3_22 y2_22) else (if y2_22 < 0 then (lb22 (y6_22 + 1) t63 ((y5_7 * 5) + y6_22)) else (if 0 ≤ (lg_cmp t63 y3_22) then (lb22 (y6_22 + 1) y3_22 y2_22) else (lb22 (y6_22 + 1) t63 ((y5_7 * 5) + y6_22))))))))) nn
theorem D_X1_findLeastPlace_22_s {r : Nat → Int32} {q : Nat → Int32} {f : Nat → Nat → Int64} {lb7 : Int32 → Int64 → Int32 → Int32} {y5_7 : Int32} {nn : Nat} {y6_22 : Int32} {y3_22 : Int64} {y2_22 : Int32} : D_X1_findLeastPlace_22 r q f lb7 y5_7 (nn + 1) y6_22 y3_22 y2_22 = (if (r (2 * 8 + 1)) ≤ y6_22 then (lb7 (y5_7 + 1) y3_22 y2_22) else bnd1 (D_X3_get r q f 8 y5_7 y6_22) (fun (x62 : Int64) => nm ((if 0 < x62 then x62 else -x62) : Int64) (fun (t63 : Int64) => (if (lg_cmp t63 0) = 0 then ((D_X1_findLeastPlace_22 r q f lb7 y5_7 nn) (y6_22 + 1) y3_22 y2_22) else (if y2_22 < 0 then ((D_X1_findLeastPlace_22 r q f lb7 y5_7 nn) (y6_22 + 1) t63 ((y5_7 * 5) + y6_22)) else (if 0 ≤ (lg_cmp t63 y3_22) then ((D_X1_findLeastPlace_22 r q f lb7 y5_7 nn) (y6_22 + 1) y3_22 y2_22) else ((D_X1_findLeastPlace_22 r q f lb7 y5_7 nn) (y6_22 + 1) t63 ((y5_7 * 5) + y6_22)))))))) := rfl
noncomputable def D_X1_findLeastPlace_7 (r : Nat → Int32) (q : Nat → Int32) (f : Nat → Nat → Int64) (p0 : Int32) (nn : Nat) : Int32 → Int64 → Int32 → Int32 := @Nat.rec (fun _ => Int32 → Int64 → Int32 → Int32) (fun _ _ _ => default) (fun _ lb7 (y5_7 : Int32) (y3_7 : Int64) (y2_7 : Int32) => (if (r (2 * 8)) ≤ y5_7 then y2_7 else (D_X1_findLeastPlace_22 r q f lb7 y5_7 (gap (r (2 * 8 + 1)) p0 + 1) p0 y3_7 y2_7))) nn
theorem D_X1_findLeastPlace_7_s {r : Nat → Int32} {q : Nat → Int32} {f : Nat → Nat → Int64} {p0 : Int32} {nn : Nat} {y5_7 : Int32} {y3_7 : Int64} {y2_7 : Int32} : D_X1_findLeastPlace_7 r q f p0 (nn + 1) y5_7 y3_7 y2_7 = (if (r (2 * 8)) ≤ y5_7 then y2_7 else (D_X1_findLeastPlace_22 r q f (D_X1_findLeastPlace_7 r q f p0 nn) y5_7 (gap (r (2 * 8 + 1)) p0 + 1) p0 y3_7 y2_7)) := rfl
noncomputable def D_X1_findLeastPlace (r : Nat → Int32) (q : Nat → Int32) (f : Nat → Nat → Int64) (p0 : Int32) : Int32 := (D_X1_findLeastPlace_7 r q f p0 (gap (r (2 * 8)) p0 + 1) p0 0 (-1))
theorem D_X1_findLeastPlace_s {r : Nat → Int32} {q : Nat → Int32} {f : Nat → Nat → Int64} {p0 : Int32} : D_X1_findLeastPlace r q f p0 = (D_X1_findLeastPlace_7 r q f p0 (gap (r (2 * 8)) p0 + 1) p0 0 (-1)) := rfl
set_option maxHeartbeats 4000000 in
set_option maxRecDepth 100000 in
theorem k_X1_findLeastPlace (κ : Kt) (l : Launch) (a : Nat → Nat) (r q : Nat → Int32) (f : Nat → Nat → Int64) (p0 : Int32)  (o_x : Int32) (hR : D_X1_findLeastPlace r q f p0 = o_x) : CM κ l yX1_findLeastPlace cX1_findLeastPlace 9 (some .int) 1 22 0 0 [.ref (a 3), .int p0] (cw κ a r q f) (fun o w' => o = some (.int o_x) ∧ w' = cw κ a r q f) := by
  refine CM_begin (plainFor_of_name pn_RX1) (Nat.le_of_ble_eq_true rfl) ?_
  intro p e s m args below meth c A Q hX hnm hA3 hQ hB ls hl
  have hx := hX.1.1
  have hb := hX.1.2.1
  have hl : lv_has ls 9 [(0, .ref (a 3)), (1, .int p0)] := hl
  replace hR := (D_X1_findLeastPlace_s).symm.trans hR
  refine lv_iconst (v := (-1)) hx hb dX1_findLeastPlace_0 (by decide) ?_
  refine lv_istore_n (lv' := [(2, .int (-1)), (0, .ref (a 3)), (1, .int p0)]) hx hb dX1_findLeastPlace_1 rfl hl (by decide) rfl (fun ls hl => ?_)
  refine lv_lconst (v := 0) hx hb dX1_findLeastPlace_2 (by decide) ?_
  refine lv_lstore_n (lv' := [(3, .long 0), (2, .int (-1)), (0, .ref (a 3)), (1, .int p0)]) hx hb dX1_findLeastPlace_3 rfl hl (by decide) rfl (fun ls hl => ?_)
  refine lv_iload_n hx hb dX1_findLeastPlace_4 rfl (lv_at hl 3 rfl) ?_
  refine lv_istore (lv' := [(5, .int p0), (3, .long 0), (2, .int (-1)), (0, .ref (a 3)), (1, .int p0)]) hx hb dX1_findLeastPlace_5 hl (by decide) rfl (fun ls hl => ?_)
  have lp7 : ∀ (nn7 : Nat) (y5_7 : Int32) (y3_7 : Int64) (y2_7 : Int32) (H : Heap) (locs : List Loc), gap (r (2 * 8)) y5_7 < nn7 → D_X1_findLeastPlace_7 r q f p0 nn7 y5_7 y3_7 y2_7 = o_x → Bd κ A s (cw κ a r q f) H locs → ∀ ls : Array Slot, lv_has ls 9 [(5, .int y5_7), (3, .long y3_7), (2, .int y2_7), (0, .ref (a 3)), (1, .int p0)] → W p l e (Rm 1 22 0 0) s m args below meth c H locs 0 0 Q (F0 m 7 ls []) := by
    intro nn7
    induction nn7 with
    | zero => intro y5_7 y3_7 y2_7 H locs hμ; exact absurd hμ (Nat.not_lt_zero _)
    | succ nn7 ih7 =>
      intro y5_7 y3_7 y2_7 H locs hμ7 hR hB ls hl
      replace hR := (D_X1_findLeastPlace_7_s).symm.trans hR
      refine lv_iload hx hb dX1_findLeastPlace_7 (lv_at hl 0 rfl) ?_
      refine lv_aload_n hx hb dX1_findLeastPlace_9 rfl (lv_at hl 3 rfl) ?_
      refine gf hX hB cw3 rfl in1 0 (by decide) wm_1_95 rfl rfl dX1_findLeastPlace_10 ?_
      refine gfN hX hB (cwG (i := 8) (by decide)) rfl in3 1 (by decide) wn_1_49 rfl rfl dX1_findLeastPlace_13 ?_
      refine lv_icmp_ge (tgt := 91) hx hb dX1_findLeastPlace_16 (by decide) (fun c45 => ?_) (fun c45 => ?_)
      · replace hR := ifp c45 hR
        refine lv_iload_n hx hb dX1_findLeastPlace_91 rfl (lv_at hl 2 rfl) ?_
        rw [← hQ]
        exact end_i hX hB hA3 rfl rfl (by obtain rfl := hR; exact ⟨rfl, rfl⟩) (Nat.le_of_ble_eq_true rfl) (Nat.le_of_ble_eq_true rfl) dX1_findLeastPlace_92
      · replace hR := ifn c45 hR
        refine lv_iload_n hx hb dX1_findLeastPlace_19 rfl (lv_at hl 4 rfl) ?_
        refine lv_istore (lv' := [(6, .int p0), (5, .int y5_7), (3, .long y3_7), (2, .int y2_7), (0, .ref (a 3)), (1, .int p0)]) hx hb dX1_findLeastPlace_20 hl (by decide) rfl (fun ls hl => ?_)
        have lp22 : ∀ (nn22 : Nat) (y6_22 : Int32) (y3_22 : Int64) (y2_22 : Int32) (H : Heap) (locs : List Loc), gap (r (2 * 8 + 1)) y6_22 < nn22 → D_X1_findLeastPlace_22 r q f (D_X1_findLeastPlace_7 r q f p0 nn7) y5_7 nn22 y6_22 y3_22 y2_22 = o_x → Bd κ A s (cw κ a r q f) H locs → ∀ ls : Array Slot, lv_has ls 9 [(6, .int y6_22), (5, .int y5_7), (3, .long y3_22), (2, .int y2_22), (0, .ref (a 3)), (1, .int p0)] → W p l e (Rm 1 22 0 0) s m args below meth c H locs 0 0 Q (F0 m 22 ls []) := by
          intro nn22
          induction nn22 with
          | zero => intro y6_22 y3_22 y2_22 H locs hμ; exact absurd hμ (Nat.not_lt_zero _)
          | succ nn22 ih22 =>
            intro y6_22 y3_22 y2_22 H locs hμ22 hR hB ls hl
            replace hR := (D_X1_findLeastPlace_22_s).symm.trans hR
            refine lv_iload hx hb dX1_findLeastPlace_22 (lv_at hl 0 rfl) ?_
            refine lv_aload_n hx hb dX1_findLeastPlace_24 rfl (lv_at hl 4 rfl) ?_
            refine gf hX hB cw3 rfl in1 0 (by decide) wm_1_95 rfl rfl dX1_findLeastPlace_25 ?_
            refine gfN hX hB (cwG (i := 8) (by decide)) rfl in3 2 (by decide) wn_1_54 rfl rfl dX1_findLeastPlace_28 ?_
            refine lv_icmp_ge (tgt := 85) hx hb dX1_findLeastPlace_31 (by decide) (fun c60 => ?_) (fun c60 => ?_)
            · replace hR := ifp c60 hR
              refine lv_iinc (v := y5_7 + 1) (lv' := [(5, .int (y5_7 + 1)), (6, .int y6_22), (3, .long y3_22), (2, .int y2_22), (0, .ref (a 3)), (1, .int p0)]) hx hb dX1_findLeastPlace_85 hl (k := 1) rfl rfl (by decide) rfl (fun ls hl => ?_)
              refine lv_goto (tgt := 7) hx hb dX1_findLeastPlace_88 (by decide) ?_
              exact ih7 (y5_7 + 1) y3_22 y2_22 _ _  (gap_step c45 hμ7) hR hB _ (lv_sub hl [0, 2, 3, 4, 5] rfl)
            · replace hR := ifn c60 hR
              refine lv_aload_n hx hb dX1_findLeastPlace_34 rfl (lv_at hl 4 rfl) ?_
              refine gf hX hB cw3 rfl in1 0 (by decide) wm_1_95 rfl rfl dX1_findLeastPlace_35 ?_
              refine lv_iload hx hb dX1_findLeastPlace_38 (lv_at hl 1 rfl) ?_
              refine lv_iload hx hb dX1_findLeastPlace_40 (lv_at hl 0 rfl) ?_
              obtain ⟨x62, hd61⟩ := ex1 (D_X3_get r q f 8 y5_7 y6_22)
              replace hR := bnd1_use hd61 hR
              refine call_V (n := 2) (As := [.int y5_7, .int y6_22]) (rest := []) hX hB (k_X3_get κ l a r q f 8 y5_7 y6_22 (by decide) x62 hd61) ⟨rfl, yk_X3_get⟩ wm_2_87 wm_1_187 wm_1_188 wm_1_2 wm_1_189 ⟨Nat.le_of_ble_eq_true rfl, Nat.le_of_ble_eq_true rfl⟩ ⟨Nat.le_of_ble_eq_true rfl, Nat.le_of_ble_eq_true rfl⟩ (cwG (i := 8) (by decide)) rfl rfl rfl hl.1 rfl (Nat.le_of_ble_eq_true rfl) dX1_findLeastPlace_42 (fun o w' H locs hp hB => ?_)
              obtain ⟨rfl, rfl⟩ := hp
              refine W.eq (g2 := F0 m 45 ls [.long x62]) rfl ?_
              refine va_mabs_long hx hb (by rw [hX.1.2.2.1]; exact hl.1.symm) hX.1.2.2.2.1 (hX.1.2.2.2.2 _ wm_2_88) (hX.1.2.2.2.2 _ wm_1_237) (hX.1.2.2.2.2 _ wm_1_14) (hX.1.2.2.2.2 _ wm_1_238) (Nat.le_of_ble_eq_true rfl) (Nat.le_of_ble_eq_true rfl) (Nat.le_of_ble_eq_true rfl) (Nat.le_of_ble_eq_true rfl) dX1_findLeastPlace_45 ?_
              refine lv_topl (fun t63 et63 => ?_)
              replace hR := nm_use et63 hR
              refine lv_lstore (lv' := [(7, .long t63), (6, .int y6_22), (5, .int y5_7), (3, .long y3_22), (2, .int y2_22), (0, .ref (a 3)), (1, .int p0)]) hx hb dX1_findLeastPlace_48 hl (by decide) rfl (fun ls hl => ?_)
              refine lv_lload hx hb dX1_findLeastPlace_50 (lv_at hl 0 rfl) ?_
              refine lv_lconst (v := 0) hx hb dX1_findLeastPlace_52 (by decide) ?_
              refine W.lcmp hx hb dX1_findLeastPlace_53 ?_
              refine lv_if_eq (tgt := 79) hx hb dX1_findLeastPlace_54 (by decide) (fun c64 => ?_) (fun c64 => ?_)
              · replace hR := ifp c64 hR
                refine lv_iinc (v := y6_22 + 1) (lv' := [(6, .int (y6_22 + 1)), (7, .long t63), (5, .int y5_7), (3, .long y3_22), (2, .int y2_22), (0, .ref (a 3)), (1, .int p0)]) hx hb dX1_findLeastPlace_79 hl (k := 1) rfl rfl (by decide) rfl (fun ls hl => ?_)
                refine lv_goto (tgt := 22) hx hb dX1_findLeastPlace_82 (by decide) ?_
                exact ih22 (y6_22 + 1) y3_22 y2_22 _ _  (gap_step c60 hμ22) hR hB _ (lv_sub hl [0, 2, 3, 4, 5, 6] rfl)
              · replace hR := ifn c64 hR
                refine lv_iload_n hx hb dX1_findLeastPlace_57 rfl (lv_at hl 4 rfl) ?_
                refine lv_if_lt (tgt := 68) hx hb dX1_findLeastPlace_58 (by decide) (fun c65 => ?_) (fun c65 => ?_)
                · replace hR := ifp c65 hR
                  refine lv_iload hx hb dX1_findLeastPlace_68 (lv_at hl 2 rfl) ?_
                  refine lv_iconst (v := 5) hx hb dX1_findLeastPlace_70 (by decide) ?_
                  refine lv_imul hx hb dX1_findLeastPlace_71 ?_
                  refine lv_iload hx hb dX1_findLeastPlace_72 (lv_at hl 1 rfl) ?_
                  refine lv_iadd hx hb dX1_findLeastPlace_74 ?_
                  refine lv_istore_n (lv' := [(2, .int ((y5_7 * 5) + y6_22)), (7, .long t63), (6, .int y6_22), (5, .int y5_7), (3, .long y3_22), (0, .ref (a 3)), (1, .int p0)]) hx hb dX1_findLeastPlace_75 rfl hl (by decide) rfl (fun ls hl => ?_)
                  refine lv_lload hx hb dX1_findLeastPlace_76 (lv_at hl 1 rfl) ?_
                  refine lv_lstore_n (lv' := [(3, .long t63), (2, .int ((y5_7 * 5) + y6_22)), (7, .long t63), (6, .int y6_22), (5, .int y5_7), (0, .ref (a 3)), (1, .int p0)]) hx hb dX1_findLeastPlace_78 rfl hl (by decide) rfl (fun ls hl => ?_)
                  refine lv_iinc (v := y6_22 + 1) (lv' := [(6, .int (y6_22 + 1)), (3, .long t63), (2, .int ((y5_7 * 5) + y6_22)), (7, .long t63), (5, .int y5_7), (0, .ref (a 3)), (1, .int p0)]) hx hb dX1_findLeastPlace_79 hl (k := 3) rfl rfl (by decide) rfl (fun ls hl => ?_)
                  refine lv_goto (tgt := 22) hx hb dX1_findLeastPlace_82 (by decide) ?_
                  exact ih22 (y6_22 + 1) t63 ((y5_7 * 5) + y6_22) _ _  (gap_step c60 hμ22) hR hB _ (lv_sub hl [0, 4, 1, 2, 5, 6] rfl)
                · replace hR := ifn c65 hR
                  refine lv_lload hx hb dX1_findLeastPlace_61 (lv_at hl 0 rfl) ?_
                  refine lv_lload_n hx hb dX1_findLeastPlace_63 rfl (lv_at hl 3 rfl) ?_
                  refine W.lcmp hx hb dX1_findLeastPlace_64 ?_
                  refine lv_if_ge (tgt := 79) hx hb dX1_findLeastPlace_65 (by decide) (fun c66 => ?_) (fun c66 => ?_)
                  · replace hR := ifp c66 hR
                    refine lv_iinc (v := y6_22 + 1) (lv' := [(6, .int (y6_22 + 1)), (7, .long t63), (5, .int y5_7), (3, .long y3_22), (2, .int y2_22), (0, .ref (a 3)), (1, .int p0)]) hx hb dX1_findLeastPlace_79 hl (k := 1) rfl rfl (by decide) rfl (fun ls hl => ?_)
                    refine lv_goto (tgt := 22) hx hb dX1_findLeastPlace_82 (by decide) ?_
                    exact ih22 (y6_22 + 1) y3_22 y2_22 _ _  (gap_step c60 hμ22) hR hB _ (lv_sub hl [0, 2, 3, 4, 5, 6] rfl)
                  · replace hR := ifn c66 hR
                    refine lv_iload hx hb dX1_findLeastPlace_68 (lv_at hl 2 rfl) ?_
                    refine lv_iconst (v := 5) hx hb dX1_findLeastPlace_70 (by decide) ?_
                    refine lv_imul hx hb dX1_findLeastPlace_71 ?_
                    refine lv_iload hx hb dX1_findLeastPlace_72 (lv_at hl 1 rfl) ?_
                    refine lv_iadd hx hb dX1_findLeastPlace_74 ?_
                    refine lv_istore_n (lv' := [(2, .int ((y5_7 * 5) + y6_22)), (7, .long t63), (6, .int y6_22), (5, .int y5_7), (3, .long y3_22), (0, .ref (a 3)), (1, .int p0)]) hx hb dX1_findLeastPlace_75 rfl hl (by decide) rfl (fun ls hl => ?_)
                    refine lv_lload hx hb dX1_findLeastPlace_76 (lv_at hl 1 rfl) ?_
                    refine lv_lstore_n (lv' := [(3, .long t63), (2, .int ((y5_7 * 5) + y6_22)), (7, .long t63), (6, .int y6_22), (5, .int y5_7), (0, .ref (a 3)), (1, .int p0)]) hx hb dX1_findLeastPlace_78 rfl hl (by decide) rfl (fun ls hl => ?_)
                    refine lv_iinc (v := y6_22 + 1) (lv' := [(6, .int (y6_22 + 1)), (3, .long t63), (2, .int ((y5_7 * 5) + y6_22)), (7, .long t63), (5, .int y5_7), (0, .ref (a 3)), (1, .int p0)]) hx hb dX1_findLeastPlace_79 hl (k := 3) rfl rfl (by decide) rfl (fun ls hl => ?_)
                    refine lv_goto (tgt := 22) hx hb dX1_findLeastPlace_82 (by decide) ?_
                    exact ih22 (y6_22 + 1) t63 ((y5_7 * 5) + y6_22) _ _  (gap_step c60 hμ22) hR hB _ (lv_sub hl [0, 4, 1, 2, 5, 6] rfl)
        exact lp22 _ p0 y3_7 y2_7 _ _  (Nat.lt_succ_self _) hR hB _ hl
  exact lp7 _ p0 0 (-1) _ _  (Nat.lt_succ_self _) hR hB _ hl
noncomputable def D_X1_bring_j50 (r : Nat → Int32) (q : Nat → Int32) (p2 : Int32) (f_50 : Nat → Nat → Int64) : (Nat → Nat → Int64) := bnd1 (D_X3_get r q f_50 8 p2 p2) (fun (x12 : Int64) => (if 0 ≤ (lg_cmp x12 0) then f_50 else bnd1 (D_X3_turnLine r q f_50 8 0 p2) (fun (f15 : Nat → Nat → Int64) => bnd1 (D_X3_turnLine r q f15 9 0 p2) (fun (f17 : Nat → Nat → Int64) => f17))))
theorem D_X1_bring_j50_s {r : Nat → Int32} {q : Nat → Int32} {p2 : Int32} {f_50 : Nat → Nat → Int64} : D_X1_bring_j50 r q p2 f_50 = bnd1 (D_X3_get r q f_50 8 p2 p2) (fun (x12 : Int64) => (if 0 ≤ (lg_cmp x12 0) then f_50 else bnd1 (D_X3_turnLine r q f_50 8 0 p2) (fun (f15 : Nat → Nat → Int64) => bnd1 (D_X3_turnLine r q f15 9 0 p2) (fun (f17 : Nat → Nat → Int64) => f17)))) := rfl
noncomputable def D_X1_bring_j25 (r : Nat → Int32) (q : Nat → Int32) (p1 : Int32) (p2 : Int32) (f_25 : Nat → Nat → Int64) : (Nat → Nat → Int64) := (if p1 = p2 then (D_X1_bring_j50 r q p2 f_25) else bnd1 (D_X3_exchangeLines r q f_25 8 1 p1 p2) (fun (f20 : Nat → Nat → Int64) => bnd1 (D_X3_exchangeLines r q f20 10 1 p1 p2) (fun (f22 : Nat → Nat → Int64) => (D_X1_bring_j50 r q p2 f22))))
theorem D_X1_bring_j25_s {r : Nat → Int32} {q : Nat → Int32} {p1 : Int32} {p2 : Int32} {f_25 : Nat → Nat → Int64} : D_X1_bring_j25 r q p1 p2 f_25 = (if p1 = p2 then (D_X1_bring_j50 r q p2 f_25) else bnd1 (D_X3_exchangeLines r q f_25 8 1 p1 p2) (fun (f20 : Nat → Nat → Int64) => bnd1 (D_X3_exchangeLines r q f20 10 1 p1 p2) (fun (f22 : Nat → Nat → Int64) => (D_X1_bring_j50 r q p2 f22)))) := rfl
noncomputable def D_X1_bring (r : Nat → Int32) (q : Nat → Int32) (f : Nat → Nat → Int64) (p0 : Int32) (p1 : Int32) (p2 : Int32) : (Nat → Nat → Int64) := (if p0 = p2 then (D_X1_bring_j25 r q p1 p2 f) else bnd1 (D_X3_exchangeLines r q f 8 0 p0 p2) (fun (f25 : Nat → Nat → Int64) => bnd1 (D_X3_exchangeLines r q f25 9 0 p0 p2) (fun (f27 : Nat → Nat → Int64) => (D_X1_bring_j25 r q p1 p2 f27))))
theorem D_X1_bring_s {r : Nat → Int32} {q : Nat → Int32} {f : Nat → Nat → Int64} {p0 : Int32} {p1 : Int32} {p2 : Int32} : D_X1_bring r q f p0 p1 p2 = (if p0 = p2 then (D_X1_bring_j25 r q p1 p2 f) else bnd1 (D_X3_exchangeLines r q f 8 0 p0 p2) (fun (f25 : Nat → Nat → Int64) => bnd1 (D_X3_exchangeLines r q f25 9 0 p0 p2) (fun (f27 : Nat → Nat → Int64) => (D_X1_bring_j25 r q p1 p2 f27)))) := rfl
set_option maxHeartbeats 4000000 in
set_option maxRecDepth 100000 in
theorem k_X1_bring (κ : Kt) (l : Launch) (a : Nat → Nat) (r q : Nat → Int32) (f : Nat → Nat → Int64) (p0 : Int32) (p1 : Int32) (p2 : Int32)  (o_f : Nat → Nat → Int64) (hR : D_X1_bring r q f p0 p1 p2 = o_f) : CM κ l yX1_bring cX1_bring 4 (none) 2 51 0 0 [.ref (a 3), .int p0, .int p1, .int p2] (cw κ a r q f) (fun o w' => o = none ∧ w' = cw κ a r q o_f) := by
  refine CM_begin (plainFor_of_name pn_RX1) (Nat.le_of_ble_eq_true rfl) ?_
  intro p e s m args below meth c A Q hX hnm hA3 hQ hB ls hl
  have hx := hX.1.1
  have hb := hX.1.2.1
  have hl : lv_has ls 4 [(0, .ref (a 3)), (1, .int p0), (2, .int p1), (3, .int p2)] := hl
  replace hR := (D_X1_bring_s).symm.trans hR
  refine lv_iload_n hx hb dX1_bring_0 rfl (lv_at hl 1 rfl) ?_
  refine lv_iload_n hx hb dX1_bring_1 rfl (lv_at hl 3 rfl) ?_
  have jn25 : ∀ (f_25 : Nat → Nat → Int64) (H : Heap) (locs : List Loc), D_X1_bring_j25 r q p1 p2 f_25 = o_f → Bd κ A s (cw κ a r q f_25) H locs → ∀ ls : Array Slot, lv_has ls 4 [(0, .ref (a 3)), (1, .int p0), (2, .int p1), (3, .int p2)] → W p l e (Rm 2 51 0 0) s m args below meth c H locs 0 0 Q (F0 m 25 ls []) := by
    intro f_25 H locs hR hB ls hl
    replace hR := (D_X1_bring_j25_s).symm.trans hR
    refine lv_iload_n hx hb dX1_bring_25 rfl (lv_at hl 2 rfl) ?_
    refine lv_iload_n hx hb dX1_bring_26 rfl (lv_at hl 3 rfl) ?_
    have jn50 : ∀ (f_50 : Nat → Nat → Int64) (H : Heap) (locs : List Loc), D_X1_bring_j50 r q p2 f_50 = o_f → Bd κ A s (cw κ a r q f_50) H locs → ∀ ls : Array Slot, lv_has ls 4 [(0, .ref (a 3)), (1, .int p0), (2, .int p1), (3, .int p2)] → W p l e (Rm 2 51 0 0) s m args below meth c H locs 0 0 Q (F0 m 50 ls []) := by
      intro f_50 H locs hR hB ls hl
      replace hR := (D_X1_bring_j50_s).symm.trans hR
      refine lv_aload_n hx hb dX1_bring_50 rfl (lv_at hl 0 rfl) ?_
      refine gf hX hB cw3 rfl in1 0 (by decide) wm_1_95 rfl rfl dX1_bring_51 ?_
      refine lv_iload_n hx hb dX1_bring_54 rfl (lv_at hl 3 rfl) ?_
      refine lv_iload_n hx hb dX1_bring_55 rfl (lv_at hl 3 rfl) ?_
      obtain ⟨x12, hd11⟩ := ex1 (D_X3_get r q f_50 8 p2 p2)
      replace hR := bnd1_use hd11 hR
      refine call_V (n := 2) (As := [.int p2, .int p2]) (rest := []) hX hB (k_X3_get κ l a r q f_50 8 p2 p2 (by decide) x12 hd11) ⟨rfl, yk_X3_get⟩ wm_2_87 wm_1_187 wm_1_188 wm_1_2 wm_1_189 ⟨Nat.le_of_ble_eq_true rfl, Nat.le_of_ble_eq_true rfl⟩ ⟨Nat.le_of_ble_eq_true rfl, Nat.le_of_ble_eq_true rfl⟩ (cwG (i := 8) (by decide)) rfl rfl rfl hl.1 rfl (Nat.le_of_ble_eq_true rfl) dX1_bring_56 (fun o w' H locs hp hB => ?_)
      obtain ⟨rfl, rfl⟩ := hp
      refine W.eq (g2 := F0 m 59 ls [.long x12]) rfl ?_
      refine lv_lconst (v := 0) hx hb dX1_bring_59 (by decide) ?_
      refine W.lcmp hx hb dX1_bring_60 ?_
      refine lv_if_ge (tgt := 82) hx hb dX1_bring_61 (by decide) (fun c13 => ?_) (fun c13 => ?_)
      · replace hR := ifp c13 hR
        rw [← hQ]
        exact end_v hX hB hA3 rfl (by obtain rfl := hR; exact ⟨rfl, rfl⟩) (Nat.le_of_ble_eq_true rfl) (Nat.le_of_ble_eq_true rfl) dX1_bring_82
      · replace hR := ifn c13 hR
        refine lv_aload_n hx hb dX1_bring_64 rfl (lv_at hl 0 rfl) ?_
        refine gf hX hB cw3 rfl in1 0 (by decide) wm_1_95 rfl rfl dX1_bring_65 ?_
        refine lv_iconst (v := 0) hx hb dX1_bring_68 (by decide) ?_
        refine lv_iload_n hx hb dX1_bring_69 rfl (lv_at hl 3 rfl) ?_
        obtain ⟨f15, hd14⟩ := ex1 (D_X3_turnLine r q f_50 8 0 p2)
        replace hR := bnd1_use hd14 hR
        refine call_V (n := 2) (As := [.int 0, .int p2]) (rest := []) hX hB (k_X3_turnLine κ l a r q f_50 8 0 p2 (by decide) f15 hd14) ⟨rfl, yk_X3_turnLine⟩ wm_2_94 wm_2_9 wm_2_10 wm_1_2 wm_2_11 ⟨Nat.le_of_ble_eq_true rfl, Nat.le_of_ble_eq_true rfl⟩ ⟨Nat.le_of_ble_eq_true rfl, Nat.le_of_ble_eq_true rfl⟩ (cwG (i := 8) (by decide)) rfl rfl rfl hl.1 rfl (Nat.le_of_ble_eq_true rfl) dX1_bring_70 (fun o w' H locs hp hB => ?_)
        obtain ⟨rfl, rfl⟩ := hp
        refine W.eq (g2 := F0 m 73 ls []) rfl ?_
        refine lv_aload_n hx hb dX1_bring_73 rfl (lv_at hl 0 rfl) ?_
        refine gf hX hB cw3 rfl in1 1 (by decide) wm_1_98 rfl rfl dX1_bring_74 ?_
        refine lv_iconst (v := 0) hx hb dX1_bring_77 (by decide) ?_
        refine lv_iload_n hx hb dX1_bring_78 rfl (lv_at hl 3 rfl) ?_
        obtain ⟨f17, hd16⟩ := ex1 (D_X3_turnLine r q f15 9 0 p2)
        replace hR := bnd1_use hd16 hR
        refine call_V (n := 2) (As := [.int 0, .int p2]) (rest := []) hX hB (k_X3_turnLine κ l a r q f15 9 0 p2 (by decide) f17 hd16) ⟨rfl, yk_X3_turnLine⟩ wm_2_94 wm_2_9 wm_2_10 wm_1_2 wm_2_11 ⟨Nat.le_of_ble_eq_true rfl, Nat.le_of_ble_eq_true rfl⟩ ⟨Nat.le_of_ble_eq_true rfl, Nat.le_of_ble_eq_true rfl⟩ (cwG (i := 9) (by decide)) rfl rfl rfl hl.1 rfl (Nat.le_of_ble_eq_true rfl) dX1_bring_79 (fun o w' H locs hp hB => ?_)
        obtain ⟨rfl, rfl⟩ := hp
        refine W.eq (g2 := F0 m 82 ls []) rfl ?_
        rw [← hQ]
        exact end_v hX hB hA3 rfl (by obtain rfl := hR; exact ⟨rfl, rfl⟩) (Nat.le_of_ble_eq_true rfl) (Nat.le_of_ble_eq_true rfl) dX1_bring_82
    refine lv_icmp_eq (tgt := 50) hx hb dX1_bring_27 (by decide) (fun c18 => ?_) (fun c18 => ?_)
    · replace hR := ifp c18 hR
      exact jn50 f_25 _ _  hR hB _ hl
    · replace hR := ifn c18 hR
      refine lv_aload_n hx hb dX1_bring_30 rfl (lv_at hl 0 rfl) ?_
      refine gf hX hB cw3 rfl in1 0 (by decide) wm_1_95 rfl rfl dX1_bring_31 ?_
      refine lv_iconst (v := 1) hx hb dX1_bring_34 (by decide) ?_
      refine lv_iload_n hx hb dX1_bring_35 rfl (lv_at hl 2 rfl) ?_
      refine lv_iload_n hx hb dX1_bring_36 rfl (lv_at hl 3 rfl) ?_
      obtain ⟨f20, hd19⟩ := ex1 (D_X3_exchangeLines r q f_25 8 1 p1 p2)
      replace hR := bnd1_use hd19 hR
      refine call_V (n := 3) (As := [.int 1, .int p1, .int p2]) (rest := []) hX hB (k_X3_exchangeLines κ l a r q f_25 8 1 p1 p2 (by decide) f20 hd19) ⟨rfl, yk_X3_exchangeLines⟩ wm_2_93 wm_2_4 wm_2_5 wm_1_2 wm_2_6 ⟨Nat.le_of_ble_eq_true rfl, Nat.le_of_ble_eq_true rfl⟩ ⟨Nat.le_of_ble_eq_true rfl, Nat.le_of_ble_eq_true rfl⟩ (cwG (i := 8) (by decide)) rfl rfl rfl hl.1 rfl (Nat.le_of_ble_eq_true rfl) dX1_bring_37 (fun o w' H locs hp hB => ?_)
      obtain ⟨rfl, rfl⟩ := hp
      refine W.eq (g2 := F0 m 40 ls []) rfl ?_
      refine lv_aload_n hx hb dX1_bring_40 rfl (lv_at hl 0 rfl) ?_
      refine gf hX hB cw3 rfl in1 2 (by decide) wm_1_101 rfl rfl dX1_bring_41 ?_
      refine lv_iconst (v := 1) hx hb dX1_bring_44 (by decide) ?_
      refine lv_iload_n hx hb dX1_bring_45 rfl (lv_at hl 2 rfl) ?_
      refine lv_iload_n hx hb dX1_bring_46 rfl (lv_at hl 3 rfl) ?_
      obtain ⟨f22, hd21⟩ := ex1 (D_X3_exchangeLines r q f20 10 1 p1 p2)
      replace hR := bnd1_use hd21 hR
      refine call_V (n := 3) (As := [.int 1, .int p1, .int p2]) (rest := []) hX hB (k_X3_exchangeLines κ l a r q f20 10 1 p1 p2 (by decide) f22 hd21) ⟨rfl, yk_X3_exchangeLines⟩ wm_2_93 wm_2_4 wm_2_5 wm_1_2 wm_2_6 ⟨Nat.le_of_ble_eq_true rfl, Nat.le_of_ble_eq_true rfl⟩ ⟨Nat.le_of_ble_eq_true rfl, Nat.le_of_ble_eq_true rfl⟩ (cwG (i := 10) (by decide)) rfl rfl rfl hl.1 rfl (Nat.le_of_ble_eq_true rfl) dX1_bring_47 (fun o w' H locs hp hB => ?_)
      obtain ⟨rfl, rfl⟩ := hp
      refine W.eq (g2 := F0 m 50 ls []) rfl ?_
      exact jn50 f22 _ _  hR hB _ hl
  refine lv_icmp_eq (tgt := 25) hx hb dX1_bring_2 (by decide) (fun c23 => ?_) (fun c23 => ?_)
  · replace hR := ifp c23 hR
    exact jn25 f _ _  hR hB _ hl
  · replace hR := ifn c23 hR
    refine lv_aload_n hx hb dX1_bring_5 rfl (lv_at hl 0 rfl) ?_
    refine gf hX hB cw3 rfl in1 0 (by decide) wm_1_95 rfl rfl dX1_bring_6 ?_
    refine lv_iconst (v := 0) hx hb dX1_bring_9 (by decide) ?_
    refine lv_iload_n hx hb dX1_bring_10 rfl (lv_at hl 1 rfl) ?_
    refine lv_iload_n hx hb dX1_bring_11 rfl (lv_at hl 3 rfl) ?_
    obtain ⟨f25, hd24⟩ := ex1 (D_X3_exchangeLines r q f 8 0 p0 p2)
    replace hR := bnd1_use hd24 hR
    refine call_V (n := 3) (As := [.int 0, .int p0, .int p2]) (rest := []) hX hB (k_X3_exchangeLines κ l a r q f 8 0 p0 p2 (by decide) f25 hd24) ⟨rfl, yk_X3_exchangeLines⟩ wm_2_93 wm_2_4 wm_2_5 wm_1_2 wm_2_6 ⟨Nat.le_of_ble_eq_true rfl, Nat.le_of_ble_eq_true rfl⟩ ⟨Nat.le_of_ble_eq_true rfl, Nat.le_of_ble_eq_true rfl⟩ (cwG (i := 8) (by decide)) rfl rfl rfl hl.1 rfl (Nat.le_of_ble_eq_true rfl) dX1_bring_12 (fun o w' H locs hp hB => ?_)
    obtain ⟨rfl, rfl⟩ := hp
    refine W.eq (g2 := F0 m 15 ls []) rfl ?_
    refine lv_aload_n hx hb dX1_bring_15 rfl (lv_at hl 0 rfl) ?_
    refine gf hX hB cw3 rfl in1 1 (by decide) wm_1_98 rfl rfl dX1_bring_16 ?_
    refine lv_iconst (v := 0) hx hb dX1_bring_19 (by decide) ?_
    refine lv_iload_n hx hb dX1_bring_20 rfl (lv_at hl 1 rfl) ?_
    refine lv_iload_n hx hb dX1_bring_21 rfl (lv_at hl 3 rfl) ?_
    obtain ⟨f27, hd26⟩ := ex1 (D_X3_exchangeLines r q f25 9 0 p0 p2)
    replace hR := bnd1_use hd26 hR
    refine call_V (n := 3) (As := [.int 0, .int p0, .int p2]) (rest := []) hX hB (k_X3_exchangeLines κ l a r q f25 9 0 p0 p2 (by decide) f27 hd26) ⟨rfl, yk_X3_exchangeLines⟩ wm_2_93 wm_2_4 wm_2_5 wm_1_2 wm_2_6 ⟨Nat.le_of_ble_eq_true rfl, Nat.le_of_ble_eq_true rfl⟩ ⟨Nat.le_of_ble_eq_true rfl, Nat.le_of_ble_eq_true rfl⟩ (cwG (i := 9) (by decide)) rfl rfl rfl hl.1 rfl (Nat.le_of_ble_eq_true rfl) dX1_bring_22 (fun o w' H locs hp hB => ?_)
    obtain ⟨rfl, rfl⟩ := hp
    refine W.eq (g2 := F0 m 25 ls []) rfl ?_
    exact jn25 f27 _ _  hR hB _ hl
noncomputable def D_X1_addRow (r : Nat → Int32) (q : Nat → Int32) (f : Nat → Nat → Int64) (p0 : Int32) (p1 : Int32) (p2 : Int64) : (Nat → Int32) × (Nat → Nat → Int64) := bnd1 (D_X3_addLine r q f 8 0 p0 p1 p2) (fun (f2 : Nat → Nat → Int64) => bnd1 (D_X3_addLine r q f2 9 0 p0 p1 p2) (fun (f4 : Nat → Nat → Int64) => bnd1 (D_X3_isWithin r q f4 8 1000000000) (fun (x6 : Int32) => (if x6 = 0 then (va_up q 1 1, f4) else bnd1 (D_X3_isWithin r q f4 9 1000000000) (fun (x9 : Int32) => (if x9 = 0 then (va_up q 1 1, f4) else (va_up q 1 0, f4)))))))
theorem D_X1_addRow_s {r : Nat → Int32} {q : Nat → Int32} {f : Nat → Nat → Int64} {p0 : Int32} {p1 : Int32} {p2 : Int64} : D_X1_addRow r q f p0 p1 p2 = bnd1 (D_X3_addLine r q f 8 0 p0 p1 p2) (fun (f2 : Nat → Nat → Int64) => bnd1 (D_X3_addLine r q f2 9 0 p0 p1 p2) (fun (f4 : Nat → Nat → Int64) => bnd1 (D_X3_isWithin r q f4 8 1000000000) (fun (x6 : Int32) => (if x6 = 0 then (va_up q 1 1, f4) else bnd1 (D_X3_isWithin r q f4 9 1000000000) (fun (x9 : Int32) => (if x9 = 0 then (va_up q 1 1, f4) else (va_up q 1 0, f4))))))) := rfl
set_option maxHeartbeats 4000000 in
set_option maxRecDepth 100000 in
theorem k_X1_addRow (κ : Kt) (l : Launch) (a : Nat → Nat) (r q : Nat → Int32) (f : Nat → Nat → Int64) (p0 : Int32) (p1 : Int32) (p2 : Int64)  (o_q : Nat → Int32) (o_f : Nat → Nat → Int64) (hR : D_X1_addRow r q f p0 p1 p2 = (o_q, o_f)) : CM κ l yX1_addRow cX1_addRow 5 (none) 2 51 0 0 [.ref (a 3), .int p0, .int p1, .long p2] (cw κ a r q f) (fun o w' => o = none ∧ o_q 4 = q 4 ∧ w' = cw κ a r o_q o_f) := by
  refine CM_begin (plainFor_of_name pn_RX1) (Nat.le_of_ble_eq_true rfl) ?_
  intro p e s m args below meth c A Q hX hnm hA3 hQ hB ls hl
  have hx := hX.1.1
  have hb := hX.1.2.1
  have hl : lv_has ls 5 [(0, .ref (a 3)), (1, .int p0), (2, .int p1), (3, .long p2)] := hl
  replace hR := (D_X1_addRow_s).symm.trans hR
  refine lv_aload_n hx hb dX1_addRow_0 rfl (lv_at hl 0 rfl) ?_
  refine gf hX hB cw3 rfl in1 0 (by decide) wm_1_95 rfl rfl dX1_addRow_1 ?_
  refine lv_iconst (v := 0) hx hb dX1_addRow_4 (by decide) ?_
  refine lv_iload_n hx hb dX1_addRow_5 rfl (lv_at hl 1 rfl) ?_
  refine lv_iload_n hx hb dX1_addRow_6 rfl (lv_at hl 2 rfl) ?_
  refine lv_lload_n hx hb dX1_addRow_7 rfl (lv_at hl 3 rfl) ?_
  obtain ⟨f2, hd1⟩ := ex1 (D_X3_addLine r q f 8 0 p0 p1 p2)
  replace hR := bnd1_use hd1 hR
  refine call_V (n := 4) (As := [.int 0, .int p0, .int p1, .long p2]) (rest := []) hX hB (k_X3_addLine κ l a r q f 8 0 p0 p1 p2 (by decide) f2 hd1) ⟨rfl, yk_X3_addLine⟩ wm_2_100 wm_2_23 wm_2_24 wm_1_2 wm_2_25 ⟨Nat.le_of_ble_eq_true rfl, Nat.le_of_ble_eq_true rfl⟩ ⟨Nat.le_of_ble_eq_true rfl, Nat.le_of_ble_eq_true rfl⟩ (cwG (i := 8) (by decide)) rfl rfl rfl hl.1 rfl (Nat.le_of_ble_eq_true rfl) dX1_addRow_8 (fun o w' H locs hp hB => ?_)
  obtain ⟨rfl, rfl⟩ := hp
  refine W.eq (g2 := F0 m 11 ls []) rfl ?_
  refine lv_aload_n hx hb dX1_addRow_11 rfl (lv_at hl 0 rfl) ?_
  refine gf hX hB cw3 rfl in1 1 (by decide) wm_1_98 rfl rfl dX1_addRow_12 ?_
  refine lv_iconst (v := 0) hx hb dX1_addRow_15 (by decide) ?_
  refine lv_iload_n hx hb dX1_addRow_16 rfl (lv_at hl 1 rfl) ?_
  refine lv_iload_n hx hb dX1_addRow_17 rfl (lv_at hl 2 rfl) ?_
  refine lv_lload_n hx hb dX1_addRow_18 rfl (lv_at hl 3 rfl) ?_
  obtain ⟨f4, hd3⟩ := ex1 (D_X3_addLine r q f2 9 0 p0 p1 p2)
  replace hR := bnd1_use hd3 hR
  refine call_V (n := 4) (As := [.int 0, .int p0, .int p1, .long p2]) (rest := []) hX hB (k_X3_addLine κ l a r q f2 9 0 p0 p1 p2 (by decide) f4 hd3) ⟨rfl, yk_X3_addLine⟩ wm_2_100 wm_2_23 wm_2_24 wm_1_2 wm_2_25 ⟨Nat.le_of_ble_eq_true rfl, Nat.le_of_ble_eq_true rfl⟩ ⟨Nat.le_of_ble_eq_true rfl, Nat.le_of_ble_eq_true rfl⟩ (cwG (i := 9) (by decide)) rfl rfl rfl hl.1 rfl (Nat.le_of_ble_eq_true rfl) dX1_addRow_19 (fun o w' H locs hp hB => ?_)
  obtain ⟨rfl, rfl⟩ := hp
  refine W.eq (g2 := F0 m 22 ls []) rfl ?_
  refine lv_aload_n hx hb dX1_addRow_22 rfl (lv_at hl 0 rfl) ?_
  refine lv_aload_n hx hb dX1_addRow_23 rfl (lv_at hl 0 rfl) ?_
  refine gf hX hB cw3 rfl in1 0 (by decide) wm_1_95 rfl rfl dX1_addRow_24 ?_
  refine lv_ldc2 (own := RX1) (v := 1000000000) hx hb hX.1.2.2.2.1 (hX.1.2.2.2.2 _ wm_2_101) dX1_addRow_27 ?_
  obtain ⟨x6, hd5⟩ := ex1 (D_X3_isWithin r q f4 8 1000000000)
  replace hR := bnd1_use hd5 hR
  refine call_V (n := 1) (As := [.long 1000000000]) (rest := [.ref (a 3)]) hX hB (k_X3_isWithin κ l a r q f4 8 1000000000 (by decide) x6 hd5) ⟨rfl, yk_X3_isWithin⟩ wm_2_102 wm_2_28 wm_2_29 wm_1_2 wm_2_30 ⟨Nat.le_of_ble_eq_true rfl, Nat.le_of_ble_eq_true rfl⟩ ⟨Nat.le_of_ble_eq_true rfl, Nat.le_of_ble_eq_true rfl⟩ (cwG (i := 8) (by decide)) rfl rfl rfl hl.1 rfl (Nat.le_of_ble_eq_true rfl) dX1_addRow_30 (fun o w' H locs hp hB => ?_)
  obtain ⟨rfl, bx6, rfl⟩ := hp
  refine W.eq (g2 := F0 m 33 ls [.int x6, .ref (a 3)]) rfl ?_
  refine lv_if_eq (tgt := 49) hx hb dX1_addRow_33 (by decide) (fun c7 => ?_) (fun c7 => ?_)
  · replace hR := ifp c7 hR
    refine lv_iconst (v := 1) hx hb dX1_addRow_49 (by decide) ?_
    refine lv_goto (tgt := 54) hx hb dX1_addRow_50 (by decide) ?_
    refine pf (ty := .boolean) hX hB cw3 rfl in1 tyX1_ok nmX1 3 (by decide) wm_1_104 rfl rfl rfl rfl rfl (Nat.le_of_ble_eq_true rfl) (cwSQ1 _) dX1_addRow_54 (fun H locs hB => ?_)
    rw [← hQ]
    exact end_v hX hB hA3 rfl (by obtain ⟨rfl, rfl⟩ := pr2 hR; exact ⟨rfl, rfl, rfl⟩) (Nat.le_of_ble_eq_true rfl) (Nat.le_of_ble_eq_true rfl) dX1_addRow_57
  · replace hR := ifn c7 hR
    refine lv_aload_n hx hb dX1_addRow_36 rfl (lv_at hl 0 rfl) ?_
    refine gf hX hB cw3 rfl in1 1 (by decide) wm_1_98 rfl rfl dX1_addRow_37 ?_
    refine lv_ldc2 (own := RX1) (v := 1000000000) hx hb hX.1.2.2.2.1 (hX.1.2.2.2.2 _ wm_2_101) dX1_addRow_40 ?_
    obtain ⟨x9, hd8⟩ := ex1 (D_X3_isWithin r q f4 9 1000000000)
    replace hR := bnd1_use hd8 hR
    refine call_V (n := 1) (As := [.long 1000000000]) (rest := [.ref (a 3)]) hX hB (k_X3_isWithin κ l a r q f4 9 1000000000 (by decide) x9 hd8) ⟨rfl, yk_X3_isWithin⟩ wm_2_102 wm_2_28 wm_2_29 wm_1_2 wm_2_30 ⟨Nat.le_of_ble_eq_true rfl, Nat.le_of_ble_eq_true rfl⟩ ⟨Nat.le_of_ble_eq_true rfl, Nat.le_of_ble_eq_true rfl⟩ (cwG (i := 9) (by decide)) rfl rfl rfl hl.1 rfl (Nat.le_of_ble_eq_true rfl) dX1_addRow_43 (fun o w' H locs hp hB => ?_)
    obtain ⟨rfl, bx9, rfl⟩ := hp
    refine W.eq (g2 := F0 m 46 ls [.int x9, .ref (a 3)]) rfl ?_
    refine lv_if_ne (tgt := 53) hx hb dX1_addRow_46 (by decide) (fun c10 => ?_) (fun c10 => ?_)
    · replace hR := ifn c10 hR
      refine lv_iconst (v := 0) hx hb dX1_addRow_53 (by decide) ?_
      refine pf (ty := .boolean) hX hB cw3 rfl in1 tyX1_ok nmX1 3 (by decide) wm_1_104 rfl rfl rfl rfl rfl (Nat.le_of_ble_eq_true rfl) (cwSQ1 _) dX1_addRow_54 (fun H locs hB => ?_)
      rw [← hQ]
      exact end_v hX hB hA3 rfl (by obtain ⟨rfl, rfl⟩ := pr2 hR; exact ⟨rfl, rfl, rfl⟩) (Nat.le_of_ble_eq_true rfl) (Nat.le_of_ble_eq_true rfl) dX1_addRow_57
    · replace hR := ifp c10 hR
      refine lv_iconst (v := 1) hx hb dX1_addRow_49 (by decide) ?_
      refine lv_goto (tgt := 54) hx hb dX1_addRow_50 (by decide) ?_
      refine pf (ty := .boolean) hX hB cw3 rfl in1 tyX1_ok nmX1 3 (by decide) wm_1_104 rfl rfl rfl rfl rfl (Nat.le_of_ble_eq_true rfl) (cwSQ1 _) dX1_addRow_54 (fun H locs hB => ?_)
      rw [← hQ]
      exact end_v hX hB hA3 rfl (by obtain ⟨rfl, rfl⟩ := pr2 hR; exact ⟨rfl, rfl, rfl⟩) (Nat.le_of_ble_eq_true rfl) (Nat.le_of_ble_eq_true rfl) dX1_addRow_57
noncomputable def D_X1_addColumn (r : Nat → Int32) (q : Nat → Int32) (f : Nat → Nat → Int64) (p0 : Int32) (p1 : Int32) (p2 : Int64) : (Nat → Int32) × (Nat → Nat → Int64) := bnd1 (D_X3_addLine r q f 8 1 p0 p1 p2) (fun (f2 : Nat → Nat → Int64) => bnd1 (D_X3_addLine r q f2 10 1 p0 p1 p2) (fun (f4 : Nat → Nat → Int64) => bnd1 (D_X3_isWithin r q f4 8 1000000000) (fun (x6 : Int32) => (if x6 = 0 then (va_up q 1 1, f4) else bnd1 (D_X3_isWithin r q f4 10 1000000000) (fun (x9 : Int32) => (if x9 = 0 then (va_up q 1 1, f4) else (va_up q 1 0, f4)))))))
theorem D_X1_addColumn_s {r : Nat → Int32} {q : Nat → Int32} {f : Nat → Nat → Int64} {p0 : Int32} {p1 : Int32} {p2 : Int64} : D_X1_addColumn r q f p0 p1 p2 = bnd1 (D_X3_addLine r q f 8 1 p0 p1 p2) (fun (f2 : Nat → Nat → Int64) => bnd1 (D_X3_addLine r q f2 10 1 p0 p1 p2) (fun (f4 : Nat → Nat → Int64) => bnd1 (D_X3_isWithin r q f4 8 1000000000) (fun (x6 : Int32) => (if x6 = 0 then (va_up q 1 1, f4) else bnd1 (D_X3_isWithin r q f4 10 1000000000) (fun (x9 : Int32) => (if x9 = 0 then (va_up q 1 1, f4) else (va_up q 1 0, f4))))))) := rfl
set_option maxHeartbeats 4000000 in
set_option maxRecDepth 100000 in
theorem k_X1_addColumn (κ : Kt) (l : Launch) (a : Nat → Nat) (r q : Nat → Int32) (f : Nat → Nat → Int64) (p0 : Int32) (p1 : Int32) (p2 : Int64)  (o_q : Nat → Int32) (o_f : Nat → Nat → Int64) (hR : D_X1_addColumn r q f p0 p1 p2 = (o_q, o_f)) : CM κ l yX1_addColumn cX1_addColumn 5 (none) 2 51 0 0 [.ref (a 3), .int p0, .int p1, .long p2] (cw κ a r q f) (fun o w' => o = none ∧ o_q 4 = q 4 ∧ w' = cw κ a r o_q o_f) := by
  refine CM_begin (plainFor_of_name pn_RX1) (Nat.le_of_ble_eq_true rfl) ?_
  intro p e s m args below meth c A Q hX hnm hA3 hQ hB ls hl
  have hx := hX.1.1
  have hb := hX.1.2.1
  have hl : lv_has ls 5 [(0, .ref (a 3)), (1, .int p0), (2, .int p1), (3, .long p2)] := hl
  replace hR := (D_X1_addColumn_s).symm.trans hR
  refine lv_aload_n hx hb dX1_addColumn_0 rfl (lv_at hl 0 rfl) ?_
  refine gf hX hB cw3 rfl in1 0 (by decide) wm_1_95 rfl rfl dX1_addColumn_1 ?_
  refine lv_iconst (v := 1) hx hb dX1_addColumn_4 (by decide) ?_
  refine lv_iload_n hx hb dX1_addColumn_5 rfl (lv_at hl 1 rfl) ?_
  refine lv_iload_n hx hb dX1_addColumn_6 rfl (lv_at hl 2 rfl) ?_
  refine lv_lload_n hx hb dX1_addColumn_7 rfl (lv_at hl 3 rfl) ?_
  obtain ⟨f2, hd1⟩ := ex1 (D_X3_addLine r q f 8 1 p0 p1 p2)
  replace hR := bnd1_use hd1 hR
  refine call_V (n := 4) (As := [.int 1, .int p0, .int p1, .long p2]) (rest := []) hX hB (k_X3_addLine κ l a r q f 8 1 p0 p1 p2 (by decide) f2 hd1) ⟨rfl, yk_X3_addLine⟩ wm_2_100 wm_2_23 wm_2_24 wm_1_2 wm_2_25 ⟨Nat.le_of_ble_eq_true rfl, Nat.le_of_ble_eq_true rfl⟩ ⟨Nat.le_of_ble_eq_true rfl, Nat.le_of_ble_eq_true rfl⟩ (cwG (i := 8) (by decide)) rfl rfl rfl hl.1 rfl (Nat.le_of_ble_eq_true rfl) dX1_addColumn_8 (fun o w' H locs hp hB => ?_)
  obtain ⟨rfl, rfl⟩ := hp
  refine W.eq (g2 := F0 m 11 ls []) rfl ?_
  refine lv_aload_n hx hb dX1_addColumn_11 rfl (lv_at hl 0 rfl) ?_
  refine gf hX hB cw3 rfl in1 2 (by decide) wm_1_101 rfl rfl dX1_addColumn_12 ?_
  refine lv_iconst (v := 1) hx hb dX1_addColumn_15 (by decide) ?_
  refine lv_iload_n hx hb dX1_addColumn_16 rfl (lv_at hl 1 rfl) ?_
  refine lv_iload_n hx hb dX1_addColumn_17 rfl (lv_at hl 2 rfl) ?_
  refine lv_lload_n hx hb dX1_addColumn_18 rfl (lv_at hl 3 rfl) ?_
  obtain ⟨f4, hd3⟩ := ex1 (D_X3_addLine r q f2 10 1 p0 p1 p2)
  replace hR := bnd1_use hd3 hR
  refine call_V (n := 4) (As := [.int 1, .int p0, .int p1, .long p2]) (rest := []) hX hB (k_X3_addLine κ l a r q f2 10 1 p0 p1 p2 (by decide) f4 hd3) ⟨rfl, yk_X3_addLine⟩ wm_2_100 wm_2_23 wm_2_24 wm_1_2 wm_2_25 ⟨Nat.le_of_ble_eq_true rfl, Nat.le_of_ble_eq_true rfl⟩ ⟨Nat.le_of_ble_eq_true rfl, Nat.le_of_ble_eq_true rfl⟩ (cwG (i := 10) (by decide)) rfl rfl rfl hl.1 rfl (Nat.le_of_ble_eq_true rfl) dX1_addColumn_19 (fun o w' H locs hp hB => ?_)
  obtain ⟨rfl, rfl⟩ := hp
  refine W.eq (g2 := F0 m 22 ls []) rfl ?_
  refine lv_aload_n hx hb dX1_addColumn_22 rfl (lv_at hl 0 rfl) ?_
  refine lv_aload_n hx hb dX1_addColumn_23 rfl (lv_at hl 0 rfl) ?_
  refine gf hX hB cw3 rfl in1 0 (by decide) wm_1_95 rfl rfl dX1_addColumn_24 ?_
  refine lv_ldc2 (own := RX1) (v := 1000000000) hx hb hX.1.2.2.2.1 (hX.1.2.2.2.2 _ wm_2_101) dX1_addColumn_27 ?_
  obtain ⟨x6, hd5⟩ := ex1 (D_X3_isWithin r q f4 8 1000000000)
  replace hR := bnd1_use hd5 hR
  refine call_V (n := 1) (As := [.long 1000000000]) (rest := [.ref (a 3)]) hX hB (k_X3_isWithin κ l a r q f4 8 1000000000 (by decide) x6 hd5) ⟨rfl, yk_X3_isWithin⟩ wm_2_102 wm_2_28 wm_2_29 wm_1_2 wm_2_30 ⟨Nat.le_of_ble_eq_true rfl, Nat.le_of_ble_eq_true rfl⟩ ⟨Nat.le_of_ble_eq_true rfl, Nat.le_of_ble_eq_true rfl⟩ (cwG (i := 8) (by decide)) rfl rfl rfl hl.1 rfl (Nat.le_of_ble_eq_true rfl) dX1_addColumn_30 (fun o w' H locs hp hB => ?_)
  obtain ⟨rfl, bx6, rfl⟩ := hp
  refine W.eq (g2 := F0 m 33 ls [.int x6, .ref (a 3)]) rfl ?_
  refine lv_if_eq (tgt := 49) hx hb dX1_addColumn_33 (by decide) (fun c7 => ?_) (fun c7 => ?_)
  · replace hR := ifp c7 hR
    refine lv_iconst (v := 1) hx hb dX1_addColumn_49 (by decide) ?_
    refine lv_goto (tgt := 54) hx hb dX1_addColumn_50 (by decide) ?_
    refine pf (ty := .boolean) hX hB cw3 rfl in1 tyX1_ok nmX1 3 (by decide) wm_1_104 rfl rfl rfl rfl rfl (Nat.le_of_ble_eq_true rfl) (cwSQ1 _) dX1_addColumn_54 (fun H locs hB => ?_)
    rw [← hQ]
    exact end_v hX hB hA3 rfl (by obtain ⟨rfl, rfl⟩ := pr2 hR; exact ⟨rfl, rfl, rfl⟩) (Nat.le_of_ble_eq_true rfl) (Nat.le_of_ble_eq_true rfl) dX1_addColumn_57
  · replace hR := ifn c7 hR
    refine lv_aload_n hx hb dX1_addColumn_36 rfl (lv_at hl 0 rfl) ?_
    refine gf hX hB cw3 rfl in1 2 (by decide) wm_1_101 rfl rfl dX1_addColumn_37 ?_
    refine lv_ldc2 (own := RX1) (v := 1000000000) hx hb hX.1.2.2.2.1 (hX.1.2.2.2.2 _ wm_2_101) dX1_addColumn_40 ?_
    obtain ⟨x9, hd8⟩ := ex1 (D_X3_isWithin r q f4 10 1000000000)
    replace hR := bnd1_use hd8 hR
    refine call_V (n := 1) (As := [.long 1000000000]) (rest := [.ref (a 3)]) hX hB (k_X3_isWithin κ l a r q f4 10 1000000000 (by decide) x9 hd8) ⟨rfl, yk_X3_isWithin⟩ wm_2_102 wm_2_28 wm_2_29 wm_1_2 wm_2_30 ⟨Nat.le_of_ble_eq_true rfl, Nat.le_of_ble_eq_true rfl⟩ ⟨Nat.le_of_ble_eq_true rfl, Nat.le_of_ble_eq_true rfl⟩ (cwG (i := 10) (by decide)) rfl rfl rfl hl.1 rfl (Nat.le_of_ble_eq_true rfl) dX1_addColumn_43 (fun o w' H locs hp hB => ?_)
    obtain ⟨rfl, bx9, rfl⟩ := hp
    refine W.eq (g2 := F0 m 46 ls [.int x9, .ref (a 3)]) rfl ?_
    refine lv_if_ne (tgt := 53) hx hb dX1_addColumn_46 (by decide) (fun c10 => ?_) (fun c10 => ?_)
    · replace hR := ifn c10 hR
      refine lv_iconst (v := 0) hx hb dX1_addColumn_53 (by decide) ?_
      refine pf (ty := .boolean) hX hB cw3 rfl in1 tyX1_ok nmX1 3 (by decide) wm_1_104 rfl rfl rfl rfl rfl (Nat.le_of_ble_eq_true rfl) (cwSQ1 _) dX1_addColumn_54 (fun H locs hB => ?_)
      rw [← hQ]
      exact end_v hX hB hA3 rfl (by obtain ⟨rfl, rfl⟩ := pr2 hR; exact ⟨rfl, rfl, rfl⟩) (Nat.le_of_ble_eq_true rfl) (Nat.le_of_ble_eq_true rfl) dX1_addColumn_57
    · replace hR := ifp c10 hR
      refine lv_iconst (v := 1) hx hb dX1_addColumn_49 (by decide) ?_
      refine lv_goto (tgt := 54) hx hb dX1_addColumn_50 (by decide) ?_
      refine pf (ty := .boolean) hX hB cw3 rfl in1 tyX1_ok nmX1 3 (by decide) wm_1_104 rfl rfl rfl rfl rfl (Nat.le_of_ble_eq_true rfl) (cwSQ1 _) dX1_addColumn_54 (fun H locs hB => ?_)
      rw [← hQ]
      exact end_v hX hB hA3 rfl (by obtain ⟨rfl, rfl⟩ := pr2 hR; exact ⟨rfl, rfl, rfl⟩) (Nat.le_of_ble_eq_true rfl) (Nat.le_of_ble_eq_true rfl) dX1_addColumn_57
noncomputable def D_X1_isCrossClear_41 (r : Nat → Int32) (q : Nat → Int32) (f : Nat → Nat → Int64) (p0 : Int32) (nn : Nat) : Int32 → Int32 := @Nat.rec (fun _ => Int32 → Int32) (fun _ => default) (fun _ lb41 (y2_41 : Int32) => (if (r (2 * 8 + 1)) ≤ y2_41 then 1 else bnd1 (D_X3_get r q f 8 p0 y2_41) (fun (x44 : Int64) => (if (lg_cmp x44 0) = 0 then (lb41 (y2_41 + 1)) else 0)))) nn
theorem D_X1_isCrossClear_41_s {r : Nat → Int32} {q : Nat → Int32} {f : Nat → Nat → Int64} {p0 : Int32} {nn : Nat} {y2_41 : Int32} : D_X1_isCrossClear_41 r q f p0 (nn + 1) y2_41 = (if (r (2 * 8 + 1)) ≤ y2_41 then 1 else bnd1 (D_X3_get r q f 8 p0 y2_41) (fun (x44 : Int64) => (if (lg_cmp x44 0) = 0 then ((D_X1_isCrossClear_41 r q f p0 nn) (y2_41 + 1)) else 0))) := rfl
noncomputable def D_X1_isCrossClear_4 (r : Nat → Int32) (q : Nat → Int32) (f : Nat → Nat → Int64) (p0 : Int32) (nn : Nat) : Int32 → Int32 := @Nat.rec (fun _ => Int32 → Int32) (fun _ => default) (fun _ lb4 (y2_4 : Int32) => (if (r (2 * 8)) ≤ y2_4 then (D_X1_isCrossClear_41 r q f p0 (gap (r (2 * 8 + 1)) (p0 + 1) + 1) (p0 + 1)) else bnd1 (D_X3_get r q f 8 y2_4 p0) (fun (x47 : Int64) => (if (lg_cmp x47 0) = 0 then (lb4 (y2_4 + 1)) else 0)))) nn
theorem D_X1_isCrossClear_4_s {r : Nat → Int32} {q : Nat → Int32} {f : Nat → Nat → Int64} {p0 : Int32} {nn : Nat} {y2_4 : Int32} : D_X1_isCrossClear_4 r q f p0 (nn + 1) y2_4 = (if (r (2 * 8)) ≤ y2_4 then (D_X1_isCrossClear_41 r q f p0 (gap (r (2 * 8 + 1)) (p0 + 1) + 1) (p0 + 1)) else bnd1 (D_X3_get r q f 8 y2_4 p0) (fun (x47 : Int64) => (if (lg_cmp x47 0) = 0 then ((D_X1_isCrossClear_4 r q f p0 nn) (y2_4 + 1)) else 0))) := rfl
noncomputable def D_X1_isCrossClear (r : Nat → Int32) (q : Nat → Int32) (f : Nat → Nat → Int64) (p0 : Int32) : Int32 := (D_X1_isCrossClear_4 r q f p0 (gap (r (2 * 8)) (p0 + 1) + 1) (p0 + 1))
theorem D_X1_isCrossClear_s {r : Nat → Int32} {q : Nat → Int32} {f : Nat → Nat → Int64} {p0 : Int32} : D_X1_isCrossClear r q f p0 = (D_X1_isCrossClear_4 r q f p0 (gap (r (2 * 8)) (p0 + 1) + 1) (p0 + 1)) := rfl
set_option maxHeartbeats 4000000 in
set_option maxRecDepth 100000 in
theorem k_X1_isCrossClear (κ : Kt) (l : Launch) (a : Nat → Nat) (r q : Nat → Int32) (f : Nat → Nat → Int64) (p0 : Int32)  (o_x : Int32) (hR : D_X1_isCrossClear r q f p0 = o_x) : CM κ l yX1_isCrossClear cX1_isCrossClear 3 (some .boolean) 1 22 0 0 [.ref (a 3), .int p0] (cw κ a r q f) (fun o w' => o = some (.int o_x) ∧ (o_x = 0 ∨ o_x = 1) ∧ w' = cw κ a r q f) := by
  refine CM_begin (plainFor_of_name pn_RX1) (Nat.le_of_ble_eq_true rfl) ?_
  intro p e s m args below meth c A Q hX hnm hA3 hQ hB ls hl
  have hx := hX.1.1
  have hb := hX.1.2.1
  have hl : lv_has ls 3 [(0, .ref (a 3)), (1, .int p0)] := hl
  replace hR := (D_X1_isCrossClear_s).symm.trans hR
  refine lv_iload_n hx hb dX1_isCrossClear_0 rfl (lv_at hl 1 rfl) ?_
  refine lv_iconst (v := 1) hx hb dX1_isCrossClear_1 (by decide) ?_
  refine lv_iadd hx hb dX1_isCrossClear_2 ?_
  refine lv_istore_n (lv' := [(2, .int (p0 + 1)), (0, .ref (a 3)), (1, .int p0)]) hx hb dX1_isCrossClear_3 rfl hl (by decide) rfl (fun ls hl => ?_)
  have lp4 : ∀ (nn4 : Nat) (y2_4 : Int32) (H : Heap) (locs : List Loc), gap (r (2 * 8)) y2_4 < nn4 → D_X1_isCrossClear_4 r q f p0 nn4 y2_4 = o_x → Bd κ A s (cw κ a r q f) H locs → ∀ ls : Array Slot, lv_has ls 3 [(2, .int y2_4), (0, .ref (a 3)), (1, .int p0)] → W p l e (Rm 1 22 0 0) s m args below meth c H locs 0 0 Q (F0 m 4 ls []) := by
    intro nn4
    induction nn4 with
    | zero => intro y2_4 H locs hμ; exact absurd hμ (Nat.not_lt_zero _)
    | succ nn4 ih4 =>
      intro y2_4 H locs hμ4 hR hB ls hl
      replace hR := (D_X1_isCrossClear_4_s).symm.trans hR
      refine lv_iload_n hx hb dX1_isCrossClear_4 rfl (lv_at hl 0 rfl) ?_
      refine lv_aload_n hx hb dX1_isCrossClear_5 rfl (lv_at hl 1 rfl) ?_
      refine gf hX hB cw3 rfl in1 0 (by decide) wm_1_95 rfl rfl dX1_isCrossClear_6 ?_
      refine gfN hX hB (cwG (i := 8) (by decide)) rfl in3 1 (by decide) wn_1_49 rfl rfl dX1_isCrossClear_9 ?_
      refine lv_icmp_ge (tgt := 37) hx hb dX1_isCrossClear_12 (by decide) (fun c33 => ?_) (fun c33 => ?_)
      · replace hR := ifp c33 hR
        refine lv_iload_n hx hb dX1_isCrossClear_37 rfl (lv_at hl 2 rfl) ?_
        refine lv_iconst (v := 1) hx hb dX1_isCrossClear_38 (by decide) ?_
        refine lv_iadd hx hb dX1_isCrossClear_39 ?_
        refine lv_istore_n (lv' := [(2, .int (p0 + 1)), (0, .ref (a 3)), (1, .int p0)]) hx hb dX1_isCrossClear_40 rfl hl (by decide) rfl (fun ls hl => ?_)
        have lp41 : ∀ (nn41 : Nat) (y2_41 : Int32) (H : Heap) (locs : List Loc), gap (r (2 * 8 + 1)) y2_41 < nn41 → D_X1_isCrossClear_41 r q f p0 nn41 y2_41 = o_x → Bd κ A s (cw κ a r q f) H locs → ∀ ls : Array Slot, lv_has ls 3 [(2, .int y2_41), (0, .ref (a 3)), (1, .int p0)] → W p l e (Rm 1 22 0 0) s m args below meth c H locs 0 0 Q (F0 m 41 ls []) := by
          intro nn41
          induction nn41 with
          | zero => intro y2_41 H locs hμ; exact absurd hμ (Nat.not_lt_zero _)
          | succ nn41 ih41 =>
            intro y2_41 H locs hμ41 hR hB ls hl
            replace hR := (D_X1_isCrossClear_41_s).symm.trans hR
            refine lv_iload_n hx hb dX1_isCrossClear_41 rfl (lv_at hl 0 rfl) ?_
            refine lv_aload_n hx hb dX1_isCrossClear_42 rfl (lv_at hl 1 rfl) ?_
            refine gf hX hB cw3 rfl in1 0 (by decide) wm_1_95 rfl rfl dX1_isCrossClear_43 ?_
            refine gfN hX hB (cwG (i := 8) (by decide)) rfl in3 2 (by decide) wn_1_54 rfl rfl dX1_isCrossClear_46 ?_
            refine lv_icmp_ge (tgt := 74) hx hb dX1_isCrossClear_49 (by decide) (fun c42 => ?_) (fun c42 => ?_)
            · replace hR := ifp c42 hR
              refine lv_iconst (v := 1) hx hb dX1_isCrossClear_74 (by decide) ?_
              rw [← hQ]
              exact end_i hX hB hA3 rfl rfl (by obtain rfl := hR; exact ⟨rfl, Or.inr rfl, rfl⟩) (Nat.le_of_ble_eq_true rfl) (Nat.le_of_ble_eq_true rfl) dX1_isCrossClear_75
            · replace hR := ifn c42 hR
              refine lv_aload_n hx hb dX1_isCrossClear_52 rfl (lv_at hl 1 rfl) ?_
              refine gf hX hB cw3 rfl in1 0 (by decide) wm_1_95 rfl rfl dX1_isCrossClear_53 ?_
              refine lv_iload_n hx hb dX1_isCrossClear_56 rfl (lv_at hl 2 rfl) ?_
              refine lv_iload_n hx hb dX1_isCrossClear_57 rfl (lv_at hl 0 rfl) ?_
              obtain ⟨x44, hd43⟩ := ex1 (D_X3_get r q f 8 p0 y2_41)
              replace hR := bnd1_use hd43 hR
              refine call_V (n := 2) (As := [.int p0, .int y2_41]) (rest := []) hX hB (k_X3_get κ l a r q f 8 p0 y2_41 (by decide) x44 hd43) ⟨rfl, yk_X3_get⟩ wm_2_87 wm_1_187 wm_1_188 wm_1_2 wm_1_189 ⟨Nat.le_of_ble_eq_true rfl, Nat.le_of_ble_eq_true rfl⟩ ⟨Nat.le_of_ble_eq_true rfl, Nat.le_of_ble_eq_true rfl⟩ (cwG (i := 8) (by decide)) rfl rfl rfl hl.1 rfl (Nat.le_of_ble_eq_true rfl) dX1_isCrossClear_58 (fun o w' H locs hp hB => ?_)
              obtain ⟨rfl, rfl⟩ := hp
              refine W.eq (g2 := F0 m 61 ls [.long x44]) rfl ?_
              refine lv_lconst (v := 0) hx hb dX1_isCrossClear_61 (by decide) ?_
              refine W.lcmp hx hb dX1_isCrossClear_62 ?_
              refine lv_if_eq (tgt := 68) hx hb dX1_isCrossClear_63 (by decide) (fun c45 => ?_) (fun c45 => ?_)
              · replace hR := ifp c45 hR
                refine lv_iinc (v := y2_41 + 1) (lv' := [(2, .int (y2_41 + 1)), (0, .ref (a 3)), (1, .int p0)]) hx hb dX1_isCrossClear_68 hl (k := 0) rfl rfl (by decide) rfl (fun ls hl => ?_)
                refine lv_goto (tgt := 41) hx hb dX1_isCrossClear_71 (by decide) ?_
                exact ih41 (y2_41 + 1) _ _  (gap_step c42 hμ41) hR hB _ hl
              · replace hR := ifn c45 hR
                refine lv_iconst (v := 0) hx hb dX1_isCrossClear_66 (by decide) ?_
                rw [← hQ]
                exact end_i hX hB hA3 rfl rfl (by obtain rfl := hR; exact ⟨rfl, Or.inl rfl, rfl⟩) (Nat.le_of_ble_eq_true rfl) (Nat.le_of_ble_eq_true rfl) dX1_isCrossClear_67
        exact lp41 _ (p0 + 1) _ _  (Nat.lt_succ_self _) hR hB _ hl
      · replace hR := ifn c33 hR
        refine lv_aload_n hx hb dX1_isCrossClear_15 rfl (lv_at hl 1 rfl) ?_
        refine gf hX hB cw3 rfl in1 0 (by decide) wm_1_95 rfl rfl dX1_isCrossClear_16 ?_
        refine lv_iload_n hx hb dX1_isCrossClear_19 rfl (lv_at hl 0 rfl) ?_
        refine lv_iload_n hx hb dX1_isCrossClear_20 rfl (lv_at hl 2 rfl) ?_
        obtain ⟨x47, hd46⟩ := ex1 (D_X3_get r q f 8 y2_4 p0)
        replace hR := bnd1_use hd46 hR
        refine call_V (n := 2) (As := [.int y2_4, .int p0]) (rest := []) hX hB (k_X3_get κ l a r q f 8 y2_4 p0 (by decide) x47 hd46) ⟨rfl, yk_X3_get⟩ wm_2_87 wm_1_187 wm_1_188 wm_1_2 wm_1_189 ⟨Nat.le_of_ble_eq_true rfl, Nat.le_of_ble_eq_true rfl⟩ ⟨Nat.le_of_ble_eq_true rfl, Nat.le_of_ble_eq_true rfl⟩ (cwG (i := 8) (by decide)) rfl rfl rfl hl.1 rfl (Nat.le_of_ble_eq_true rfl) dX1_isCrossClear_21 (fun o w' H locs hp hB => ?_)
        obtain ⟨rfl, rfl⟩ := hp
        refine W.eq (g2 := F0 m 24 ls [.long x47]) rfl ?_
        refine lv_lconst (v := 0) hx hb dX1_isCrossClear_24 (by decide) ?_
        refine W.lcmp hx hb dX1_isCrossClear_25 ?_
        refine lv_if_eq (tgt := 31) hx hb dX1_isCrossClear_26 (by decide) (fun c48 => ?_) (fun c48 => ?_)
        · replace hR := ifp c48 hR
          refine lv_iinc (v := y2_4 + 1) (lv' := [(2, .int (y2_4 + 1)), (0, .ref (a 3)), (1, .int p0)]) hx hb dX1_isCrossClear_31 hl (k := 0) rfl rfl (by decide) rfl (fun ls hl => ?_)
          refine lv_goto (tgt := 4) hx hb dX1_isCrossClear_34 (by decide) ?_
          exact ih4 (y2_4 + 1) _ _  (gap_step c33 hμ4) hR hB _ hl
        · replace hR := ifn c48 hR
          refine lv_iconst (v := 0) hx hb dX1_isCrossClear_29 (by decide) ?_
          rw [← hQ]
          exact end_i hX hB hA3 rfl rfl (by obtain rfl := hR; exact ⟨rfl, Or.inl rfl, rfl⟩) (Nat.le_of_ble_eq_true rfl) (Nat.le_of_ble_eq_true rfl) dX1_isCrossClear_30
  exact lp4 _ (p0 + 1) _ _  (Nat.lt_succ_self _) hR hB _ hl
noncomputable def D_X1_findUndividedRow_19 (r : Nat → Int32) (q : Nat → Int32) (f : Nat → Nat → Int64) (p0 : Int32) (lb4 : Int32 → Int32) (y2_4 : Int32) (nn : Nat) : Int32 → Int32 := @Nat.rec (fun _ => Int32 → Int32) (fun _ => default) (fun _ lb19 (y3_19 : Int32) => (if (r (2 * 8 + 1)) ≤ y3_19 then (lb4 (y2_4 + 1)) else bnd1 (D_X3_get r q f 8 p0 p0) (fun (x70 : Int64) => bnd1 (D_X3_get r q f 8 y2_4 y3_19) (fun (x72 : Int64) => bnd1 (D_X5_divides x70 x72) (fun (x73 : Int32) => (if x73 = 0 then y2_4 else (lb19 (y3_19 + 1)))))))) nn
theorem D_X1_findUndividedRow_19_s {r : Nat → Int32} {q : Nat → Int32} {f : Nat → Nat → Int64} {p0 : Int32} {lb4 : Int32 → Int32} {y2_4 : Int32} {nn : Nat} {y3_19 : Int32} : D_X1_findUndividedRow_19 r q f p0 lb4 y2_4 (nn + 1) y3_19 = (if (r (2 * 8 + 1)) ≤ y3_19 then (lb4 (y2_4 + 1)) else bnd1 (D_X3_get r q f 8 p0 p0) (fun (x70 : Int64) => bnd1 (D_X3_get r q f 8 y2_4 y3_19) (fun (x72 : Int64) => bnd1 (D_X5_divides x70 x72) (fun (x73 : Int32) => (if x73 = 0 then y2_4 else ((D_X1_findUndividedRow_19 r q f p0 lb4 y2_4 nn) (y3_19 + 1))))))) := rfl
noncomputable def D_X1_findUndividedRow_4 (r : Nat → Int32) (q : Nat → Int32) (f : Nat → Nat → Int64) (p0 : Int32) (nn : Nat) : Int32 → Int32 := @Nat.rec (fun _ => Int32 → Int32) (fun _ => default) (fun _ lb4 (y2_4 : Int32) => (if (r (2 * 8)) ≤ y2_4 then -1 else (D_X1_findUndividedRow_19 r q f p0 lb4 y2_4 (gap (r (2 * 8 + 1)) (p0 + 1) + 1) (p0 + 1)))) nn
theorem D_X1_findUndividedRow_4_s {r : Nat → Int32} {q : Nat → Int32} {f : Nat → Nat → Int64} {p0 : Int32} {nn : Nat} {y2_4 : Int32} : D_X1_findUndividedRow_4 r q f p0 (nn + 1) y2_4 = (if (r (2 * 8)) ≤ y2_4 then -1 else (D_X1_findUndividedRow_19 r q f p0 (D_X1_findUndividedRow_4 r q f p0 nn) y2_4 (gap (r (2 * 8 + 1)) (p0 + 1) + 1) (p0 + 1))) := rfl
noncomputable def D_X1_findUndividedRow (r : Nat → Int32) (q : Nat → Int32) (f : Nat → Nat → Int64) (p0 : Int32) : Int32 := (D_X1_findUndividedRow_4 r q f p0 (gap (r (2 * 8)) (p0 + 1) + 1) (p0 + 1))
theorem D_X1_findUndividedRow_s {r : Nat → Int32} {q : Nat → Int32} {f : Nat → Nat → Int64} {p0 : Int32} : D_X1_findUndividedRow r q f p0 = (D_X1_findUndividedRow_4 r q f p0 (gap (r (2 * 8)) (p0 + 1) + 1) (p0 + 1)) := rfl
set_option maxHeartbeats 4000000 in
set_option maxRecDepth 100000 in
theorem k_X1_findUndividedRow (κ : Kt) (l : Launch) (a : Nat → Nat) (r q : Nat → Int32) (f : Nat → Nat → Int64) (p0 : Int32)  (o_x : Int32) (hR : D_X1_findUndividedRow r q f p0 = o_x) : CM κ l yX1_findUndividedRow cX1_findUndividedRow 4 (some .int) 1 23 0 0 [.ref (a 3), .int p0] (cw κ a r q f) (fun o w' => o = some (.int o_x) ∧ w' = cw κ a r q f) := by
  refine CM_begin (plainFor_of_name pn_RX1) (Nat.le_of_ble_eq_true rfl) ?_
  intro p e s m args below meth c A Q hX hnm hA3 hQ hB ls hl
  have hx := hX.1.1
  have hb := hX.1.2.1
  have hl : lv_has ls 4 [(0, .ref (a 3)), (1, .int p0)] := hl
  replace hR := (D_X1_findUndividedRow_s).symm.trans hR
  refine lv_iload_n hx hb dX1_findUndividedRow_0 rfl (lv_at hl 1 rfl) ?_
  refine lv_iconst (v := 1) hx hb dX1_findUndividedRow_1 (by decide) ?_
  refine lv_iadd hx hb dX1_findUndividedRow_2 ?_
  refine lv_istore_n (lv' := [(2, .int (p0 + 1)), (0, .ref (a 3)), (1, .int p0)]) hx hb dX1_findUndividedRow_3 rfl hl (by decide) rfl (fun ls hl => ?_)
  have lp4 : ∀ (nn4 : Nat) (y2_4 : Int32) (H : Heap) (locs : List Loc), gap (r (2 * 8)) y2_4 < nn4 → D_X1_findUndividedRow_4 r q f p0 nn4 y2_4 = o_x → Bd κ A s (cw κ a r q f) H locs → ∀ ls : Array Slot, lv_has ls 4 [(2, .int y2_4), (0, .ref (a 3)), (1, .int p0)] → W p l e (Rm 1 23 0 0) s m args below meth c H locs 0 0 Q (F0 m 4 ls []) := by
    intro nn4
    induction nn4 with
    | zero => intro y2_4 H locs hμ; exact absurd hμ (Nat.not_lt_zero _)
    | succ nn4 ih4 =>
      intro y2_4 H locs hμ4 hR hB ls hl
      replace hR := (D_X1_findUndividedRow_4_s).symm.trans hR
      refine lv_iload_n hx hb dX1_findUndividedRow_4 rfl (lv_at hl 0 rfl) ?_
      refine lv_aload_n hx hb dX1_findUndividedRow_5 rfl (lv_at hl 1 rfl) ?_
      refine gf hX hB cw3 rfl in1 0 (by decide) wm_1_95 rfl rfl dX1_findUndividedRow_6 ?_
      refine gfN hX hB (cwG (i := 8) (by decide)) rfl in3 1 (by decide) wn_1_49 rfl rfl dX1_findUndividedRow_9 ?_
      refine lv_icmp_ge (tgt := 68) hx hb dX1_findUndividedRow_12 (by decide) (fun c51 => ?_) (fun c51 => ?_)
      · replace hR := ifp c51 hR
        refine lv_iconst (v := (-1)) hx hb dX1_findUndividedRow_68 (by decide) ?_
        rw [← hQ]
        exact end_i hX hB hA3 rfl rfl (by obtain rfl := hR; exact ⟨rfl, rfl⟩) (Nat.le_of_ble_eq_true rfl) (Nat.le_of_ble_eq_true rfl) dX1_findUndividedRow_69
      · replace hR := ifn c51 hR
        refine lv_iload_n hx hb dX1_findUndividedRow_15 rfl (lv_at hl 2 rfl) ?_
        refine lv_iconst (v := 1) hx hb dX1_findUndividedRow_16 (by decide) ?_
        refine lv_iadd hx hb dX1_findUndividedRow_17 ?_
        refine lv_istore_n (lv' := [(3, .int (p0 + 1)), (2, .int y2_4), (0, .ref (a 3)), (1, .int p0)]) hx hb dX1_findUndividedRow_18 rfl hl (by decide) rfl (fun ls hl => ?_)
        have lp19 : ∀ (nn19 : Nat) (y3_19 : Int32) (H : Heap) (locs : List Loc), gap (r (2 * 8 + 1)) y3_19 < nn19 → D_X1_findUndividedRow_19 r q f p0 (D_X1_findUndividedRow_4 r q f p0 nn4) y2_4 nn19 y3_19 = o_x → Bd κ A s (cw κ a r q f) H locs → ∀ ls : Array Slot, lv_has ls 4 [(3, .int y3_19), (2, .int y2_4), (0, .ref (a 3)), (1, .int p0)] → W p l e (Rm 1 23 0 0) s m args below meth c H locs 0 0 Q (F0 m 19 ls []) := by
          intro nn19
          induction nn19 with
          | zero => intro y3_19 H locs hμ; exact absurd hμ (Nat.not_lt_zero _)
          | succ nn19 ih19 =>
            intro y3_19 H locs hμ19 hR hB ls hl
            replace hR := (D_X1_findUndividedRow_19_s).symm.trans hR
            refine lv_iload_n hx hb dX1_findUndividedRow_19 rfl (lv_at hl 0 rfl) ?_
            refine lv_aload_n hx hb dX1_findUndividedRow_20 rfl (lv_at hl 2 rfl) ?_
            refine gf hX hB cw3 rfl in1 0 (by decide) wm_1_95 rfl rfl dX1_findUndividedRow_21 ?_
            refine gfN hX hB (cwG (i := 8) (by decide)) rfl in3 2 (by decide) wn_1_54 rfl rfl dX1_findUndividedRow_24 ?_
            refine lv_icmp_ge (tgt := 62) hx hb dX1_findUndividedRow_27 (by decide) (fun c68 => ?_) (fun c68 => ?_)
            · replace hR := ifp c68 hR
              refine lv_iinc (v := y2_4 + 1) (lv' := [(2, .int (y2_4 + 1)), (3, .int y3_19), (0, .ref (a 3)), (1, .int p0)]) hx hb dX1_findUndividedRow_62 hl (k := 1) rfl rfl (by decide) rfl (fun ls hl => ?_)
              refine lv_goto (tgt := 4) hx hb dX1_findUndividedRow_65 (by decide) ?_
              exact ih4 (y2_4 + 1) _ _  (gap_step c51 hμ4) hR hB _ (lv_sub hl [0, 2, 3] rfl)
            · replace hR := ifn c68 hR
              refine lv_aload_n hx hb dX1_findUndividedRow_30 rfl (lv_at hl 2 rfl) ?_
              refine gf hX hB cw3 rfl in1 0 (by decide) wm_1_95 rfl rfl dX1_findUndividedRow_31 ?_
              refine lv_iload_n hx hb dX1_findUndividedRow_34 rfl (lv_at hl 3 rfl) ?_
              refine lv_iload_n hx hb dX1_findUndividedRow_35 rfl (lv_at hl 3 rfl) ?_
              obtain ⟨x70, hd69⟩ := ex1 (D_X3_get r q f 8 p0 p0)
              replace hR := bnd1_use hd69 hR
              refine call_V (n := 2) (As := [.int p0, .int p0]) (rest := []) hX hB (k_X3_get κ l a r q f 8 p0 p0 (by decide) x70 hd69) ⟨rfl, yk_X3_get⟩ wm_2_87 wm_1_187 wm_1_188 wm_1_2 wm_1_189 ⟨Nat.le_of_ble_eq_true rfl, Nat.le_of_ble_eq_true rfl⟩ ⟨Nat.le_of_ble_eq_true rfl, Nat.le_of_ble_eq_true rfl⟩ (cwG (i := 8) (by decide)) rfl rfl rfl hl.1 rfl (Nat.le_of_ble_eq_true rfl) dX1_findUndividedRow_36 (fun o w' H locs hp hB => ?_)
              obtain ⟨rfl, rfl⟩ := hp
              refine W.eq (g2 := F0 m 39 ls [.long x70]) rfl ?_
              refine lv_aload_n hx hb dX1_findUndividedRow_39 rfl (lv_at hl 2 rfl) ?_
              refine gf hX hB cw3 rfl in1 0 (by decide) wm_1_95 rfl rfl dX1_findUndividedRow_40 ?_
              refine lv_iload_n hx hb dX1_findUndividedRow_43 rfl (lv_at hl 1 rfl) ?_
              refine lv_iload_n hx hb dX1_findUndividedRow_44 rfl (lv_at hl 0 rfl) ?_
              obtain ⟨x72, hd71⟩ := ex1 (D_X3_get r q f 8 y2_4 y3_19)
              replace hR := bnd1_use hd71 hR
              refine call_V (n := 2) (As := [.int y2_4, .int y3_19]) (rest := [.long x70]) hX hB (k_X3_get κ l a r q f 8 y2_4 y3_19 (by decide) x72 hd71) ⟨rfl, yk_X3_get⟩ wm_2_87 wm_1_187 wm_1_188 wm_1_2 wm_1_189 ⟨Nat.le_of_ble_eq_true rfl, Nat.le_of_ble_eq_true rfl⟩ ⟨Nat.le_of_ble_eq_true rfl, Nat.le_of_ble_eq_true rfl⟩ (cwG (i := 8) (by decide)) rfl rfl rfl hl.1 rfl (Nat.le_of_ble_eq_true rfl) dX1_findUndividedRow_45 (fun o w' H locs hp hB => ?_)
              obtain ⟨rfl, rfl⟩ := hp
              refine W.eq (g2 := F0 m 48 ls [.long x72, .long x70]) rfl ?_
              obtain ⟨x73, hd74⟩ := ex1 (D_X5_divides x70 x72)
              replace hR := bnd1_use hd74 hR
              refine call_SN (n := 2) (As := [.long x70, .long x72]) (rest := []) hX hB (k_X5_divides κ l (cw κ a r q f) x70 x72  x73 hd74) yk_X5_divides wn_2_115 wm_2_116 wm_1_1 wm_2_117 ⟨Nat.le_of_ble_eq_true rfl, Nat.le_of_ble_eq_true rfl⟩ ⟨Nat.le_of_ble_eq_true rfl, Nat.le_of_ble_eq_true rfl⟩ rfl hl.1 rfl (Nat.le_of_ble_eq_true rfl) dX1_findUndividedRow_48 (fun o w' H locs hp hB => ?_)
              obtain ⟨rfl, bx73, hw9⟩ := hp
              rw [hw9] at hB
              refine W.eq (g2 := F0 m 51 ls [.int x73]) rfl ?_
              refine lv_if_ne (tgt := 56) hx hb dX1_findUndividedRow_51 (by decide) (fun c75 => ?_) (fun c75 => ?_)
              · replace hR := ifn c75 hR
                refine lv_iinc (v := y3_19 + 1) (lv' := [(3, .int (y3_19 + 1)), (2, .int y2_4), (0, .ref (a 3)), (1, .int p0)]) hx hb dX1_findUndividedRow_56 hl (k := 0) rfl rfl (by decide) rfl (fun ls hl => ?_)
                refine lv_goto (tgt := 19) hx hb dX1_findUndividedRow_59 (by decide) ?_
                exact ih19 (y3_19 + 1) _ _  (gap_step c68 hμ19) hR hB _ hl
              · replace hR := ifp c75 hR
                refine lv_iload_n hx hb dX1_findUndividedRow_54 rfl (lv_at hl 1 rfl) ?_
                rw [← hQ]
                exact end_i hX hB hA3 rfl rfl (by obtain rfl := hR; exact ⟨rfl, rfl⟩) (Nat.le_of_ble_eq_true rfl) (Nat.le_of_ble_eq_true rfl) dX1_findUndividedRow_55
        exact lp19 _ (p0 + 1) _ _  (Nat.lt_succ_self _) hR hB _ hl
  exact lp4 _ (p0 + 1) _ _  (Nat.lt_succ_self _) hR hB _ hl
noncomputable def D_X1_clearCross_j158 (r : Nat → Int32) (p0 : Int32) (lb2 : Int32 → (Nat → Int32) → (Nat → Nat → Int64) → Int32 × (Nat → Int32) × (Nat → Nat → Int64)) (y2_2 : Int32) (q_103 : Nat → Int32) (f_103 : Nat → Nat → Int64) : Int32 × (Nat → Int32) × (Nat → Nat → Int64) := (if (q_103 1) = 0 then bnd1 (D_X1_isCrossClear r q_103 f_103 p0) (fun (x1883 : Int32) => (if x1883 = 0 then (lb2 (y2_2 + 1) q_103 f_103) else bnd1 (D_X1_findUndividedRow r q_103 f_103 p0) (fun (x1886 : Int32) => (if 0 ≤ x1886 then bnd2 (D_X1_addRow r q_103 f_103 p0 x1886 1) (fun (q1889 : Nat → Int32) (f1891 : Nat → Nat → Int64) => (lb2 (y2_2 + 1) q1889 f1891)) else (1, q_103, f_103))))) else (lb2 (y2_2 + 1) q_103 f_103))
theorem D_X1_clearCross_j158_s {r : Nat → Int32} {p0 : Int32} {lb2 : Int32 → (Nat → Int32) → (Nat → Nat → Int64) → Int32 × (Nat → Int32) × (Nat → Nat → Int64)} {y2_2 : Int32} {q_103 : Nat → Int32} {f_103 : Nat → Nat → Int64} : D_X1_clearCross_j158 r p0 lb2 y2_2 q_103 f_103 = (if (q_103 1) = 0 then bnd1 (D_X1_isCrossClear r q_103 f_103 p0) (fun (x1883 : Int32) => (if x1883 = 0 then (lb2 (y2_2 + 1) q_103 f_103) else bnd1 (D_X1_findUndividedRow r q_103 f_103 p0) (fun (x1886 : Int32) => (if 0 ≤ x1886 then bnd2 (D_X1_addRow r q_103 f_103 p0 x1886 1) (fun (q1889 : Nat → Int32) (f1891 : Nat → Nat → Int64) => (lb2 (y2_2 + 1) q1889 f1891)) else (1, q_103, f_103))))) else (lb2 (y2_2 + 1) q_103 f_103)) := rfl
noncomputable def D_X1_clearCross_103 (r : Nat → Int32) (p0 : Int32) (lb2 : Int32 → (Nat → Int32) → (Nat → Nat → Int64) → Int32 × (Nat → Int32) × (Nat → Nat → Int64)) (y2_2 : Int32) (nn : Nat) : Int32 → (Nat → Int32) → (Nat → Nat → Int64) → Int32 × (Nat → Int32) × (Nat → Nat → Int64) := @Nat.rec (fun _ => Int32 → (Nat → Int32) → (Nat → Nat → Int64) → Int32 × (Nat → Int32) × (Nat → Nat → Int64)) (fun _ _ _ => default) (fun _ lb103 (y4_103 : Int32) (q_103 : Nat → Int32) (f_103 : Nat → Nat → Int64) => (if (r (2 * 8 + 1)) ≤ y4_103 then (D_X1_clearCross_j158 r p0 lb2 y2_2 q_103 f_103) else (if (q_103 1) = 0 then bnd1 (D_X3_get r q_103 f_103 8 p0 y4_103) (fun (x1895 : Int64) => bnd1 (D_X3_get r q_103 f_103 8 p0 p0) (fun (x1897 : Int64) => bnd1 (D_X5_divideDown x1895 x1897) (fun (x1898 : Int64) => bnd2 (D_X1_addColumn r q_103 f_103 y4_103 p0 (-x1898)) (fun (q1901 : Nat → Int32) (f1903 : Nat → Nat → Int64) => (lb103 (y4_103 + 1) q1901 f1903))))) else (D_X1_clearCross_j158 r p0 lb2 y2_2 q_103 f_103)))) nn
theorem D_X1_clearCross_103_s {r : Nat → Int32} {p0 : Int32} {lb2 : Int32 → (Nat → Int32) → (Nat → Nat → Int64) → Int32 × (Nat → Int32) × (Nat → Nat → Int64)} {y2_2 : Int32} {nn : Nat} {y4_103 : Int32} {q_103 : Nat → Int32} {f_103 : Nat → Nat → Int64} : D_X1_clearCross_103 r p0 lb2 y2_2 (nn + 1) y4_103 q_103 f_103 = (if (r (2 * 8 + 1)) ≤ y4_103 then (D_X1_clearCross_j158 r p0 lb2 y2_2 q_103 f_103) else (if (q_103 1) = 0 then bnd1 (D_X3_get r q_103 f_103 8 p0 y4_103) (fun (x1895 : Int64) => bnd1 (D_X3_get r q_103 f_103 8 p0 p0) (fun (x1897 : Int64) => bnd1 (D_X5_divideDown x1895 x1897) (fun (x1898 : Int64) => bnd2 (D_X1_addColumn r q_103 f_103 y4_103 p0 (-x1898)) (fun (q1901 : Nat → Int32) (f1903 : Nat → Nat → Int64) => ((D_X1_clearCross_103 r p0 lb2 y2_2 nn) (y4_103 + 1) q1901 f1903))))) else (D_X1_clearCross_j158 r p0 lb2 y2_2 q_103 f_103))) := rfl
noncomputable def D_X1_clearCross_j158_1 (r : Nat → Int32) (p0 : Int32) (lb2 : Int32 → (Nat → Int32) → (Nat → Nat → Int64) → Int32 × (Nat → Int32) × (Nat → Nat → Int64)) (y2_2 : Int32) (q_103 : Nat → Int32) (f_103 : Nat → Nat → Int64) : Int32 × (Nat → Int32) × (Nat → Nat → Int64) := (if (q_103 1) = 0 then bnd1 (D_X1_isCrossClear r q_103 f_103 p0) (fun (x1989 : Int32) => (if x1989 = 0 then (lb2 (y2_2 + 1) q_103 f_103) else bnd1 (D_X1_findUndividedRow r q_103 f_103 p0) (fun (x1992 : Int32) => (if 0 ≤ x1992 then bnd2 (D_X1_addRow r q_103 f_103 p0 x1992 1) (fun (q1995 : Nat → Int32) (f1997 : Nat → Nat → Int64) => (lb2 (y2_2 + 1) q1995 f1997)) else (1, q_103, f_103))))) else (lb2 (y2_2 + 1) q_103 f_103))
theorem D_X1_clearCross_j158_1_s {r : Nat → Int32} {p0 : Int32} {lb2 : Int32 → (Nat → Int32) → (Nat → Nat → Int64) → Int32 × (Nat → Int32) × (Nat → Nat → Int64)} {y2_2 : Int32} {q_103 : Nat → Int32} {f_103 : Nat → Nat → Int64} : D_X1_clearCross_j158_1 r p0 lb2 y2_2 q_103 f_103 = (if (q_103 1) = 0 then bnd1 (D_X1_isCrossClear r q_103 f_103 p0) (fun (x1989 : Int32) => (if x1989 = 0 then (lb2 (y2_2 + 1) q_103 f_103) else bnd1 (D_X1_findUndividedRow r q_103 f_103 p0) (fun (x1992 : Int32) => (if 0 ≤ x1992 then bnd2 (D_X1_addRow r q_103 f_103 p0 x1992 1) (fun (q1995 : Nat → Int32) (f1997 : Nat → Nat → Int64) => (lb2 (y2_2 + 1) q1995 f1997)) else (1, q_103, f_103))))) else (lb2 (y2_2 + 1) q_103 f_103)) := rfl
noncomputable def D_X1_clearCross_103_1 (r : Nat → Int32) (p0 : Int32) (lb2 : Int32 → (Nat → Int32) → (Nat → Nat → Int64) → Int32 × (Nat → Int32) × (Nat → Nat → Int64)) (y2_2 : Int32) (nn : Nat) : Int32 → (Nat → Int32) → (Nat → Nat → Int64) → Int32 × (Nat → Int32) × (Nat → Nat → Int64) := @Nat.rec (fun _ => Int32 → (Nat → Int32) → (Nat → Nat → Int64) → Int32 × (Nat → Int32) × (Nat → Nat → Int64)) (fun _ _ _ => default) (fun _ lb103 (y4_103 : Int32) (q_103 : Nat → Int32) (f_103 : Nat → Nat → Int64) => (if (r (2 * 8 + 1)) ≤ y4_103 then (D_X1_clearCross_j158_1 r p0 lb2 y2_2 q_103 f_103) else (if (q_103 1) = 0 then bnd1 (D_X3_get r q_103 f_103 8 p0 y4_103) (fun (x2001 : Int64) => bnd1 (D_X3_get r q_103 f_103 8 p0 p0) (fun (x2003 : Int64) => bnd1 (D_X5_divideDown x2001 x2003) (fun (x2004 : Int64) => bnd2 (D_X1_addColumn r q_103 f_103 y4_103 p0 (-x2004)) (fun (q2007 : Nat → Int32) (f2009 : Nat → Nat → Int64) => (lb103 (y4_103 + 1) q2007 f2009))))) else (D_X1_clearCross_j158_1 r p0 lb2 y2_2 q_103 f_103)))) nn
theorem D_X1_clearCross_103_1_s {r : Nat → Int32} {p0 : Int32} {lb2 : Int32 → (Nat → Int32) → (Nat → Nat → Int64) → Int32 × (Nat → Int32) × (Nat → Nat → Int64)} {y2_2 : Int32} {nn : Nat} {y4_103 : Int32} {q_103 : Nat → Int32} {f_103 : Nat → Nat → Int64} : D_X1_clearCross_103_1 r p0 lb2 y2_2 (nn + 1) y4_103 q_103 f_103 = (if (r (2 * 8 + 1)) ≤ y4_103 then (D_X1_clearCross_j158_1 r p0 lb2 y2_2 q_103 f_103) else (if (q_103 1) = 0 then bnd1 (D_X3_get r q_103 f_103 8 p0 y4_103) (fun (x2001 : Int64) => bnd1 (D_X3_get r q_103 f_103 8 p0 p0) (fun (x2003 : Int64) => bnd1 (D_X5_divideDown x2001 x2003) (fun (x2004 : Int64) => bnd2 (D_X1_addColumn r q_103 f_103 y4_103 p0 (-x2004)) (fun (q2007 : Nat → Int32) (f2009 : Nat → Nat → Int64) => ((D_X1_clearCross_103_1 r p0 lb2 y2_2 nn) (y4_103 + 1) q2007 f2009))))) else (D_X1_clearCross_j158_1 r p0 lb2 y2_2 q_103 f_103))) := rfl
noncomputable def D_X1_clearCross_43 (r : Nat → Int32) (p0 : Int32) (lb2 : Int32 → (Nat → Int32) → (Nat → Nat → Int64) → Int32 × (Nat → Int32) × (Nat → Nat → Int64)) (y2_2 : Int32) (nn : Nat) : Int32 → (Nat → Int32) → (Nat → Nat → Int64) → Int32 × (Nat → Int32) × (Nat → Nat → Int64) := @Nat.rec (fun _ => Int32 → (Nat → Int32) → (Nat → Nat → Int64) → Int32 × (Nat → Int32) × (Nat → Nat → Int64)) (fun _ _ _ => default) (fun _ lb43 (y4_43 : Int32) (q_43 : Nat → Int32) (f_43 : Nat → Nat → Int64) => (if (r (2 * 8)) ≤ y4_43 then (D_X1_clearCross_103 r p0 lb2 y2_2 (gap (r (2 * 8 + 1)) (p0 + 1) + 1) (p0 + 1) q_43 f_43) else (if (q_43 1) = 0 then bnd1 (D_X3_get r q_43 f_43 8 y4_43 p0) (fun (x2011 : Int64) => bnd1 (D_X3_get r q_43 f_43 8 p0 p0) (fun (x2013 : Int64) => bnd1 (D_X5_divideDown x2011 x2013) (fun (x2014 : Int64) => bnd2 (D_X1_addRow r q_43 f_43 y4_43 p0 (-x2014)) (fun (q2017 : Nat → Int32) (f2019 : Nat → Nat → Int64) => (lb43 (y4_43 + 1) q2017 f2019))))) else (D_X1_clearCross_103_1 r p0 lb2 y2_2 (gap (r (2 * 8 + 1)) (p0 + 1) + 1) (p0 + 1) q_43 f_43)))) nn
theorem D_X1_clearCross_43_s {r : Nat → Int32} {p0 : Int32} {lb2 : Int32 → (Nat → Int32) → (Nat → Nat → Int64) → Int32 × (Nat → Int32) × (Nat → Nat → Int64)} {y2_2 : Int32} {nn : Nat} {y4_43 : Int32} {q_43 : Nat → Int32} {f_43 : Nat → Nat → Int64} : D_X1_clearCross_43 r p0 lb2 y2_2 (nn + 1) y4_43 q_43 f_43 = (if (r (2 * 8)) ≤ y4_43 then (D_X1_clearCross_103 r p0 lb2 y2_2 (gap (r (2 * 8 + 1)) (p0 + 1) + 1) (p0 + 1) q_43 f_43) else (if (q_43 1) = 0 then bnd1 (D_X3_get r q_43 f_43 8 y4_43 p0) (fun (x2011 : Int64) => bnd1 (D_X3_get r q_43 f_43 8 p0 p0) (fun (x2013 : Int64) => bnd1 (D_X5_divideDown x2011 x2013) (fun (x2014 : Int64) => bnd2 (D_X1_addRow r q_43 f_43 y4_43 p0 (-x2014)) (fun (q2017 : Nat → Int32) (f2019 : Nat → Nat → Int64) => ((D_X1_clearCross_43 r p0 lb2 y2_2 nn) (y4_43 + 1) q2017 f2019))))) else (D_X1_clearCross_103_1 r p0 lb2 y2_2 (gap (r (2 * 8 + 1)) (p0 + 1) + 1) (p0 + 1) q_43 f_43))) := rfl
noncomputable def D_X1_clearCross_2 (r : Nat → Int32) (p0 : Int32) (nn : Nat) : Int32 → (Nat → Int32) → (Nat → Nat → Int64) → Int32 × (Nat → Int32) × (Nat → Nat → Int64) := @Nat.rec (fun _ => Int32 → (Nat → Int32) → (Nat → Nat → Int64) → Int32 × (Nat → Int32) × (Nat → Nat → Int64)) (fun _ _ _ => default) (fun _ lb2 (y2_2 : Int32) (q_2 : Nat → Int32) (f_2 : Nat → Nat → Int64) => (if 1000000 ≤ y2_2 then (0, q_2, f_2) else (if (q_2 1) = 0 then bnd1 (D_X1_findLeastPlace r q_2 f_2 p0) (fun (x1350 : Int32) => (if 0 ≤ x1350 then bnd1 (D_X1_bring r q_2 f_2 (x1350 / 5) (x1350 - x1350 / 5 * 5) p0) (fun (f1353 : Nat → Nat → Int64) => (D_X1_clearCross_43 r p0 lb2 y2_2 (gap (r (2 * 8)) (p0 + 1) + 1) (p0 + 1) q_2 f1353)) else (0, q_2, f_2))) else (0, q_2, f_2)))) nn
theorem D_X1_clearCross_2_s {r : Nat → Int32} {p0 : Int32} {nn : Nat} {y2_2 : Int32} {q_2 : Nat → Int32} {f_2 : Nat → Nat → Int64} : D_X1_clearCross_2 r p0 (nn + 1) y2_2 q_2 f_2 = (if 1000000 ≤ y2_2 then (0, q_2, f_2) else (if (q_2 1) = 0 then bnd1 (D_X1_findLeastPlace r q_2 f_2 p0) (fun (x1350 : Int32) => (if 0 ≤ x1350 then bnd1 (D_X1_bring r q_2 f_2 (x1350 / 5) (x1350 - x1350 / 5 * 5) p0) (fun (f1353 : Nat → Nat → Int64) => (D_X1_clearCross_43 r p0 (D_X1_clearCross_2 r p0 nn) y2_2 (gap (r (2 * 8)) (p0 + 1) + 1) (p0 + 1) q_2 f1353)) else (0, q_2, f_2))) else (0, q_2, f_2))) := rfl
noncomputable def D_X1_clearCross (r : Nat → Int32) (q : Nat → Int32) (f : Nat → Nat → Int64) (p0 : Int32) : Int32 × (Nat → Int32) × (Nat → Nat → Int64) := (D_X1_clearCross_2 r p0 (gap 1000000 0 + 1) 0 q f)
theorem D_X1_clearCross_s {r : Nat → Int32} {q : Nat → Int32} {f : Nat → Nat → Int64} {p0 : Int32} : D_X1_clearCross r q f p0 = (D_X1_clearCross_2 r p0 (gap 1000000 0 + 1) 0 q f) := rfl
set_option maxHeartbeats 4000000 in
set_option maxRecDepth 100000 in
theorem k_X1_clearCross (κ : Kt) (l : Launch) (a : Nat → Nat) (r q : Nat → Int32) (f : Nat → Nat → Int64) (p0 : Int32)  (o_x : Int32) (o_q : Nat → Int32) (o_f : Nat → Nat → Int64) (hR : D_X1_clearCross r q f p0 = (o_x, o_q, o_f)) : CM κ l yX1_clearCross cX1_clearCross 5 (some .boolean) 3 75 0 0 [.ref (a 3), .int p0] (cw κ a r q f) (fun o w' => o = some (.int o_x) ∧ (o_x = 0 ∨ o_x = 1) ∧ o_q 4 = q 4 ∧ w' = cw κ a r o_q o_f) := by
  refine CM_begin (plainFor_of_name pn_RX1) (Nat.le_of_ble_eq_true rfl) ?_
  intro p e s m args below meth c A Q hX hnm hA3 hQ hB ls hl
  have hx := hX.1.1
  have hb := hX.1.2.1
  have hl : lv_has ls 5 [(0, .ref (a 3)), (1, .int p0)] := hl
  replace hR := (D_X1_clearCross_s).symm.trans hR
  refine lv_iconst (v := 0) hx hb dX1_clearCross_0 (by decide) ?_
  refine lv_istore_n (lv' := [(2, .int 0), (0, .ref (a 3)), (1, .int p0)]) hx hb dX1_clearCross_1 rfl hl (by decide) rfl (fun ls hl => ?_)
  have lp2 : ∀ (nn2 : Nat) (y2_2 : Int32) (q_2 : Nat → Int32) (f_2 : Nat → Nat → Int64) (H : Heap) (locs : List Loc), q_2 4 = q 4 → gap 1000000 y2_2 < nn2 → D_X1_clearCross_2 r p0 nn2 y2_2 q_2 f_2 = (o_x, o_q, o_f) → Bd κ A s (cw κ a r q_2 f_2) H locs → ∀ ls : Array Slot, lv_has ls 5 [(2, .int y2_2), (0, .ref (a 3)), (1, .int p0)] → W p l e (Rm 3 75 0 0) s m args below meth c H locs 0 0 Q (F0 m 2 ls []) := by
    intro nn2
    induction nn2 with
    | zero => intro y2_2 q_2 f_2 H locs hwq_2 hμ; exact absurd hμ (Nat.not_lt_zero _)
    | succ nn2 ih2 =>
      intro y2_2 q_2 f_2 H locs hwq_2 hμ2 hR hB ls hl
      replace hR := (D_X1_clearCross_2_s).symm.trans hR
      refine lv_iload_n hx hb dX1_clearCross_2 rfl (lv_at hl 0 rfl) ?_
      refine lv_ldc (own := RX1) (v := 1000000) hx hb hX.1.2.2.2.1 (hX.1.2.2.2.2 _ wm_2_82) dX1_clearCross_3 ?_
      refine lv_icmp_ge (tgt := 201) hx hb dX1_clearCross_5 (by decide) (fun c1347 => ?_) (fun c1347 => ?_)
      · replace hR := ifp c1347 hR
        refine lv_iconst (v := 0) hx hb dX1_clearCross_201 (by decide) ?_
        rw [← hQ]
        exact end_i hX hB hA3 rfl rfl (by obtain ⟨rfl, rfl, rfl⟩ := pr3 hR; exact ⟨rfl, Or.inl rfl, hwq_2, rfl⟩) (Nat.le_of_ble_eq_true rfl) (Nat.le_of_ble_eq_true rfl) dX1_clearCross_202
      · replace hR := ifn c1347 hR
        refine lv_aload_n hx hb dX1_clearCross_8 rfl (lv_at hl 1 rfl) ?_
        refine gf hX hB cw3 rfl in1 3 (by decide) wm_1_104 rfl rfl dX1_clearCross_9 ?_
        refine lv_if_ne (tgt := 201) hx hb dX1_clearCross_12 (by decide) (fun c1348 => ?_) (fun c1348 => ?_)
        · replace hR := ifn c1348 hR
          refine lv_iconst (v := 0) hx hb dX1_clearCross_201 (by decide) ?_
          rw [← hQ]
          exact end_i hX hB hA3 rfl rfl (by obtain ⟨rfl, rfl, rfl⟩ := pr3 hR; exact ⟨rfl, Or.inl rfl, hwq_2, rfl⟩) (Nat.le_of_ble_eq_true rfl) (Nat.le_of_ble_eq_true rfl) dX1_clearCross_202
        · replace hR := ifp c1348 hR
          refine lv_aload_n hx hb dX1_clearCross_15 rfl (lv_at hl 1 rfl) ?_
          refine lv_iload_n hx hb dX1_clearCross_16 rfl (lv_at hl 2 rfl) ?_
          obtain ⟨x1350, hd1349⟩ := ex1 (D_X1_findLeastPlace r q_2 f_2 p0)
          replace hR := bnd1_use hd1349 hR
          refine call_V (n := 1) (As := [.int p0]) (rest := []) hX hB (k_X1_findLeastPlace κ l a r q_2 f_2 p0 x1350 hd1349) ⟨rfl, yk_X1_findLeastPlace⟩ wm_2_83 wm_2_85 wp_8 wm_1_4 wm_2_86 ⟨Nat.le_of_ble_eq_true rfl, Nat.le_of_ble_eq_true rfl⟩ ⟨Nat.le_of_ble_eq_true rfl, Nat.le_of_ble_eq_true rfl⟩ cw3 rfl rfl rfl hl.1 rfl (Nat.le_of_ble_eq_true rfl) dX1_clearCross_17 (fun o w' H locs hp hB => ?_)
          obtain ⟨rfl, rfl⟩ := hp
          refine W.eq (g2 := F0 m 20 ls [.int x1350]) rfl ?_
          refine lv_istore_n (lv' := [(3, .int x1350), (2, .int y2_2), (0, .ref (a 3)), (1, .int p0)]) hx hb dX1_clearCross_20 rfl hl (by decide) rfl (fun ls hl => ?_)
          refine lv_iload_n hx hb dX1_clearCross_21 rfl (lv_at hl 0 rfl) ?_
          refine lv_if_ge (tgt := 27) hx hb dX1_clearCross_22 (by decide) (fun c1351 => ?_) (fun c1351 => ?_)
          · replace hR := ifp c1351 hR
            refine lv_aload_n hx hb dX1_clearCross_27 rfl (lv_at hl 2 rfl) ?_
            refine lv_iload_n hx hb dX1_clearCross_28 rfl (lv_at hl 0 rfl) ?_
            refine lv_iconst (v := 5) hx hb dX1_clearCross_29 (by decide) ?_
            refine lv_idiv hx hb dX1_clearCross_30 (by decide) ?_
            refine lv_iload_n hx hb dX1_clearCross_31 rfl (lv_at hl 0 rfl) ?_
            refine lv_iconst (v := 5) hx hb dX1_clearCross_32 (by decide) ?_
            refine lv_irem hx hb dX1_clearCross_33 (by decide) ?_
            refine lv_iload_n hx hb dX1_clearCross_34 rfl (lv_at hl 3 rfl) ?_
            obtain ⟨f1353, hd1352⟩ := ex1 (D_X1_bring r q_2 f_2 (x1350 / 5) (x1350 - x1350 / 5 * 5) p0)
            replace hR := bnd1_use hd1352 hR
            refine call_V (n := 3) (As := [.int (x1350 / 5), .int (x1350 - x1350 / 5 * 5), .int p0]) (rest := []) hX hB (k_X1_bring κ l a r q_2 f_2 (x1350 / 5) (x1350 - x1350 / 5 * 5) p0 f1353 hd1352) ⟨rfl, yk_X1_bring⟩ wm_2_89 wm_2_91 wp_9 wm_1_4 wm_2_92 ⟨Nat.le_of_ble_eq_true rfl, Nat.le_of_ble_eq_true rfl⟩ ⟨Nat.le_of_ble_eq_true rfl, Nat.le_of_ble_eq_true rfl⟩ cw3 rfl rfl rfl hl.1 rfl (Nat.le_of_ble_eq_true rfl) dX1_clearCross_35 (fun o w' H locs hp hB => ?_)
            obtain ⟨rfl, rfl⟩ := hp
            refine W.eq (g2 := F0 m 38 ls []) rfl ?_
            refine lv_iload_n hx hb dX1_clearCross_38 rfl (lv_at hl 3 rfl) ?_
            refine lv_iconst (v := 1) hx hb dX1_clearCross_39 (by decide) ?_
            refine lv_iadd hx hb dX1_clearCross_40 ?_
            refine lv_istore (lv' := [(4, .int (p0 + 1)), (3, .int x1350), (2, .int y2_2), (0, .ref (a 3)), (1, .int p0)]) hx hb dX1_clearCross_41 hl (by decide) rfl (fun ls hl => ?_)
            have lp43 : ∀ (nn43 : Nat) (y4_43 : Int32) (q_43 : Nat → Int32) (f_43 : Nat → Nat → Int64) (H : Heap) (locs : List Loc), q_43 4 = q 4 → gap (r (2 * 8)) y4_43 < nn43 → D_X1_clearCross_43 r p0 (D_X1_clearCross_2 r p0 nn2) y2_2 nn43 y4_43 q_43 f_43 = (o_x, o_q, o_f) → Bd κ A s (cw κ a r q_43 f_43) H locs → ∀ ls : Array Slot, lv_has ls 5 [(4, .int y4_43), (3, .int x1350), (2, .int y2_2), (0, .ref (a 3)), (1, .int p0)] → W p l e (Rm 3 75 0 0) s m args below meth c H locs 0 0 Q (F0 m 43 ls []) := by
              intro nn43
              induction nn43 with
              | zero => intro y4_43 q_43 f_43 H locs hwq_43 hμ; exact absurd hμ (Nat.not_lt_zero _)
              | succ nn43 ih43 =>
                intro y4_43 q_43 f_43 H locs hwq_43 hμ43 hR hB ls hl
                replace hR := (D_X1_clearCross_43_s).symm.trans hR
                refine lv_iload hx hb dX1_clearCross_43 (lv_at hl 0 rfl) ?_
                refine lv_aload_n hx hb dX1_clearCross_45 rfl (lv_at hl 3 rfl) ?_
                refine gf hX hB cw3 rfl in1 0 (by decide) wm_1_95 rfl rfl dX1_clearCross_46 ?_
                refine gfN hX hB (cwG (i := 8) (by decide)) rfl in3 1 (by decide) wn_1_49 rfl rfl dX1_clearCross_49 ?_
                refine lv_icmp_ge (tgt := 98) hx hb dX1_clearCross_52 (by decide) (fun c1798 => ?_) (fun c1798 => ?_)
                · replace hR := ifp c1798 hR
                  refine lv_iload_n hx hb dX1_clearCross_98 rfl (lv_at hl 4 rfl) ?_
                  refine lv_iconst (v := 1) hx hb dX1_clearCross_99 (by decide) ?_
                  refine lv_iadd hx hb dX1_clearCross_100 ?_
                  refine lv_istore (lv' := [(4, .int (p0 + 1)), (3, .int x1350), (2, .int y2_2), (0, .ref (a 3)), (1, .int p0)]) hx hb dX1_clearCross_101 hl (by decide) rfl (fun ls hl => ?_)
                  have lp103 : ∀ (nn103 : Nat) (y4_103 : Int32) (q_103 : Nat → Int32) (f_103 : Nat → Nat → Int64) (H : Heap) (locs : List Loc), q_103 4 = q 4 → gap (r (2 * 8 + 1)) y4_103 < nn103 → D_X1_clearCross_103 r p0 (D_X1_clearCross_2 r p0 nn2) y2_2 nn103 y4_103 q_103 f_103 = (o_x, o_q, o_f) → Bd κ A s (cw κ a r q_103 f_103) H locs → ∀ ls : Array Slot, lv_has ls 5 [(4, .int y4_103), (3, .int x1350), (2, .int y2_2), (0, .ref (a 3)), (1, .int p0)] → W p l e (Rm 3 75 0 0) s m args below meth c H locs 0 0 Q (F0 m 103 ls []) := by
                    intro nn103
                    induction nn103 with
                    | zero => intro y4_103 q_103 f_103 H locs hwq_103 hμ; exact absurd hμ (Nat.not_lt_zero _)
                    | succ nn103 ih103 =>
                      intro y4_103 q_103 f_103 H locs hwq_103 hμ103 hR hB ls hl
                      replace hR := (D_X1_clearCross_103_s).symm.trans hR
                      refine lv_iload hx hb dX1_clearCross_103 (lv_at hl 0 rfl) ?_
                      refine lv_aload_n hx hb dX1_clearCross_105 rfl (lv_at hl 3 rfl) ?_
                      refine gf hX hB cw3 rfl in1 0 (by decide) wm_1_95 rfl rfl dX1_clearCross_106 ?_
                      refine gfN hX hB (cwG (i := 8) (by decide)) rfl in3 2 (by decide) wn_1_54 rfl rfl dX1_clearCross_109 ?_
                      have jn158 : ∀ (H : Heap) (locs : List Loc), D_X1_clearCross_j158 r p0 (D_X1_clearCross_2 r p0 nn2) y2_2 q_103 f_103 = (o_x, o_q, o_f) → Bd κ A s (cw κ a r q_103 f_103) H locs → ∀ ls : Array Slot, lv_has ls 5 [(4, .int y4_103), (3, .int x1350), (2, .int y2_2), (0, .ref (a 3)), (1, .int p0)] → W p l e (Rm 3 75 0 0) s m args below meth c H locs 0 0 Q (F0 m 158 ls []) := by
                        intro H locs hR hB ls hl
                        replace hR := (D_X1_clearCross_j158_s).symm.trans hR
                        refine lv_aload_n hx hb dX1_clearCross_158 rfl (lv_at hl 3 rfl) ?_
                        refine gf hX hB cw3 rfl in1 3 (by decide) wm_1_104 rfl rfl dX1_clearCross_159 ?_
                        refine lv_if_ne (tgt := 195) hx hb dX1_clearCross_162 (by decide) (fun c1881 => ?_) (fun c1881 => ?_)
                        · replace hR := ifn c1881 hR
                          refine lv_iinc (v := y2_2 + 1) (lv' := [(2, .int (y2_2 + 1)), (4, .int y4_103), (3, .int x1350), (0, .ref (a 3)), (1, .int p0)]) hx hb dX1_clearCross_195 hl (k := 2) rfl rfl (by decide) rfl (fun ls hl => ?_)
                          refine lv_goto (tgt := 2) hx hb dX1_clearCross_198 (by decide) ?_
                          exact ih2 (y2_2 + 1) q_103 f_103 _ _ hwq_103 (gap_step c1347 hμ2) hR hB _ (lv_sub hl [0, 3, 4] rfl)
                        · replace hR := ifp c1881 hR
                          refine lv_aload_n hx hb dX1_clearCross_165 rfl (lv_at hl 3 rfl) ?_
                          refine lv_iload_n hx hb dX1_clearCross_166 rfl (lv_at hl 4 rfl) ?_
                          obtain ⟨x1883, hd1882⟩ := ex1 (D_X1_isCrossClear r q_103 f_103 p0)
                          replace hR := bnd1_use hd1882 hR
                          refine call_V (n := 1) (As := [.int p0]) (rest := []) hX hB (k_X1_isCrossClear κ l a r q_103 f_103 p0 x1883 hd1882) ⟨rfl, yk_X1_isCrossClear⟩ wm_2_107 wm_2_109 wp_12 wm_1_4 wm_2_110 ⟨Nat.le_of_ble_eq_true rfl, Nat.le_of_ble_eq_true rfl⟩ ⟨Nat.le_of_ble_eq_true rfl, Nat.le_of_ble_eq_true rfl⟩ cw3 rfl rfl rfl hl.1 rfl (Nat.le_of_ble_eq_true rfl) dX1_clearCross_167 (fun o w' H locs hp hB => ?_)
                          obtain ⟨rfl, bx1883, rfl⟩ := hp
                          refine W.eq (g2 := F0 m 170 ls [.int x1883]) rfl ?_
                          refine lv_if_eq (tgt := 195) hx hb dX1_clearCross_170 (by decide) (fun c1884 => ?_) (fun c1884 => ?_)
                          · replace hR := ifp c1884 hR
                            refine lv_iinc (v := y2_2 + 1) (lv' := [(2, .int (y2_2 + 1)), (4, .int y4_103), (3, .int x1350), (0, .ref (a 3)), (1, .int p0)]) hx hb dX1_clearCross_195 hl (k := 2) rfl rfl (by decide) rfl (fun ls hl => ?_)
                            refine lv_goto (tgt := 2) hx hb dX1_clearCross_198 (by decide) ?_
                            exact ih2 (y2_2 + 1) q_103 f_103 _ _ hwq_103 (gap_step c1347 hμ2) hR hB _ (lv_sub hl [0, 3, 4] rfl)
                          · replace hR := ifn c1884 hR
                            refine lv_aload_n hx hb dX1_clearCross_173 rfl (lv_at hl 3 rfl) ?_
                            refine lv_iload_n hx hb dX1_clearCross_174 rfl (lv_at hl 4 rfl) ?_
                            obtain ⟨x1886, hd1885⟩ := ex1 (D_X1_findUndividedRow r q_103 f_103 p0)
                            replace hR := bnd1_use hd1885 hR
                            refine call_V (n := 1) (As := [.int p0]) (rest := []) hX hB (k_X1_findUndividedRow κ l a r q_103 f_103 p0 x1886 hd1885) ⟨rfl, yk_X1_findUndividedRow⟩ wm_2_111 wm_2_113 wp_13 wm_1_4 wm_2_114 ⟨Nat.le_of_ble_eq_true rfl, Nat.le_of_ble_eq_true rfl⟩ ⟨Nat.le_of_ble_eq_true rfl, Nat.le_of_ble_eq_true rfl⟩ cw3 rfl rfl rfl hl.1 rfl (Nat.le_of_ble_eq_true rfl) dX1_clearCross_175 (fun o w' H locs hp hB => ?_)
                            obtain ⟨rfl, rfl⟩ := hp
                            refine W.eq (g2 := F0 m 178 ls [.int x1886]) rfl ?_
                            refine lv_istore (lv' := [(4, .int x1886), (3, .int x1350), (2, .int y2_2), (0, .ref (a 3)), (1, .int p0)]) hx hb dX1_clearCross_178 hl (by decide) rfl (fun ls hl => ?_)
                            refine lv_iload hx hb dX1_clearCross_180 (lv_at hl 0 rfl) ?_
                            refine lv_if_ge (tgt := 187) hx hb dX1_clearCross_182 (by decide) (fun c1887 => ?_) (fun c1887 => ?_)
                            · replace hR := ifp c1887 hR
                              refine lv_aload_n hx hb dX1_clearCross_187 rfl (lv_at hl 3 rfl) ?_
                              refine lv_iload_n hx hb dX1_clearCross_188 rfl (lv_at hl 4 rfl) ?_
                              refine lv_iload hx hb dX1_clearCross_189 (lv_at hl 0 rfl) ?_
                              refine lv_lconst (v := 1) hx hb dX1_clearCross_191 (by decide) ?_
                              obtain ⟨q1889, f1891, hd1888⟩ := ex2 (D_X1_addRow r q_103 f_103 p0 x1886 1)
                              replace hR := bnd2_use hd1888 hR
                              refine call_V (n := 3) (As := [.int p0, .int x1886, .long 1]) (rest := []) hX hB (k_X1_addRow κ l a r q_103 f_103 p0 x1886 1 q1889 f1891 hd1888) ⟨rfl, yk_X1_addRow⟩ wm_2_96 wm_2_98 wp_10 wm_1_4 wm_2_99 ⟨Nat.le_of_ble_eq_true rfl, Nat.le_of_ble_eq_true rfl⟩ ⟨Nat.le_of_ble_eq_true rfl, Nat.le_of_ble_eq_true rfl⟩ cw3 rfl rfl rfl hl.1 rfl (Nat.le_of_ble_eq_true rfl) dX1_clearCross_192 (fun o w' H locs hp hB => ?_)
                              obtain ⟨rfl, hq1890, rfl⟩ := hp
                              refine W.eq (g2 := F0 m 195 ls []) rfl ?_
                              refine lv_iinc (v := y2_2 + 1) (lv' := [(2, .int (y2_2 + 1)), (4, .int x1886), (3, .int x1350), (0, .ref (a 3)), (1, .int p0)]) hx hb dX1_clearCross_195 hl (k := 2) rfl rfl (by decide) rfl (fun ls hl => ?_)
                              refine lv_goto (tgt := 2) hx hb dX1_clearCross_198 (by decide) ?_
                              exact ih2 (y2_2 + 1) q1889 f1891 _ _ (hq1890.trans hwq_103) (gap_step c1347 hμ2) hR hB _ (lv_sub hl [0, 3, 4] rfl)
                            · replace hR := ifn c1887 hR
                              refine lv_iconst (v := 1) hx hb dX1_clearCross_185 (by decide) ?_
                              rw [← hQ]
                              exact end_i hX hB hA3 rfl rfl (by obtain ⟨rfl, rfl, rfl⟩ := pr3 hR; exact ⟨rfl, Or.inr rfl, hwq_103, rfl⟩) (Nat.le_of_ble_eq_true rfl) (Nat.le_of_ble_eq_true rfl) dX1_clearCross_186
                      refine lv_icmp_ge (tgt := 158) hx hb dX1_clearCross_112 (by decide) (fun c1892 => ?_) (fun c1892 => ?_)
                      · replace hR := ifp c1892 hR
                        exact jn158  _ _  hR hB _ hl
                      · replace hR := ifn c1892 hR
                        refine lv_aload_n hx hb dX1_clearCross_115 rfl (lv_at hl 3 rfl) ?_
                        refine gf hX hB cw3 rfl in1 3 (by decide) wm_1_104 rfl rfl dX1_clearCross_116 ?_
                        refine lv_if_ne (tgt := 158) hx hb dX1_clearCross_119 (by decide) (fun c1893 => ?_) (fun c1893 => ?_)
                        · replace hR := ifn c1893 hR
                          exact jn158  _ _  hR hB _ hl
                        · replace hR := ifp c1893 hR
                          refine lv_aload_n hx hb dX1_clearCross_122 rfl (lv_at hl 3 rfl) ?_
                          refine lv_iload hx hb dX1_clearCross_123 (lv_at hl 0 rfl) ?_
                          refine lv_iload_n hx hb dX1_clearCross_125 rfl (lv_at hl 4 rfl) ?_
                          refine lv_aload_n hx hb dX1_clearCross_126 rfl (lv_at hl 3 rfl) ?_
                          refine gf hX hB cw3 rfl in1 0 (by decide) wm_1_95 rfl rfl dX1_clearCross_127 ?_
                          refine lv_iload_n hx hb dX1_clearCross_130 rfl (lv_at hl 4 rfl) ?_
                          refine lv_iload hx hb dX1_clearCross_131 (lv_at hl 0 rfl) ?_
                          obtain ⟨x1895, hd1894⟩ := ex1 (D_X3_get r q_103 f_103 8 p0 y4_103)
                          replace hR := bnd1_use hd1894 hR
                          refine call_V (n := 2) (As := [.int p0, .int y4_103]) (rest := [.int p0, .int y4_103, .ref (a 3)]) hX hB (k_X3_get κ l a r q_103 f_103 8 p0 y4_103 (by decide) x1895 hd1894) ⟨rfl, yk_X3_get⟩ wm_2_87 wm_1_187 wm_1_188 wm_1_2 wm_1_189 ⟨Nat.le_of_ble_eq_true rfl, Nat.le_of_ble_eq_true rfl⟩ ⟨Nat.le_of_ble_eq_true rfl, Nat.le_of_ble_eq_true rfl⟩ (cwG (i := 8) (by decide)) rfl rfl rfl hl.1 rfl (Nat.le_of_ble_eq_true rfl) dX1_clearCross_133 (fun o w' H locs hp hB => ?_)
                          obtain ⟨rfl, rfl⟩ := hp
                          refine W.eq (g2 := F0 m 136 ls [.long x1895, .int p0, .int y4_103, .ref (a 3)]) rfl ?_
                          refine lv_aload_n hx hb dX1_clearCross_136 rfl (lv_at hl 3 rfl) ?_
                          refine gf hX hB cw3 rfl in1 0 (by decide) wm_1_95 rfl rfl dX1_clearCross_137 ?_
                          refine lv_iload_n hx hb dX1_clearCross_140 rfl (lv_at hl 4 rfl) ?_
                          refine lv_iload_n hx hb dX1_clearCross_141 rfl (lv_at hl 4 rfl) ?_
                          obtain ⟨x1897, hd1896⟩ := ex1 (D_X3_get r q_103 f_103 8 p0 p0)
                          replace hR := bnd1_use hd1896 hR
                          refine call_V (n := 2) (As := [.int p0, .int p0]) (rest := [.long x1895, .int p0, .int y4_103, .ref (a 3)]) hX hB (k_X3_get κ l a r q_103 f_103 8 p0 p0 (by decide) x1897 hd1896) ⟨rfl, yk_X3_get⟩ wm_2_87 wm_1_187 wm_1_188 wm_1_2 wm_1_189 ⟨Nat.le_of_ble_eq_true rfl, Nat.le_of_ble_eq_true rfl⟩ ⟨Nat.le_of_ble_eq_true rfl, Nat.le_of_ble_eq_true rfl⟩ (cwG (i := 8) (by decide)) rfl rfl rfl hl.1 rfl (Nat.le_of_ble_eq_true rfl) dX1_clearCross_142 (fun o w' H locs hp hB => ?_)
                          obtain ⟨rfl, rfl⟩ := hp
                          refine W.eq (g2 := F0 m 145 ls [.long x1897, .long x1895, .int p0, .int y4_103, .ref (a 3)]) rfl ?_
                          obtain ⟨x1898, hd1899⟩ := ex1 (D_X5_divideDown x1895 x1897)
                          replace hR := bnd1_use hd1899 hR
                          refine call_SN (n := 2) (As := [.long x1895, .long x1897]) (rest := [.int p0, .int y4_103, .ref (a 3)]) hX hB (k_X5_divideDown κ l (cw κ a r q_103 f_103) x1895 x1897  x1898 hd1899) yk_X5_divideDown wn_2_95 wm_2_17 wm_1_1 wm_2_18 ⟨Nat.le_of_ble_eq_true rfl, Nat.le_of_ble_eq_true rfl⟩ ⟨Nat.le_of_ble_eq_true rfl, Nat.le_of_ble_eq_true rfl⟩ rfl hl.1 rfl (Nat.le_of_ble_eq_true rfl) dX1_clearCross_145 (fun o w' H locs hp hB => ?_)
                          obtain ⟨rfl, hw9⟩ := hp
                          rw [hw9] at hB
                          refine W.eq (g2 := F0 m 148 ls [.long x1898, .int p0, .int y4_103, .ref (a 3)]) rfl ?_
                          refine lv_lneg hx hb dX1_clearCross_148 ?_
                          obtain ⟨q1901, f1903, hd1900⟩ := ex2 (D_X1_addColumn r q_103 f_103 y4_103 p0 (-x1898))
                          replace hR := bnd2_use hd1900 hR
                          refine call_V (n := 3) (As := [.int y4_103, .int p0, .long (-x1898)]) (rest := []) hX hB (k_X1_addColumn κ l a r q_103 f_103 y4_103 p0 (-x1898) q1901 f1903 hd1900) ⟨rfl, yk_X1_addColumn⟩ wm_2_103 wm_2_105 wp_11 wm_1_4 wm_2_106 ⟨Nat.le_of_ble_eq_true rfl, Nat.le_of_ble_eq_true rfl⟩ ⟨Nat.le_of_ble_eq_true rfl, Nat.le_of_ble_eq_true rfl⟩ cw3 rfl rfl rfl hl.1 rfl (Nat.le_of_ble_eq_true rfl) dX1_clearCross_149 (fun o w' H locs hp hB => ?_)
                          obtain ⟨rfl, hq1902, rfl⟩ := hp
                          refine W.eq (g2 := F0 m 152 ls []) rfl ?_
                          refine lv_iinc (v := y4_103 + 1) (lv' := [(4, .int (y4_103 + 1)), (3, .int x1350), (2, .int y2_2), (0, .ref (a 3)), (1, .int p0)]) hx hb dX1_clearCross_152 hl (k := 0) rfl rfl (by decide) rfl (fun ls hl => ?_)
                          refine lv_goto (tgt := 103) hx hb dX1_clearCross_155 (by decide) ?_
                          exact ih103 (y4_103 + 1) q1901 f1903 _ _ (hq1902.trans hwq_103) (gap_step c1892 hμ103) hR hB _ hl
                  exact lp103 _ (p0 + 1) q_43 f_43 _ _ hwq_43 (Nat.lt_succ_self _) hR hB _ hl
                · replace hR := ifn c1798 hR
                  refine lv_aload_n hx hb dX1_clearCross_55 rfl (lv_at hl 3 rfl) ?_
                  refine gf hX hB cw3 rfl in1 3 (by decide) wm_1_104 rfl rfl dX1_clearCross_56 ?_
                  refine lv_if_ne (tgt := 98) hx hb dX1_clearCross_59 (by decide) (fun c1904 => ?_) (fun c1904 => ?_)
                  · replace hR := ifn c1904 hR
                    refine lv_iload_n hx hb dX1_clearCross_98 rfl (lv_at hl 4 rfl) ?_
                    refine lv_iconst (v := 1) hx hb dX1_clearCross_99 (by decide) ?_
                    refine lv_iadd hx hb dX1_clearCross_100 ?_
                    refine lv_istore (lv' := [(4, .int (p0 + 1)), (3, .int x1350), (2, .int y2_2), (0, .ref (a 3)), (1, .int p0)]) hx hb dX1_clearCross_101 hl (by decide) rfl (fun ls hl => ?_)
                    have lp103 : ∀ (nn103 : Nat) (y4_103 : Int32) (q_103 : Nat → Int32) (f_103 : Nat → Nat → Int64) (H : Heap) (locs : List Loc), q_103 4 = q 4 → gap (r (2 * 8 + 1)) y4_103 < nn103 → D_X1_clearCross_103_1 r p0 (D_X1_clearCross_2 r p0 nn2) y2_2 nn103 y4_103 q_103 f_103 = (o_x, o_q, o_f) → Bd κ A s (cw κ a r q_103 f_103) H locs → ∀ ls : Array Slot, lv_has ls 5 [(4, .int y4_103), (3, .int x1350), (2, .int y2_2), (0, .ref (a 3)), (1, .int p0)] → W p l e (Rm 3 75 0 0) s m args below meth c H locs 0 0 Q (F0 m 103 ls []) := by
                      intro nn103
                      induction nn103 with
                      | zero => intro y4_103 q_103 f_103 H locs hwq_103 hμ; exact absurd hμ (Nat.not_lt_zero _)
                      | succ nn103 ih103 =>
                        intro y4_103 q_103 f_103 H locs hwq_103 hμ103 hR hB ls hl
                        replace hR := (D_X1_clearCross_103_1_s).symm.trans hR
                        refine lv_iload hx hb dX1_clearCross_103 (lv_at hl 0 rfl) ?_
                        refine lv_aload_n hx hb dX1_clearCross_105 rfl (lv_at hl 3 rfl) ?_
                        refine gf hX hB cw3 rfl in1 0 (by decide) wm_1_95 rfl rfl dX1_clearCross_106 ?_
                        refine gfN hX hB (cwG (i := 8) (by decide)) rfl in3 2 (by decide) wn_1_54 rfl rfl dX1_clearCross_109 ?_
                        have jn158 : ∀ (H : Heap) (locs : List Loc), D_X1_clearCross_j158_1 r p0 (D_X1_clearCross_2 r p0 nn2) y2_2 q_103 f_103 = (o_x, o_q, o_f) → Bd κ A s (cw κ a r q_103 f_103) H locs → ∀ ls : Array Slot, lv_has ls 5 [(4, .int y4_103), (3, .int x1350), (2, .int y2_2), (0, .ref (a 3)), (1, .int p0)] → W p l e (Rm 3 75 0 0) s m args below meth c H locs 0 0 Q (F0 m 158 ls []) := by
                          intro H locs hR hB ls hl
                          replace hR := (D_X1_clearCross_j158_1_s).symm.trans hR
                          refine lv_aload_n hx hb dX1_clearCross_158 rfl (lv_at hl 3 rfl) ?_
                          refine gf hX hB cw3 rfl in1 3 (by decide) wm_1_104 rfl rfl dX1_clearCross_159 ?_
                          refine lv_if_ne (tgt := 195) hx hb dX1_clearCross_162 (by decide) (fun c1987 => ?_) (fun c1987 => ?_)
                          · replace hR := ifn c1987 hR
                            refine lv_iinc (v := y2_2 + 1) (lv' := [(2, .int (y2_2 + 1)), (4, .int y4_103), (3, .int x1350), (0, .ref (a 3)), (1, .int p0)]) hx hb dX1_clearCross_195 hl (k := 2) rfl rfl (by decide) rfl (fun ls hl => ?_)
                            refine lv_goto (tgt := 2) hx hb dX1_clearCross_198 (by decide) ?_
                            exact ih2 (y2_2 + 1) q_103 f_103 _ _ hwq_103 (gap_step c1347 hμ2) hR hB _ (lv_sub hl [0, 3, 4] rfl)
                          · replace hR := ifp c1987 hR
                            refine lv_aload_n hx hb dX1_clearCross_165 rfl (lv_at hl 3 rfl) ?_
                            refine lv_iload_n hx hb dX1_clearCross_166 rfl (lv_at hl 4 rfl) ?_
                            obtain ⟨x1989, hd1988⟩ := ex1 (D_X1_isCrossClear r q_103 f_103 p0)
                            replace hR := bnd1_use hd1988 hR
                            refine call_V (n := 1) (As := [.int p0]) (rest := []) hX hB (k_X1_isCrossClear κ l a r q_103 f_103 p0 x1989 hd1988) ⟨rfl, yk_X1_isCrossClear⟩ wm_2_107 wm_2_109 wp_12 wm_1_4 wm_2_110 ⟨Nat.le_of_ble_eq_true rfl, Nat.le_of_ble_eq_true rfl⟩ ⟨Nat.le_of_ble_eq_true rfl, Nat.le_of_ble_eq_true rfl⟩ cw3 rfl rfl rfl hl.1 rfl (Nat.le_of_ble_eq_true rfl) dX1_clearCross_167 (fun o w' H locs hp hB => ?_)
                            obtain ⟨rfl, bx1989, rfl⟩ := hp
                            refine W.eq (g2 := F0 m 170 ls [.int x1989]) rfl ?_
                            refine lv_if_eq (tgt := 195) hx hb dX1_clearCross_170 (by decide) (fun c1990 => ?_) (fun c1990 => ?_)
                            · replace hR := ifp c1990 hR
                              refine lv_iinc (v := y2_2 + 1) (lv' := [(2, .int (y2_2 + 1)), (4, .int y4_103), (3, .int x1350), (0, .ref (a 3)), (1, .int p0)]) hx hb dX1_clearCross_195 hl (k := 2) rfl rfl (by decide) rfl (fun ls hl => ?_)
                              refine lv_goto (tgt := 2) hx hb dX1_clearCross_198 (by decide) ?_
                              exact ih2 (y2_2 + 1) q_103 f_103 _ _ hwq_103 (gap_step c1347 hμ2) hR hB _ (lv_sub hl [0, 3, 4] rfl)
                            · replace hR := ifn c1990 hR
                              refine lv_aload_n hx hb dX1_clearCross_173 rfl (lv_at hl 3 rfl) ?_
                              refine lv_iload_n hx hb dX1_clearCross_174 rfl (lv_at hl 4 rfl) ?_
                              obtain ⟨x1992, hd1991⟩ := ex1 (D_X1_findUndividedRow r q_103 f_103 p0)
                              replace hR := bnd1_use hd1991 hR
                              refine call_V (n := 1) (As := [.int p0]) (rest := []) hX hB (k_X1_findUndividedRow κ l a r q_103 f_103 p0 x1992 hd1991) ⟨rfl, yk_X1_findUndividedRow⟩ wm_2_111 wm_2_113 wp_13 wm_1_4 wm_2_114 ⟨Nat.le_of_ble_eq_true rfl, Nat.le_of_ble_eq_true rfl⟩ ⟨Nat.le_of_ble_eq_true rfl, Nat.le_of_ble_eq_true rfl⟩ cw3 rfl rfl rfl hl.1 rfl (Nat.le_of_ble_eq_true rfl) dX1_clearCross_175 (fun o w' H locs hp hB => ?_)
                              obtain ⟨rfl, rfl⟩ := hp
                              refine W.eq (g2 := F0 m 178 ls [.int x1992]) rfl ?_
                              refine lv_istore (lv' := [(4, .int x1992), (3, .int x1350), (2, .int y2_2), (0, .ref (a 3)), (1, .int p0)]) hx hb dX1_clearCross_178 hl (by decide) rfl (fun ls hl => ?_)
                              refine lv_iload hx hb dX1_clearCross_180 (lv_at hl 0 rfl) ?_
                              refine lv_if_ge (tgt := 187) hx hb dX1_clearCross_182 (by decide) (fun c1993 => ?_) (fun c1993 => ?_)
                              · replace hR := ifp c1993 hR
                                refine lv_aload_n hx hb dX1_clearCross_187 rfl (lv_at hl 3 rfl) ?_
                                refine lv_iload_n hx hb dX1_clearCross_188 rfl (lv_at hl 4 rfl) ?_
                                refine lv_iload hx hb dX1_clearCross_189 (lv_at hl 0 rfl) ?_
                                refine lv_lconst (v := 1) hx hb dX1_clearCross_191 (by decide) ?_
                                obtain ⟨q1995, f1997, hd1994⟩ := ex2 (D_X1_addRow r q_103 f_103 p0 x1992 1)
                                replace hR := bnd2_use hd1994 hR
                                refine call_V (n := 3) (As := [.int p0, .int x1992, .long 1]) (rest := []) hX hB (k_X1_addRow κ l a r q_103 f_103 p0 x1992 1 q1995 f1997 hd1994) ⟨rfl, yk_X1_addRow⟩ wm_2_96 wm_2_98 wp_10 wm_1_4 wm_2_99 ⟨Nat.le_of_ble_eq_true rfl, Nat.le_of_ble_eq_true rfl⟩ ⟨Nat.le_of_ble_eq_true rfl, Nat.le_of_ble_eq_true rfl⟩ cw3 rfl rfl rfl hl.1 rfl (Nat.le_of_ble_eq_true rfl) dX1_clearCross_192 (fun o w' H locs hp hB => ?_)
                                obtain ⟨rfl, hq1996, rfl⟩ := hp
                                refine W.eq (g2 := F0 m 195 ls []) rfl ?_
                                refine lv_iinc (v := y2_2 + 1) (lv' := [(2, .int (y2_2 + 1)), (4, .int x1992), (3, .int x1350), (0, .ref (a 3)), (1, .int p0)]) hx hb dX1_clearCross_195 hl (k := 2) rfl rfl (by decide) rfl (fun ls hl => ?_)
                                refine lv_goto (tgt := 2) hx hb dX1_clearCross_198 (by decide) ?_
                                exact ih2 (y2_2 + 1) q1995 f1997 _ _ (hq1996.trans hwq_103) (gap_step c1347 hμ2) hR hB _ (lv_sub hl [0, 3, 4] rfl)
                              · replace hR := ifn c1993 hR
                                refine lv_iconst (v := 1) hx hb dX1_clearCross_185 (by decide) ?_
                                rw [← hQ]
                                exact end_i hX hB hA3 rfl rfl (by obtain ⟨rfl, rfl, rfl⟩ := pr3 hR; exact ⟨rfl, Or.inr rfl, hwq_103, rfl⟩) (Nat.le_of_ble_eq_true rfl) (Nat.le_of_ble_eq_true rfl) dX1_clearCross_186
                        refine lv_icmp_ge (tgt := 158) hx hb dX1_clearCross_112 (by decide) (fun c1998 => ?_) (fun c1998 => ?_)
                        · replace hR := ifp c1998 hR
                          exact jn158  _ _  hR hB _ hl
                        · replace hR := ifn c1998 hR
                          refine lv_aload_n hx hb dX1_clearCross_115 rfl (lv_at hl 3 rfl) ?_
                          refine gf hX hB cw3 rfl in1 3 (by decide) wm_1_104 rfl rfl dX1_clearCross_116 ?_
                          refine lv_if_ne (tgt := 158) hx hb dX1_clearCross_119 (by decide) (fun c1999 => ?_) (fun c1999 => ?_)
                          · replace hR := ifn c1999 hR
                            exact jn158  _ _  hR hB _ hl
                          · replace hR := ifp c1999 hR
                            refine lv_aload_n hx hb dX1_clearCross_122 rfl (lv_at hl 3 rfl) ?_
                            refine lv_iload hx hb dX1_clearCross_123 (lv_at hl 0 rfl) ?_
                            refine lv_iload_n hx hb dX1_clearCross_125 rfl (lv_at hl 4 rfl) ?_
                            refine lv_aload_n hx hb dX1_clearCross_126 rfl (lv_at hl 3 rfl) ?_
                            refine gf hX hB cw3 rfl in1 0 (by decide) wm_1_95 rfl rfl dX1_clearCross_127 ?_
                            refine lv_iload_n hx hb dX1_clearCross_130 rfl (lv_at hl 4 rfl) ?_
                            refine lv_iload hx hb dX1_clearCross_131 (lv_at hl 0 rfl) ?_
                            obtain ⟨x2001, hd2000⟩ := ex1 (D_X3_get r q_103 f_103 8 p0 y4_103)
                            replace hR := bnd1_use hd2000 hR
                            refine call_V (n := 2) (As := [.int p0, .int y4_103]) (rest := [.int p0, .int y4_103, .ref (a 3)]) hX hB (k_X3_get κ l a r q_103 f_103 8 p0 y4_103 (by decide) x2001 hd2000) ⟨rfl, yk_X3_get⟩ wm_2_87 wm_1_187 wm_1_188 wm_1_2 wm_1_189 ⟨Nat.le_of_ble_eq_true rfl, Nat.le_of_ble_eq_true rfl⟩ ⟨Nat.le_of_ble_eq_true rfl, Nat.le_of_ble_eq_true rfl⟩ (cwG (i := 8) (by decide)) rfl rfl rfl hl.1 rfl (Nat.le_of_ble_eq_true rfl) dX1_clearCross_133 (fun o w' H locs hp hB => ?_)
                            obtain ⟨rfl, rfl⟩ := hp
                            refine W.eq (g2 := F0 m 136 ls [.long x2001, .int p0, .int y4_103, .ref (a 3)]) rfl ?_
                            refine lv_aload_n hx hb dX1_clearCross_136 rfl (lv_at hl 3 rfl) ?_
                            refine gf hX hB cw3 rfl in1 0 (by decide) wm_1_95 rfl rfl dX1_clearCross_137 ?_
                            refine lv_iload_n hx hb dX1_clearCross_140 rfl (lv_at hl 4 rfl) ?_
                            refine lv_iload_n hx hb dX1_clearCross_141 rfl (lv_at hl 4 rfl) ?_
                            obtain ⟨x2003, hd2002⟩ := ex1 (D_X3_get r q_103 f_103 8 p0 p0)
                            replace hR := bnd1_use hd2002 hR
                            refine call_V (n := 2) (As := [.int p0, .int p0]) (rest := [.long x2001, .int p0, .int y4_103, .ref (a 3)]) hX hB (k_X3_get κ l a r q_103 f_103 8 p0 p0 (by decide) x2003 hd2002) ⟨rfl, yk_X3_get⟩ wm_2_87 wm_1_187 wm_1_188 wm_1_2 wm_1_189 ⟨Nat.le_of_ble_eq_true rfl, Nat.le_of_ble_eq_true rfl⟩ ⟨Nat.le_of_ble_eq_true rfl, Nat.le_of_ble_eq_true rfl⟩ (cwG (i := 8) (by decide)) rfl rfl rfl hl.1 rfl (Nat.le_of_ble_eq_true rfl) dX1_clearCross_142 (fun o w' H locs hp hB => ?_)
                            obtain ⟨rfl, rfl⟩ := hp
                            refine W.eq (g2 := F0 m 145 ls [.long x2003, .long x2001, .int p0, .int y4_103, .ref (a 3)]) rfl ?_
                            obtain ⟨x2004, hd2005⟩ := ex1 (D_X5_divideDown x2001 x2003)
                            replace hR := bnd1_use hd2005 hR
                            refine call_SN (n := 2) (As := [.long x2001, .long x2003]) (rest := [.int p0, .int y4_103, .ref (a 3)]) hX hB (k_X5_divideDown κ l (cw κ a r q_103 f_103) x2001 x2003  x2004 hd2005) yk_X5_divideDown wn_2_95 wm_2_17 wm_1_1 wm_2_18 ⟨Nat.le_of_ble_eq_true rfl, Nat.le_of_ble_eq_true rfl⟩ ⟨Nat.le_of_ble_eq_true rfl, Nat.le_of_ble_eq_true rfl⟩ rfl hl.1 rfl (Nat.le_of_ble_eq_true rfl) dX1_clearCross_145 (fun o w' H locs hp hB => ?_)
                            obtain ⟨rfl, hw9⟩ := hp
                            rw [hw9] at hB
                            refine W.eq (g2 := F0 m 148 ls [.long x2004, .int p0, .int y4_103, .ref (a 3)]) rfl ?_
                            refine lv_lneg hx hb dX1_clearCross_148 ?_
                            obtain ⟨q2007, f2009, hd2006⟩ := ex2 (D_X1_addColumn r q_103 f_103 y4_103 p0 (-x2004))
                            replace hR := bnd2_use hd2006 hR
                            refine call_V (n := 3) (As := [.int y4_103, .int p0, .long (-x2004)]) (rest := []) hX hB (k_X1_addColumn κ l a r q_103 f_103 y4_103 p0 (-x2004) q2007 f2009 hd2006) ⟨rfl, yk_X1_addColumn⟩ wm_2_103 wm_2_105 wp_11 wm_1_4 wm_2_106 ⟨Nat.le_of_ble_eq_true rfl, Nat.le_of_ble_eq_true rfl⟩ ⟨Nat.le_of_ble_eq_true rfl, Nat.le_of_ble_eq_true rfl⟩ cw3 rfl rfl rfl hl.1 rfl (Nat.le_of_ble_eq_true rfl) dX1_clearCross_149 (fun o w' H locs hp hB => ?_)
                            obtain ⟨rfl, hq2008, rfl⟩ := hp
                            refine W.eq (g2 := F0 m 152 ls []) rfl ?_
                            refine lv_iinc (v := y4_103 + 1) (lv' := [(4, .int (y4_103 + 1)), (3, .int x1350), (2, .int y2_2), (0, .ref (a 3)), (1, .int p0)]) hx hb dX1_clearCross_152 hl (k := 0) rfl rfl (by decide) rfl (fun ls hl => ?_)
                            refine lv_goto (tgt := 103) hx hb dX1_clearCross_155 (by decide) ?_
                            exact ih103 (y4_103 + 1) q2007 f2009 _ _ (hq2008.trans hwq_103) (gap_step c1998 hμ103) hR hB _ hl
                    exact lp103 _ (p0 + 1) q_43 f_43 _ _ hwq_43 (Nat.lt_succ_self _) hR hB _ hl
                  · replace hR := ifp c1904 hR
                    refine lv_aload_n hx hb dX1_clearCross_62 rfl (lv_at hl 3 rfl) ?_
                    refine lv_iload hx hb dX1_clearCross_63 (lv_at hl 0 rfl) ?_
                    refine lv_iload_n hx hb dX1_clearCross_65 rfl (lv_at hl 4 rfl) ?_
                    refine lv_aload_n hx hb dX1_clearCross_66 rfl (lv_at hl 3 rfl) ?_
                    refine gf hX hB cw3 rfl in1 0 (by decide) wm_1_95 rfl rfl dX1_clearCross_67 ?_
                    refine lv_iload hx hb dX1_clearCross_70 (lv_at hl 0 rfl) ?_
                    refine lv_iload_n hx hb dX1_clearCross_72 rfl (lv_at hl 4 rfl) ?_
                    obtain ⟨x2011, hd2010⟩ := ex1 (D_X3_get r q_43 f_43 8 y4_43 p0)
                    replace hR := bnd1_use hd2010 hR
                    refine call_V (n := 2) (As := [.int y4_43, .int p0]) (rest := [.int p0, .int y4_43, .ref (a 3)]) hX hB (k_X3_get κ l a r q_43 f_43 8 y4_43 p0 (by decide) x2011 hd2010) ⟨rfl, yk_X3_get⟩ wm_2_87 wm_1_187 wm_1_188 wm_1_2 wm_1_189 ⟨Nat.le_of_ble_eq_true rfl, Nat.le_of_ble_eq_true rfl⟩ ⟨Nat.le_of_ble_eq_true rfl, Nat.le_of_ble_eq_true rfl⟩ (cwG (i := 8) (by decide)) rfl rfl rfl hl.1 rfl (Nat.le_of_ble_eq_true rfl) dX1_clearCross_73 (fun o w' H locs hp hB => ?_)
                    obtain ⟨rfl, rfl⟩ := hp
                    refine W.eq (g2 := F0 m 76 ls [.long x2011, .int p0, .int y4_43, .ref (a 3)]) rfl ?_
                    refine lv_aload_n hx hb dX1_clearCross_76 rfl (lv_at hl 3 rfl) ?_
                    refine gf hX hB cw3 rfl in1 0 (by decide) wm_1_95 rfl rfl dX1_clearCross_77 ?_
                    refine lv_iload_n hx hb dX1_clearCross_80 rfl (lv_at hl 4 rfl) ?_
                    refine lv_iload_n hx hb dX1_clearCross_81 rfl (lv_at hl 4 rfl) ?_
                    obtain ⟨x2013, hd2012⟩ := ex1 (D_X3_get r q_43 f_43 8 p0 p0)
                    replace hR := bnd1_use hd2012 hR
                    refine call_V (n := 2) (As := [.int p0, .int p0]) (rest := [.long x2011, .int p0, .int y4_43, .ref (a 3)]) hX hB (k_X3_get κ l a r q_43 f_43 8 p0 p0 (by decide) x2013 hd2012) ⟨rfl, yk_X3_get⟩ wm_2_87 wm_1_187 wm_1_188 wm_1_2 wm_1_189 ⟨Nat.le_of_ble_eq_true rfl, Nat.le_of_ble_eq_true rfl⟩ ⟨Nat.le_of_ble_eq_true rfl, Nat.le_of_ble_eq_true rfl⟩ (cwG (i := 8) (by decide)) rfl rfl rfl hl.1 rfl (Nat.le_of_ble_eq_true rfl) dX1_clearCross_82 (fun o w' H locs hp hB => ?_)
                    obtain ⟨rfl, rfl⟩ := hp
                    refine W.eq (g2 := F0 m 85 ls [.long x2013, .long x2011, .int p0, .int y4_43, .ref (a 3)]) rfl ?_
                    obtain ⟨x2014, hd2015⟩ := ex1 (D_X5_divideDown x2011 x2013)
                    replace hR := bnd1_use hd2015 hR
                    refine call_SN (n := 2) (As := [.long x2011, .long x2013]) (rest := [.int p0, .int y4_43, .ref (a 3)]) hX hB (k_X5_divideDown κ l (cw κ a r q_43 f_43) x2011 x2013  x2014 hd2015) yk_X5_divideDown wn_2_95 wm_2_17 wm_1_1 wm_2_18 ⟨Nat.le_of_ble_eq_true rfl, Nat.le_of_ble_eq_true rfl⟩ ⟨Nat.le_of_ble_eq_true rfl, Nat.le_of_ble_eq_true rfl⟩ rfl hl.1 rfl (Nat.le_of_ble_eq_true rfl) dX1_clearCross_85 (fun o w' H locs hp hB => ?_)
                    obtain ⟨rfl, hw9⟩ := hp
                    rw [hw9] at hB
                    refine W.eq (g2 := F0 m 88 ls [.long x2014, .int p0, .int y4_43, .ref (a 3)]) rfl ?_
                    refine lv_lneg hx hb dX1_clearCross_88 ?_
                    obtain ⟨q2017, f2019, hd2016⟩ := ex2 (D_X1_addRow r q_43 f_43 y4_43 p0 (-x2014))
                    replace hR := bnd2_use hd2016 hR
                    refine call_V (n := 3) (As := [.int y4_43, .int p0, .long (-x2014)]) (rest := []) hX hB (k_X1_addRow κ l a r q_43 f_43 y4_43 p0 (-x2014) q2017 f2019 hd2016) ⟨rfl, yk_X1_addRow⟩ wm_2_96 wm_2_98 wp_10 wm_1_4 wm_2_99 ⟨Nat.le_of_ble_eq_true rfl, Nat.le_of_ble_eq_true rfl⟩ ⟨Nat.le_of_ble_eq_true rfl, Nat.le_of_ble_eq_true rfl⟩ cw3 rfl rfl rfl hl.1 rfl (Nat.le_of_ble_eq_true rfl) dX1_clearCross_89 (fun o w' H locs hp hB => ?_)
                    obtain ⟨rfl, hq2018, rfl⟩ := hp
                    refine W.eq (g2 := F0 m 92 ls []) rfl ?_
                    refine lv_iinc (v := y4_43 + 1) (lv' := [(4, .int (y4_43 + 1)), (3, .int x1350), (2, .int y2_2), (0, .ref (a 3)), (1, .int p0)]) hx hb dX1_clearCross_92 hl (k := 0) rfl rfl (by decide) rfl (fun ls hl => ?_)
                    refine lv_goto (tgt := 43) hx hb dX1_clearCross_95 (by decide) ?_
                    exact ih43 (y4_43 + 1) q2017 f2019 _ _ (hq2018.trans hwq_43) (gap_step c1798 hμ43) hR hB _ hl
            exact lp43 _ (p0 + 1) q_2 f1353 _ _ hwq_2 (Nat.lt_succ_self _) hR hB _ hl
          · replace hR := ifn c1351 hR
            refine lv_iconst (v := 0) hx hb dX1_clearCross_25 (by decide) ?_
            rw [← hQ]
            exact end_i hX hB hA3 rfl rfl (by obtain ⟨rfl, rfl, rfl⟩ := pr3 hR; exact ⟨rfl, Or.inl rfl, hwq_2, rfl⟩) (Nat.le_of_ble_eq_true rfl) (Nat.le_of_ble_eq_true rfl) dX1_clearCross_26
  exact lp2 _ 0 q f _ _ rfl (Nat.lt_succ_self _) hR hB _ hl
noncomputable def D_X1_walk_39 (r14 : Nat → Int32) (nn : Nat) : Int32 → Int32 → (Nat → Int32) → (Nat → Nat → Int64) → (Nat → Int32) × (Nat → Int32) × (Nat → Nat → Int64) := @Nat.rec (fun _ => Int32 → Int32 → (Nat → Int32) → (Nat → Nat → Int64) → (Nat → Int32) × (Nat → Int32) × (Nat → Nat → Int64)) (fun _ _ _ _ => default) (fun _ lb39 (y3_39 : Int32) (y2_39 : Int32) (q_39 : Nat → Int32) (f_39 : Nat → Nat → Int64) => (if (r14 (2 * 8)) ≤ y3_39 then (r14, q_39, f_39) else (if (r14 (2 * 8 + 1)) ≤ y3_39 then (r14, q_39, f_39) else (if y2_39 = 0 then (r14, q_39, f_39) else (if (q_39 1) = 0 then bnd3 (D_X1_clearCross r14 q_39 f_39 y3_39) (fun (x42 : Int32) (q43 : Nat → Int32) (f45 : Nat → Nat → Int64) => (lb39 (y3_39 + 1) x42 q43 f45)) else (r14, q_39, f_39)))))) nn
theorem D_X1_walk_39_s {r14 : Nat → Int32} {nn : Nat} {y3_39 : Int32} {y2_39 : Int32} {q_39 : Nat → Int32} {f_39 : Nat → Nat → Int64} : D_X1_walk_39 r14 (nn + 1) y3_39 y2_39 q_39 f_39 = (if (r14 (2 * 8)) ≤ y3_39 then (r14, q_39, f_39) else (if (r14 (2 * 8 + 1)) ≤ y3_39 then (r14, q_39, f_39) else (if y2_39 = 0 then (r14, q_39, f_39) else (if (q_39 1) = 0 then bnd3 (D_X1_clearCross r14 q_39 f_39 y3_39) (fun (x42 : Int32) (q43 : Nat → Int32) (f45 : Nat → Nat → Int64) => ((D_X1_walk_39 r14 nn) (y3_39 + 1) x42 q43 f45)) else (r14, q_39, f_39))))) := rfl
noncomputable def D_X1_walk (r : Nat → Int32) (q : Nat → Int32) (f : Nat → Nat → Int64) (i : Nat) : (Nat → Int32) × (Nat → Int32) × (Nat → Nat → Int64) := bnd3 (D_X3_becomeLike r q f 8 i) (fun (r2 : Nat → Int32) (q4 : Nat → Int32) (f6 : Nat → Nat → Int64) => bnd3 (D_X3_becomeUnit r2 q4 f6 9 (r2 (2 * i))) (fun (r8 : Nat → Int32) (q10 : Nat → Int32) (f12 : Nat → Nat → Int64) => bnd3 (D_X3_becomeUnit r8 q10 f12 10 (r8 (2 * i + 1))) (fun (r14 : Nat → Int32) (q16 : Nat → Int32) (f18 : Nat → Nat → Int64) => (D_X1_walk_39 r14 (gap (r14 (2 * 8)) 0 + 1) 0 1 (va_up q16 1 0) f18))))
theorem D_X1_walk_s {r : Nat → Int32} {q : Nat → Int32} {f : Nat → Nat → Int64} {i : Nat} : D_X1_walk r q f i = bnd3 (D_X3_becomeLike r q f 8 i) (fun (r2 : Nat → Int32) (q4 : Nat → Int32) (f6 : Nat → Nat → Int64) => bnd3 (D_X3_becomeUnit r2 q4 f6 9 (r2 (2 * i))) (fun (r8 : Nat → Int32) (q10 : Nat → Int32) (f12 : Nat → Nat → Int64) => bnd3 (D_X3_becomeUnit r8 q10 f12 10 (r8 (2 * i + 1))) (fun (r14 : Nat → Int32) (q16 : Nat → Int32) (f18 : Nat → Nat → Int64) => (D_X1_walk_39 r14 (gap (r14 (2 * 8)) 0 + 1) 0 1 (va_up q16 1 0) f18)))) := rfl
set_option maxHeartbeats 4000000 in
set_option maxRecDepth 100000 in
theorem k_X1_walk (κ : Kt) (l : Launch) (a : Nat → Nat) (r q : Nat → Int32) (f : Nat → Nat → Int64) (i : Nat) (hi : i < 15) (o_r : Nat → Int32) (o_q : Nat → Int32) (o_f : Nat → Nat → Int64) (hR : D_X1_walk r q f i = (o_r, o_q, o_f)) : CM κ l yX1_walk cX1_walk 4 (none) 4 99 0 0 [.ref (a 3), .ref (a (6 + 2 * i))] (cw κ a r q f) (fun o w' => o = none ∧ (okr r → okr o_r) ∧ o_q 4 = q 4 ∧ w' = cw κ a o_r o_q o_f) := by
  refine CM_begin (plainFor_of_name pn_RX1) (Nat.le_of_ble_eq_true rfl) ?_
  intro p e s m args below meth c A Q hX hnm hA3 hQ hB ls hl
  have hx := hX.1.1
  have hb := hX.1.2.1
  have hl : lv_has ls 4 [(0, .ref (a 3)), (1, .ref (a (6 + 2 * i)))] := hl
  replace hR := (D_X1_walk_s).symm.trans hR
  refine lv_aload_n hx hb dX1_walk_0 rfl (lv_at hl 0 rfl) ?_
  refine gf hX hB cw3 rfl in1 0 (by decide) wm_1_95 rfl rfl dX1_walk_1 ?_
  refine lv_aload_n hx hb dX1_walk_4 rfl (lv_at hl 1 rfl) ?_
  obtain ⟨r2, q4, f6, hd1⟩ := ex3 (D_X3_becomeLike r q f 8 i)
  replace hR := bnd3_use hd1 hR
  refine call_V (n := 1) (As := [.ref (a (6 + 2 * i))]) (rest := []) hX hB (k_X3_becomeLike κ l a r q f 8 i (by decide) hi r2 q4 f6 hd1) ⟨rfl, yk_X3_becomeLike⟩ wm_2_76 wm_1_205 wm_1_206 wm_1_2 wm_1_207 ⟨Nat.le_of_ble_eq_true rfl, Nat.le_of_ble_eq_true rfl⟩ ⟨Nat.le_of_ble_eq_true rfl, Nat.le_of_ble_eq_true rfl⟩ (cwG (i := 8) (by decide)) rfl rfl rfl hl.1 rfl (Nat.le_of_ble_eq_true rfl) dX1_walk_5 (fun o w' H locs hp hB => ?_)
  obtain ⟨rfl, ho3, hq5, rfl⟩ := hp
  refine W.eq (g2 := F0 m 8 ls []) rfl ?_
  refine lv_aload_n hx hb dX1_walk_8 rfl (lv_at hl 0 rfl) ?_
  refine gf hX hB cw3 rfl in1 1 (by decide) wm_1_98 rfl rfl dX1_walk_9 ?_
  refine lv_aload_n hx hb dX1_walk_12 rfl (lv_at hl 1 rfl) ?_
  refine gfN hX hB (cwG (i := i) hi) rfl in3 1 (by decide) wn_1_49 rfl rfl dX1_walk_13 ?_
  obtain ⟨r8, q10, f12, hd7⟩ := ex3 (D_X3_becomeUnit r2 q4 f6 9 (r2 (2 * i)))
  replace hR := bnd3_use hd7 hR
  refine call_V (n := 1) (As := [.int (r2 (2 * i))]) (rest := []) hX hB (k_X3_becomeUnit κ l a r2 q4 f6 9 (r2 (2 * i)) (by decide) r8 q10 f12 hd7) ⟨rfl, yk_X3_becomeUnit⟩ wm_2_77 wm_1_209 wm_1_210 wm_1_2 wm_1_211 ⟨Nat.le_of_ble_eq_true rfl, Nat.le_of_ble_eq_true rfl⟩ ⟨Nat.le_of_ble_eq_true rfl, Nat.le_of_ble_eq_true rfl⟩ (cwG (i := 9) (by decide)) rfl rfl rfl hl.1 rfl (Nat.le_of_ble_eq_true rfl) dX1_walk_16 (fun o w' H locs hp hB => ?_)
  obtain ⟨rfl, ho9, hq11, rfl⟩ := hp
  refine W.eq (g2 := F0 m 19 ls []) rfl ?_
  refine lv_aload_n hx hb dX1_walk_19 rfl (lv_at hl 0 rfl) ?_
  refine gf hX hB cw3 rfl in1 2 (by decide) wm_1_101 rfl rfl dX1_walk_20 ?_
  refine lv_aload_n hx hb dX1_walk_23 rfl (lv_at hl 1 rfl) ?_
  refine gfN hX hB (cwG (i := i) hi) rfl in3 2 (by decide) wn_1_54 rfl rfl dX1_walk_24 ?_
  obtain ⟨r14, q16, f18, hd13⟩ := ex3 (D_X3_becomeUnit r8 q10 f12 10 (r8 (2 * i + 1)))
  replace hR := bnd3_use hd13 hR
  refine call_V (n := 1) (As := [.int (r8 (2 * i + 1))]) (rest := []) hX hB (k_X3_becomeUnit κ l a r8 q10 f12 10 (r8 (2 * i + 1)) (by decide) r14 q16 f18 hd13) ⟨rfl, yk_X3_becomeUnit⟩ wm_2_77 wm_1_209 wm_1_210 wm_1_2 wm_1_211 ⟨Nat.le_of_ble_eq_true rfl, Nat.le_of_ble_eq_true rfl⟩ ⟨Nat.le_of_ble_eq_true rfl, Nat.le_of_ble_eq_true rfl⟩ (cwG (i := 10) (by decide)) rfl rfl rfl hl.1 rfl (Nat.le_of_ble_eq_true rfl) dX1_walk_27 (fun o w' H locs hp hB => ?_)
  obtain ⟨rfl, ho15, hq17, rfl⟩ := hp
  refine W.eq (g2 := F0 m 30 ls []) rfl ?_
  refine lv_aload_n hx hb dX1_walk_30 rfl (lv_at hl 0 rfl) ?_
  refine lv_iconst (v := 0) hx hb dX1_walk_31 (by decide) ?_
  refine pf (ty := .boolean) hX hB cw3 rfl in1 tyX1_ok nmX1 3 (by decide) wm_1_104 rfl rfl rfl rfl rfl (Nat.le_of_ble_eq_true rfl) (cwSQ1 _) dX1_walk_32 (fun H locs hB => ?_)
  refine lv_iconst (v := 1) hx hb dX1_walk_35 (by decide) ?_
  refine lv_istore_n (lv' := [(2, .int 1), (0, .ref (a 3)), (1, .ref (a (6 + 2 * i)))]) hx hb dX1_walk_36 rfl hl (by decide) rfl (fun ls hl => ?_)
  refine lv_iconst (v := 0) hx hb dX1_walk_37 (by decide) ?_
  refine lv_istore_n (lv' := [(3, .int 0), (2, .int 1), (0, .ref (a 3)), (1, .ref (a (6 + 2 * i)))]) hx hb dX1_walk_38 rfl hl (by decide) rfl (fun ls hl => ?_)
  have lp39 : ∀ (nn39 : Nat) (y3_39 : Int32) (y2_39 : Int32) (q_39 : Nat → Int32) (f_39 : Nat → Nat → Int64) (H : Heap) (locs : List Loc), q_39 4 = q 4 → gap (r14 (2 * 8)) y3_39 < nn39 → D_X1_walk_39 r14 nn39 y3_39 y2_39 q_39 f_39 = (o_r, o_q, o_f) → Bd κ A s (cw κ a r14 q_39 f_39) H locs → ∀ ls : Array Slot, lv_has ls 4 [(3, .int y3_39), (2, .int y2_39), (0, .ref (a 3)), (1, .ref (a (6 + 2 * i)))] → W p l e (Rm 4 99 0 0) s m args below meth c H locs 0 0 Q (F0 m 39 ls []) := by
    intro nn39
    induction nn39 with
    | zero => intro y3_39 y2_39 q_39 f_39 H locs hwq_39 hμ; exact absurd hμ (Nat.not_lt_zero _)
    | succ nn39 ih39 =>
      intro y3_39 y2_39 q_39 f_39 H locs hwq_39 hμ39 hR hB ls hl
      replace hR := (D_X1_walk_39_s).symm.trans hR
      refine lv_iload_n hx hb dX1_walk_39 rfl (lv_at hl 0 rfl) ?_
      refine lv_aload_n hx hb dX1_walk_40 rfl (lv_at hl 2 rfl) ?_
      refine gf hX hB cw3 rfl in1 0 (by decide) wm_1_95 rfl rfl dX1_walk_41 ?_
      refine gfN hX hB (cwG (i := 8) (by decide)) rfl in3 1 (by decide) wn_1_49 rfl rfl dX1_walk_44 ?_
      refine lv_icmp_ge (tgt := 84) hx hb dX1_walk_47 (by decide) (fun c37 => ?_) (fun c37 => ?_)
      · replace hR := ifp c37 hR
        rw [← hQ]
        exact end_v hX hB hA3 rfl (by obtain ⟨rfl, rfl, rfl⟩ := pr3 hR; exact ⟨rfl, (fun h => ho15 ((fun h => ho9 ((fun h => ho3 ((fun h => h) h)) h)) h)), hwq_39, rfl⟩) (Nat.le_of_ble_eq_true rfl) (Nat.le_of_ble_eq_true rfl) dX1_walk_84
      · replace hR := ifn c37 hR
        refine lv_iload_n hx hb dX1_walk_50 rfl (lv_at hl 0 rfl) ?_
        refine lv_aload_n hx hb dX1_walk_51 rfl (lv_at hl 2 rfl) ?_
        refine gf hX hB cw3 rfl in1 0 (by decide) wm_1_95 rfl rfl dX1_walk_52 ?_
        refine gfN hX hB (cwG (i := 8) (by decide)) rfl in3 2 (by decide) wn_1_54 rfl rfl dX1_walk_55 ?_
        refine lv_icmp_ge (tgt := 84) hx hb dX1_walk_58 (by decide) (fun c38 => ?_) (fun c38 => ?_)
        · replace hR := ifp c38 hR
          rw [← hQ]
          exact end_v hX hB hA3 rfl (by obtain ⟨rfl, rfl, rfl⟩ := pr3 hR; exact ⟨rfl, (fun h => ho15 ((fun h => ho9 ((fun h => ho3 ((fun h => h) h)) h)) h)), hwq_39, rfl⟩) (Nat.le_of_ble_eq_true rfl) (Nat.le_of_ble_eq_true rfl) dX1_walk_84
        · replace hR := ifn c38 hR
          refine lv_iload_n hx hb dX1_walk_61 rfl (lv_at hl 1 rfl) ?_
          refine lv_if_eq (tgt := 84) hx hb dX1_walk_62 (by decide) (fun c39 => ?_) (fun c39 => ?_)
          · replace hR := ifp c39 hR
            rw [← hQ]
            exact end_v hX hB hA3 rfl (by obtain ⟨rfl, rfl, rfl⟩ := pr3 hR; exact ⟨rfl, (fun h => ho15 ((fun h => ho9 ((fun h => ho3 ((fun h => h) h)) h)) h)), hwq_39, rfl⟩) (Nat.le_of_ble_eq_true rfl) (Nat.le_of_ble_eq_true rfl) dX1_walk_84
          · replace hR := ifn c39 hR
            refine lv_aload_n hx hb dX1_walk_65 rfl (lv_at hl 2 rfl) ?_
            refine gf hX hB cw3 rfl in1 3 (by decide) wm_1_104 rfl rfl dX1_walk_66 ?_
            refine lv_if_ne (tgt := 84) hx hb dX1_walk_69 (by decide) (fun c40 => ?_) (fun c40 => ?_)
            · replace hR := ifn c40 hR
              rw [← hQ]
              exact end_v hX hB hA3 rfl (by obtain ⟨rfl, rfl, rfl⟩ := pr3 hR; exact ⟨rfl, (fun h => ho15 ((fun h => ho9 ((fun h => ho3 ((fun h => h) h)) h)) h)), hwq_39, rfl⟩) (Nat.le_of_ble_eq_true rfl) (Nat.le_of_ble_eq_true rfl) dX1_walk_84
            · replace hR := ifp c40 hR
              refine lv_aload_n hx hb dX1_walk_72 rfl (lv_at hl 2 rfl) ?_
              refine lv_iload_n hx hb dX1_walk_73 rfl (lv_at hl 0 rfl) ?_
              obtain ⟨x42, q43, f45, hd41⟩ := ex3 (D_X1_clearCross r14 q_39 f_39 y3_39)
              replace hR := bnd3_use hd41 hR
              refine call_V (n := 1) (As := [.int y3_39]) (rest := []) hX hB (k_X1_clearCross κ l a r14 q_39 f_39 y3_39 x42 q43 f45 hd41) ⟨rfl, yk_X1_clearCross⟩ wm_2_78 wm_2_80 wp_7 wm_1_4 wm_2_81 ⟨Nat.le_of_ble_eq_true rfl, Nat.le_of_ble_eq_true rfl⟩ ⟨Nat.le_of_ble_eq_true rfl, Nat.le_of_ble_eq_true rfl⟩ cw3 rfl rfl rfl hl.1 rfl (Nat.le_of_ble_eq_true rfl) dX1_walk_74 (fun o w' H locs hp hB => ?_)
              obtain ⟨rfl, bx42, hq44, rfl⟩ := hp
              refine W.eq (g2 := F0 m 77 ls [.int x42]) rfl ?_
              refine lv_istore_n (lv' := [(2, .int x42), (3, .int y3_39), (0, .ref (a 3)), (1, .ref (a (6 + 2 * i)))]) hx hb dX1_walk_77 rfl hl (by decide) rfl (fun ls hl => ?_)
              refine lv_iinc (v := y3_39 + 1) (lv' := [(3, .int (y3_39 + 1)), (2, .int x42), (0, .ref (a 3)), (1, .ref (a (6 + 2 * i)))]) hx hb dX1_walk_78 hl (k := 1) rfl rfl (by decide) rfl (fun ls hl => ?_)
              refine lv_goto (tgt := 39) hx hb dX1_walk_81 (by decide) ?_
              exact ih39 (y3_39 + 1) x42 q43 f45 _ _ (hq44.trans hwq_39) (gap_step c37 hμ39) hR hB _ hl
  exact lp39 _ 0 1 (va_up q16 1 0) f18 _ _ (hq17.trans (hq11.trans (hq5.trans rfl))) (Nat.lt_succ_self _) hR hB _ hl
noncomputable def D_X1_countRank_4 (r : Nat → Int32) (q : Nat → Int32) (f : Nat → Nat → Int64) (nn : Nat) : Int32 → Int32 → Int32 := @Nat.rec (fun _ => Int32 → Int32 → Int32) (fun _ _ => default) (fun _ lb4 (y2_4 : Int32) (y1_4 : Int32) => (if (r (2 * 8)) ≤ y2_4 then y1_4 else (if (r (2 * 8 + 1)) ≤ y2_4 then y1_4 else bnd1 (D_X3_get r q f 8 y2_4 y2_4) (fun (x14 : Int64) => (if (lg_cmp x14 0) = 0 then (lb4 (y2_4 + 1) y1_4) else (lb4 (y2_4 + 1) (y1_4 + 1))))))) nn
theorem D_X1_countRank_4_s {r : Nat → Int32} {q : Nat → Int32} {f : Nat → Nat → Int64} {nn : Nat} {y2_4 : Int32} {y1_4 : Int32} : D_X1_countRank_4 r q f (nn + 1) y2_4 y1_4 = (if (r (2 * 8)) ≤ y2_4 then y1_4 else (if (r (2 * 8 + 1)) ≤ y2_4 then y1_4 else bnd1 (D_X3_get r q f 8 y2_4 y2_4) (fun (x14 : Int64) => (if (lg_cmp x14 0) = 0 then ((D_X1_countRank_4 r q f nn) (y2_4 + 1) y1_4) else ((D_X1_countRank_4 r q f nn) (y2_4 + 1) (y1_4 + 1)))))) := rfl
noncomputable def D_X1_countRank (r : Nat → Int32) (q : Nat → Int32) (f : Nat → Nat → Int64) : Int32 := (D_X1_countRank_4 r q f (gap (r (2 * 8)) 0 + 1) 0 0)
theorem D_X1_countRank_s {r : Nat → Int32} {q : Nat → Int32} {f : Nat → Nat → Int64} : D_X1_countRank r q f = (D_X1_countRank_4 r q f (gap (r (2 * 8)) 0 + 1) 0 0) := rfl
set_option maxHeartbeats 4000000 in
set_option maxRecDepth 100000 in
theorem k_X1_countRank (κ : Kt) (l : Launch) (a : Nat → Nat) (r q : Nat → Int32) (f : Nat → Nat → Int64)  (o_x : Int32) (hR : D_X1_countRank r q f = o_x) : CM κ l yX1_countRank cX1_countRank 3 (some .int) 1 22 0 0 [.ref (a 3)] (cw κ a r q f) (fun o w' => o = some (.int o_x) ∧ w' = cw κ a r q f) := by
  refine CM_begin (plainFor_of_name pn_RX1) (Nat.le_of_ble_eq_true rfl) ?_
  intro p e s m args below meth c A Q hX hnm hA3 hQ hB ls hl
  have hx := hX.1.1
  have hb := hX.1.2.1
  have hl : lv_has ls 3 [(0, .ref (a 3))] := hl
  replace hR := (D_X1_countRank_s).symm.trans hR
  refine lv_iconst (v := 0) hx hb dX1_countRank_0 (by decide) ?_
  refine lv_istore_n (lv' := [(1, .int 0), (0, .ref (a 3))]) hx hb dX1_countRank_1 rfl hl (by decide) rfl (fun ls hl => ?_)
  refine lv_iconst (v := 0) hx hb dX1_countRank_2 (by decide) ?_
  refine lv_istore_n (lv' := [(2, .int 0), (1, .int 0), (0, .ref (a 3))]) hx hb dX1_countRank_3 rfl hl (by decide) rfl (fun ls hl => ?_)
  have lp4 : ∀ (nn4 : Nat) (y2_4 : Int32) (y1_4 : Int32) (H : Heap) (locs : List Loc), gap (r (2 * 8)) y2_4 < nn4 → D_X1_countRank_4 r q f nn4 y2_4 y1_4 = o_x → Bd κ A s (cw κ a r q f) H locs → ∀ ls : Array Slot, lv_has ls 3 [(2, .int y2_4), (1, .int y1_4), (0, .ref (a 3))] → W p l e (Rm 1 22 0 0) s m args below meth c H locs 0 0 Q (F0 m 4 ls []) := by
    intro nn4
    induction nn4 with
    | zero => intro y2_4 y1_4 H locs hμ; exact absurd hμ (Nat.not_lt_zero _)
    | succ nn4 ih4 =>
      intro y2_4 y1_4 H locs hμ4 hR hB ls hl
      replace hR := (D_X1_countRank_4_s).symm.trans hR
      refine lv_iload_n hx hb dX1_countRank_4 rfl (lv_at hl 0 rfl) ?_
      refine lv_aload_n hx hb dX1_countRank_5 rfl (lv_at hl 2 rfl) ?_
      refine gf hX hB cw3 rfl in1 0 (by decide) wm_1_95 rfl rfl dX1_countRank_6 ?_
      refine gfN hX hB (cwG (i := 8) (by decide)) rfl in3 1 (by decide) wn_1_49 rfl rfl dX1_countRank_9 ?_
      refine lv_icmp_ge (tgt := 49) hx hb dX1_countRank_12 (by decide) (fun c11 => ?_) (fun c11 => ?_)
      · replace hR := ifp c11 hR
        refine lv_iload_n hx hb dX1_countRank_49 rfl (lv_at hl 1 rfl) ?_
        rw [← hQ]
        exact end_i hX hB hA3 rfl rfl (by obtain rfl := hR; exact ⟨rfl, rfl⟩) (Nat.le_of_ble_eq_true rfl) (Nat.le_of_ble_eq_true rfl) dX1_countRank_50
      · replace hR := ifn c11 hR
        refine lv_iload_n hx hb dX1_countRank_15 rfl (lv_at hl 0 rfl) ?_
        refine lv_aload_n hx hb dX1_countRank_16 rfl (lv_at hl 2 rfl) ?_
        refine gf hX hB cw3 rfl in1 0 (by decide) wm_1_95 rfl rfl dX1_countRank_17 ?_
        refine gfN hX hB (cwG (i := 8) (by decide)) rfl in3 2 (by decide) wn_1_54 rfl rfl dX1_countRank_20 ?_
        refine lv_icmp_ge (tgt := 49) hx hb dX1_countRank_23 (by decide) (fun c12 => ?_) (fun c12 => ?_)
        · replace hR := ifp c12 hR
          refine lv_iload_n hx hb dX1_countRank_49 rfl (lv_at hl 1 rfl) ?_
          rw [← hQ]
          exact end_i hX hB hA3 rfl rfl (by obtain rfl := hR; exact ⟨rfl, rfl⟩) (Nat.le_of_ble_eq_true rfl) (Nat.le_of_ble_eq_true rfl) dX1_countRank_50
        · replace hR := ifn c12 hR
          refine lv_aload_n hx hb dX1_countRank_26 rfl (lv_at hl 2 rfl) ?_
          refine gf hX hB cw3 rfl in1 0 (by decide) wm_1_95 rfl rfl dX1_countRank_27 ?_
          refine lv_iload_n hx hb dX1_countRank_30 rfl (lv_at hl 0 rfl) ?_
          refine lv_iload_n hx hb dX1_countRank_31 rfl (lv_at hl 0 rfl) ?_
          obtain ⟨x14, hd13⟩ := ex1 (D_X3_get r q f 8 y2_4 y2_4)
          replace hR := bnd1_use hd13 hR
          refine call_V (n := 2) (As := [.int y2_4, .int y2_4]) (rest := []) hX hB (k_X3_get κ l a r q f 8 y2_4 y2_4 (by decide) x14 hd13) ⟨rfl, yk_X3_get⟩ wm_2_87 wm_1_187 wm_1_188 wm_1_2 wm_1_189 ⟨Nat.le_of_ble_eq_true rfl, Nat.le_of_ble_eq_true rfl⟩ ⟨Nat.le_of_ble_eq_true rfl, Nat.le_of_ble_eq_true rfl⟩ (cwG (i := 8) (by decide)) rfl rfl rfl hl.1 rfl (Nat.le_of_ble_eq_true rfl) dX1_countRank_32 (fun o w' H locs hp hB => ?_)
          obtain ⟨rfl, rfl⟩ := hp
          refine W.eq (g2 := F0 m 35 ls [.long x14]) rfl ?_
          refine lv_lconst (v := 0) hx hb dX1_countRank_35 (by decide) ?_
          refine W.lcmp hx hb dX1_countRank_36 ?_
          refine lv_if_eq (tgt := 43) hx hb dX1_countRank_37 (by decide) (fun c15 => ?_) (fun c15 => ?_)
          · replace hR := ifp c15 hR
            refine lv_iinc (v := y2_4 + 1) (lv' := [(2, .int (y2_4 + 1)), (1, .int y1_4), (0, .ref (a 3))]) hx hb dX1_countRank_43 hl (k := 0) rfl rfl (by decide) rfl (fun ls hl => ?_)
            refine lv_goto (tgt := 4) hx hb dX1_countRank_46 (by decide) ?_
            exact ih4 (y2_4 + 1) y1_4 _ _  (gap_step c11 hμ4) hR hB _ hl
          · replace hR := ifn c15 hR
            refine lv_iinc (v := y1_4 + 1) (lv' := [(1, .int (y1_4 + 1)), (2, .int y2_4), (0, .ref (a 3))]) hx hb dX1_countRank_40 hl (k := 1) rfl rfl (by decide) rfl (fun ls hl => ?_)
            refine lv_iinc (v := y2_4 + 1) (lv' := [(2, .int (y2_4 + 1)), (1, .int (y1_4 + 1)), (0, .ref (a 3))]) hx hb dX1_countRank_43 hl (k := 1) rfl rfl (by decide) rfl (fun ls hl => ?_)
            refine lv_goto (tgt := 4) hx hb dX1_countRank_46 (by decide) ?_
            exact ih4 (y2_4 + 1) (y1_4 + 1) _ _  (gap_step c11 hμ4) hR hB _ hl
  exact lp4 _ 0 0 _ _  (Nat.lt_succ_self _) hR hB _ hl
noncomputable def D_X2_divide_j82 (r14 : Nat → Int32) (q16 : Nat → Int32) (x20 : Int32) (lb48 : Int32 → (Nat → Nat → Int64) → Int32 × (Nat → Int32) × (Nat → Int32) × (Nat → Nat → Int64)) (y5_48 : Int32) (f_48 : Nat → Nat → Int64) (z0_82 : Int64) : Int32 × (Nat → Int32) × (Nat → Int32) × (Nat → Nat → Int64) := bnd1 (D_X3_get r14 q16 f_48 12 y5_48 0) (fun (x64 : Int64) => bnd1 (D_X5_divides z0_82 x64) (fun (x65 : Int32) => (if x65 = 0 then (0, r14, q16, f_48) else (if x20 ≤ y5_48 then (lb48 (y5_48 + 1) f_48) else bnd1 (D_X3_get r14 q16 f_48 12 y5_48 0) (fun (x70 : Int64) => bnd1 (D_X5_divideDown x70 z0_82) (fun (x71 : Int64) => bnd1 (D_X3_set r14 q16 f_48 13 y5_48 0 x71) (fun (f74 : Nat → Nat → Int64) => (lb48 (y5_48 + 1) f74))))))))
theorem D_X2_divide_j82_s {r14 : Nat → Int32} {q16 : Nat → Int32} {x20 : Int32} {lb48 : Int32 → (Nat → Nat → Int64) → Int32 × (Nat → Int32) × (Nat → Int32) × (Nat → Nat → Int64)} {y5_48 : Int32} {f_48 : Nat → Nat → Int64} {z0_82 : Int64} : D_X2_divide_j82 r14 q16 x20 lb48 y5_48 f_48 z0_82 = bnd1 (D_X3_get r14 q16 f_48 12 y5_48 0) (fun (x64 : Int64) => bnd1 (D_X5_divides z0_82 x64) (fun (x65 : Int32) => (if x65 = 0 then (0, r14, q16, f_48) else (if x20 ≤ y5_48 then (lb48 (y5_48 + 1) f_48) else bnd1 (D_X3_get r14 q16 f_48 12 y5_48 0) (fun (x70 : Int64) => bnd1 (D_X5_divideDown x70 z0_82) (fun (x71 : Int64) => bnd1 (D_X3_set r14 q16 f_48 13 y5_48 0 x71) (fun (f74 : Nat → Nat → Int64) => (lb48 (y5_48 + 1) f74)))))))) := rfl
noncomputable def D_X2_divide_48 (r14 : Nat → Int32) (q16 : Nat → Int32) (x20 : Int32) (nn : Nat) : Int32 → (Nat → Nat → Int64) → Int32 × (Nat → Int32) × (Nat → Int32) × (Nat → Nat → Int64) := @Nat.rec (fun _ => Int32 → (Nat → Nat → Int64) → Int32 × (Nat → Int32) × (Nat → Int32) × (Nat → Nat → Int64)) (fun _ _ => default) (fun _ lb48 (y5_48 : Int32) (f_48 : Nat → Nat → Int64) => (if (r14 (2 * 12)) ≤ y5_48 then (1, r14, q16, f_48) else (if x20 ≤ y5_48 then (D_X2_divide_j82 r14 q16 x20 lb48 y5_48 f_48 0) else bnd1 (D_X3_get r14 q16 f_48 8 y5_48 y5_48) (fun (x77 : Int64) => (D_X2_divide_j82 r14 q16 x20 lb48 y5_48 f_48 x77))))) nn
theorem D_X2_divide_48_s {r14 : Nat → Int32} {q16 : Nat → Int32} {x20 : Int32} {nn : Nat} {y5_48 : Int32} {f_48 : Nat → Nat → Int64} : D_X2_divide_48 r14 q16 x20 (nn + 1) y5_48 f_48 = (if (r14 (2 * 12)) ≤ y5_48 then (1, r14, q16, f_48) else (if x20 ≤ y5_48 then (D_X2_divide_j82 r14 q16 x20 (D_X2_divide_48 r14 q16 x20 nn) y5_48 f_48 0) else bnd1 (D_X3_get r14 q16 f_48 8 y5_48 y5_48) (fun (x77 : Int64) => (D_X2_divide_j82 r14 q16 x20 (D_X2_divide_48 r14 q16 x20 nn) y5_48 f_48 x77)))) := rfl
noncomputable def D_X2_divide (r : Nat → Int32) (q : Nat → Int32) (f : Nat → Nat → Int64) (j : Nat) (p0 : Int32) : Int32 × (Nat → Int32) × (Nat → Int32) × (Nat → Nat → Int64) := bnd3 (D_X3_becomeColumn r q f 11 j p0) (fun (r2 : Nat → Int32) (q4 : Nat → Int32) (f6 : Nat → Nat → Int64) => bnd3 (D_X3_becomeProduct r2 q4 f6 12 9 11) (fun (r8 : Nat → Int32) (q10 : Nat → Int32) (f12 : Nat → Nat → Int64) => bnd3 (D_X3_reshape r8 q10 f12 13 (r8 (2 * 8 + 1)) 1) (fun (r14 : Nat → Int32) (q16 : Nat → Int32) (f18 : Nat → Nat → Int64) => bnd1 (D_X1_countRank r14 q16 f18) (fun (x20 : Int32) => (D_X2_divide_48 r14 q16 x20 (gap (r14 (2 * 12)) 0 + 1) 0 f18)))))
theorem D_X2_divide_s {r : Nat → Int32} {q : Nat → Int32} {f : Nat → Nat → Int64} {j : Nat} {p0 : Int32} : D_X2_divide r q f j p0 = bnd3 (D_X3_becomeColumn r q f 11 j p0) (fun (r2 : Nat → Int32) (q4 : Nat → Int32) (f6 : Nat → Nat → Int64) => bnd3 (D_X3_becomeProduct r2 q4 f6 12 9 11) (fun (r8 : Nat → Int32) (q10 : Nat → Int32) (f12 : Nat → Nat → Int64) => bnd3 (D_X3_reshape r8 q10 f12 13 (r8 (2 * 8 + 1)) 1) (fun (r14 : Nat → Int32) (q16 : Nat → Int32) (f18 : Nat → Nat → Int64) => bnd1 (D_X1_countRank r14 q16 f18) (fun (x20 : Int32) => (D_X2_divide_48 r14 q16 x20 (gap (r14 (2 * 12)) 0 + 1) 0 f18))))) := rfl
set_option maxHeartbeats 4000000 in
set_option maxRecDepth 100000 in
theorem k_X2_divide (κ : Kt) (l : Launch) (a : Nat → Nat) (r q : Nat → Int32) (f : Nat → Nat → Int64) (j : Nat) (p0 : Int32) (hj : j < 15) (o_x : Int32) (o_r : Nat → Int32) (o_q : Nat → Int32) (o_f : Nat → Nat → Int64) (hR : D_X2_divide r q f j p0 = (o_x, o_r, o_q, o_f)) : CM κ l yX2_divide cX2_divide 8 (some .boolean) 3 71 0 0 [.ref (a 4), .ref (a 3), .ref (a (6 + 2 * j)), .int p0] (cw κ a r q f) (fun o w' => o = some (.int o_x) ∧ (o_x = 0 ∨ o_x = 1) ∧ (okr r → okr o_r) ∧ o_q 4 = q 4 ∧ w' = cw κ a o_r o_q o_f) := by
  refine CM_begin (plainFor_of_name pn_RX2) (Nat.le_of_ble_eq_true rfl) ?_
  intro p e s m args below meth c A Q hX hnm hA3 hQ hB ls hl
  have hx := hX.1.1
  have hb := hX.1.2.1
  have hl : lv_has ls 8 [(0, .ref (a 4)), (1, .ref (a 3)), (2, .ref (a (6 + 2 * j))), (3, .int p0)] := hl
  replace hR := (D_X2_divide_s).symm.trans hR
  refine lv_aload_n hx hb dX2_divide_0 rfl (lv_at hl 0 rfl) ?_
  refine gf hX hB cw4 rfl in2 0 (by decide) wm_1_123 rfl rfl dX2_divide_1 ?_
  refine lv_aload_n hx hb dX2_divide_4 rfl (lv_at hl 2 rfl) ?_
  refine lv_iload_n hx hb dX2_divide_5 rfl (lv_at hl 3 rfl) ?_
  obtain ⟨r2, q4, f6, hd1⟩ := ex3 (D_X3_becomeColumn r q f 11 j p0)
  replace hR := bnd3_use hd1 hR
  refine call_V (n := 2) (As := [.ref (a (6 + 2 * j)), .int p0]) (rest := []) hX hB (k_X3_becomeColumn κ l a r q f 11 j p0 (by decide) hj r2 q4 f6 hd1) ⟨rfl, yk_X3_becomeColumn⟩ wm_3_189 wm_3_190 wm_3_191 wm_1_2 wm_3_192 ⟨Nat.le_of_ble_eq_true rfl, Nat.le_of_ble_eq_true rfl⟩ ⟨Nat.le_of_ble_eq_true rfl, Nat.le_of_ble_eq_true rfl⟩ (cwG (i := 11) (by decide)) rfl rfl rfl hl.1 rfl (Nat.le_of_ble_eq_true rfl) dX2_divide_6 (fun o w' H locs hp hB => ?_)
  obtain ⟨rfl, ho3, hq5, rfl⟩ := hp
  refine W.eq (g2 := F0 m 9 ls []) rfl ?_
  refine lv_aload_n hx hb dX2_divide_9 rfl (lv_at hl 0 rfl) ?_
  refine gf hX hB cw4 rfl in2 1 (by decide) wm_1_124 rfl rfl dX2_divide_10 ?_
  refine lv_aload_n hx hb dX2_divide_13 rfl (lv_at hl 1 rfl) ?_
  refine gfN hX hB cw3 rfl in1 1 (by decide) wn_1_99 rfl rfl dX2_divide_14 ?_
  refine lv_aload_n hx hb dX2_divide_17 rfl (lv_at hl 0 rfl) ?_
  refine gf hX hB cw4 rfl in2 0 (by decide) wm_1_123 rfl rfl dX2_divide_18 ?_
  obtain ⟨r8, q10, f12, hd7⟩ := ex3 (D_X3_becomeProduct r2 q4 f6 12 9 11)
  replace hR := bnd3_use hd7 hR
  refine call_V (n := 2) (As := [.ref (a 24), .ref (a 28)]) (rest := []) hX hB (k_X3_becomeProduct κ l a r2 q4 f6 12 9 11 (by decide) (by decide) (by decide) r8 q10 f12 hd7) ⟨rfl, yk_X3_becomeProduct⟩ wm_3_193 wm_2_41 wm_2_42 wm_1_2 wm_2_43 ⟨Nat.le_of_ble_eq_true rfl, Nat.le_of_ble_eq_true rfl⟩ ⟨Nat.le_of_ble_eq_true rfl, Nat.le_of_ble_eq_true rfl⟩ (cwG (i := 12) (by decide)) rfl rfl rfl hl.1 rfl (Nat.le_of_ble_eq_true rfl) dX2_divide_21 (fun o w' H locs hp hB => ?_)
  obtain ⟨rfl, ho9, hq11, rfl⟩ := hp
  refine W.eq (g2 := F0 m 24 ls []) rfl ?_
  refine lv_aload_n hx hb dX2_divide_24 rfl (lv_at hl 0 rfl) ?_
  refine gf hX hB cw4 rfl in2 2 (by decide) wm_1_125 rfl rfl dX2_divide_25 ?_
  refine lv_aload_n hx hb dX2_divide_28 rfl (lv_at hl 1 rfl) ?_
  refine gfN hX hB cw3 rfl in1 0 (by decide) wn_1_96 rfl rfl dX2_divide_29 ?_
  refine gfN hX hB (cwG (i := 8) (by decide)) rfl in3 2 (by decide) wn_1_55 rfl rfl dX2_divide_32 ?_
  refine lv_iconst (v := 1) hx hb dX2_divide_35 (by decide) ?_
  obtain ⟨r14, q16, f18, hd13⟩ := ex3 (D_X3_reshape r8 q10 f12 13 (r8 (2 * 8 + 1)) 1)
  replace hR := bnd3_use hd13 hR
  refine call_V (n := 2) (As := [.int (r8 (2 * 8 + 1)), .int 1]) (rest := []) hX hB (k_X3_reshape κ l a r8 q10 f12 13 (r8 (2 * 8 + 1)) 1 (by decide) r14 q16 f18 hd13) ⟨rfl, yk_X3_reshape⟩ wm_3_194 wm_1_213 wm_1_214 wm_1_2 wm_1_215 ⟨Nat.le_of_ble_eq_true rfl, Nat.le_of_ble_eq_true rfl⟩ ⟨Nat.le_of_ble_eq_true rfl, Nat.le_of_ble_eq_true rfl⟩ (cwG (i := 13) (by decide)) rfl rfl rfl hl.1 rfl (Nat.le_of_ble_eq_true rfl) dX2_divide_36 (fun o w' H locs hp hB => ?_)
  obtain ⟨rfl, ho15, hq17, rfl⟩ := hp
  refine W.eq (g2 := F0 m 39 ls []) rfl ?_
  refine lv_aload_n hx hb dX2_divide_39 rfl (lv_at hl 1 rfl) ?_
  obtain ⟨x20, hd19⟩ := ex1 (D_X1_countRank r14 q16 f18)
  replace hR := bnd1_use hd19 hR
  refine call_V (n := 0) (As := []) (rest := []) hX hB (k_X1_countRank κ l a r14 q16 f18 x20 hd19) ⟨rfl, yk_X1_countRank⟩ wm_3_195 wm_3_196 wm_3_197 wm_1_4 wm_3_198 ⟨Nat.le_of_ble_eq_true rfl, Nat.le_of_ble_eq_true rfl⟩ ⟨Nat.le_of_ble_eq_true rfl, Nat.le_of_ble_eq_true rfl⟩ cw3 rfl rfl rfl hl.1 rfl (Nat.le_of_ble_eq_true rfl) dX2_divide_40 (fun o w' H locs hp hB => ?_)
  obtain ⟨rfl, rfl⟩ := hp
  refine W.eq (g2 := F0 m 43 ls [.int x20]) rfl ?_
  refine lv_istore (lv' := [(4, .int x20), (0, .ref (a 4)), (1, .ref (a 3)), (2, .ref (a (6 + 2 * j))), (3, .int p0)]) hx hb dX2_divide_43 hl (by decide) rfl (fun ls hl => ?_)
  refine lv_iconst (v := 0) hx hb dX2_divide_45 (by decide) ?_
  refine lv_istore (lv' := [(5, .int 0), (4, .int x20), (0, .ref (a 4)), (1, .ref (a 3)), (2, .ref (a (6 + 2 * j))), (3, .int p0)]) hx hb dX2_divide_46 hl (by decide) rfl (fun ls hl => ?_)
  have lp48 : ∀ (nn48 : Nat) (y5_48 : Int32) (f_48 : Nat → Nat → Int64) (H : Heap) (locs : List Loc), gap (r14 (2 * 12)) y5_48 < nn48 → D_X2_divide_48 r14 q16 x20 nn48 y5_48 f_48 = (o_x, o_r, o_q, o_f) → Bd κ A s (cw κ a r14 q16 f_48) H locs → ∀ ls : Array Slot, lv_has ls 8 [(5, .int y5_48), (4, .int x20), (0, .ref (a 4)), (1, .ref (a 3)), (2, .ref (a (6 + 2 * j))), (3, .int p0)] → W p l e (Rm 3 71 0 0) s m args below meth c H locs 0 0 Q (F0 m 48 ls []) := by
    intro nn48
    induction nn48 with
    | zero => intro y5_48 f_48 H locs hμ; exact absurd hμ (Nat.not_lt_zero _)
    | succ nn48 ih48 =>
      intro y5_48 f_48 H locs hμ48 hR hB ls hl
      replace hR := (D_X2_divide_48_s).symm.trans hR
      refine lv_iload hx hb dX2_divide_48 (lv_at hl 0 rfl) ?_
      refine lv_aload_n hx hb dX2_divide_50 rfl (lv_at hl 2 rfl) ?_
      refine gf hX hB cw4 rfl in2 1 (by decide) wm_1_124 rfl rfl dX2_divide_51 ?_
      refine gfN hX hB (cwG (i := 12) (by decide)) rfl in3 1 (by decide) wn_1_50 rfl rfl dX2_divide_54 ?_
      refine lv_icmp_ge (tgt := 142) hx hb dX2_divide_57 (by decide) (fun c59 => ?_) (fun c59 => ?_)
      · replace hR := ifp c59 hR
        refine lv_iconst (v := 1) hx hb dX2_divide_142 (by decide) ?_
        rw [← hQ]
        exact end_i hX hB hA3 rfl rfl (by obtain ⟨rfl, rfl, rfl, rfl⟩ := pr4 hR; exact ⟨rfl, Or.inr rfl, (fun h => ho15 ((fun h => ho9 ((fun h => ho3 ((fun h => h) h)) h)) h)), (hq17.trans (hq11.trans (hq5.trans rfl))), rfl⟩) (Nat.le_of_ble_eq_true rfl) (Nat.le_of_ble_eq_true rfl) dX2_divide_143
      · replace hR := ifn c59 hR
        refine lv_iload hx hb dX2_divide_60 (lv_at hl 0 rfl) ?_
        refine lv_iload hx hb dX2_divide_62 (lv_at hl 1 rfl) ?_
        have jn82 : ∀ (z0_82 : Int64) (H : Heap) (locs : List Loc), D_X2_divide_j82 r14 q16 x20 (D_X2_divide_48 r14 q16 x20 nn48) y5_48 f_48 z0_82 = (o_x, o_r, o_q, o_f) → Bd κ A s (cw κ a r14 q16 f_48) H locs → ∀ ls : Array Slot, lv_has ls 8 [(5, .int y5_48), (4, .int x20), (0, .ref (a 4)), (1, .ref (a 3)), (2, .ref (a (6 + 2 * j))), (3, .int p0)] → W p l e (Rm 3 71 0 0) s m args below meth c H locs 0 0 Q (F0 m 82 ls [.long z0_82]) := by
          intro z0_82 H locs hR hB ls hl
          replace hR := (D_X2_divide_j82_s).symm.trans hR
          refine lv_lstore (lv' := [(6, .long z0_82), (5, .int y5_48), (4, .int x20), (0, .ref (a 4)), (1, .ref (a 3)), (2, .ref (a (6 + 2 * j))), (3, .int p0)]) hx hb dX2_divide_82 hl (by decide) rfl (fun ls hl => ?_)
          refine lv_lload hx hb dX2_divide_84 (lv_at hl 0 rfl) ?_
          refine lv_aload_n hx hb dX2_divide_86 rfl (lv_at hl 3 rfl) ?_
          refine gf hX hB cw4 rfl in2 1 (by decide) wm_1_124 rfl rfl dX2_divide_87 ?_
          refine lv_iload hx hb dX2_divide_90 (lv_at hl 1 rfl) ?_
          refine lv_iconst (v := 0) hx hb dX2_divide_92 (by decide) ?_
          obtain ⟨x64, hd63⟩ := ex1 (D_X3_get r14 q16 f_48 12 y5_48 0)
          replace hR := bnd1_use hd63 hR
          refine call_V (n := 2) (As := [.int y5_48, .int 0]) (rest := [.long z0_82]) hX hB (k_X3_get κ l a r14 q16 f_48 12 y5_48 0 (by decide) x64 hd63) ⟨rfl, yk_X3_get⟩ wm_3_199 wm_1_187 wm_1_188 wm_1_2 wm_1_189 ⟨Nat.le_of_ble_eq_true rfl, Nat.le_of_ble_eq_true rfl⟩ ⟨Nat.le_of_ble_eq_true rfl, Nat.le_of_ble_eq_true rfl⟩ (cwG (i := 12) (by decide)) rfl rfl rfl hl.1 rfl (Nat.le_of_ble_eq_true rfl) dX2_divide_93 (fun o w' H locs hp hB => ?_)
          obtain ⟨rfl, rfl⟩ := hp
          refine W.eq (g2 := F0 m 96 ls [.long x64, .long z0_82]) rfl ?_
          obtain ⟨x65, hd66⟩ := ex1 (D_X5_divides z0_82 x64)
          replace hR := bnd1_use hd66 hR
          refine call_SN (n := 2) (As := [.long z0_82, .long x64]) (rest := []) hX hB (k_X5_divides κ l (cw κ a r14 q16 f_48) z0_82 x64  x65 hd66) yk_X5_divides wn_3_200 wm_2_116 wm_1_1 wm_2_117 ⟨Nat.le_of_ble_eq_true rfl, Nat.le_of_ble_eq_true rfl⟩ ⟨Nat.le_of_ble_eq_true rfl, Nat.le_of_ble_eq_true rfl⟩ rfl hl.1 rfl (Nat.le_of_ble_eq_true rfl) dX2_divide_96 (fun o w' H locs hp hB => ?_)
          obtain ⟨rfl, bx65, hw9⟩ := hp
          rw [hw9] at hB
          refine W.eq (g2 := F0 m 99 ls [.int x65]) rfl ?_
          refine lv_if_ne (tgt := 104) hx hb dX2_divide_99 (by decide) (fun c67 => ?_) (fun c67 => ?_)
          · replace hR := ifn c67 hR
            refine lv_iload hx hb dX2_divide_104 (lv_at hl 1 rfl) ?_
            refine lv_iload hx hb dX2_divide_106 (lv_at hl 2 rfl) ?_
            refine lv_icmp_ge (tgt := 136) hx hb dX2_divide_108 (by decide) (fun c68 => ?_) (fun c68 => ?_)
            · replace hR := ifp c68 hR
              refine lv_iinc (v := y5_48 + 1) (lv' := [(5, .int (y5_48 + 1)), (6, .long z0_82), (4, .int x20), (0, .ref (a 4)), (1, .ref (a 3)), (2, .ref (a (6 + 2 * j))), (3, .int p0)]) hx hb dX2_divide_136 hl (k := 1) rfl rfl (by decide) rfl (fun ls hl => ?_)
              refine lv_goto (tgt := 48) hx hb dX2_divide_139 (by decide) ?_
              exact ih48 (y5_48 + 1) f_48 _ _  (gap_step c59 hμ48) hR hB _ (lv_sub hl [0, 2, 3, 4, 5, 6] rfl)
            · replace hR := ifn c68 hR
              refine lv_aload_n hx hb dX2_divide_111 rfl (lv_at hl 3 rfl) ?_
              refine gf hX hB cw4 rfl in2 2 (by decide) wm_1_125 rfl rfl dX2_divide_112 ?_
              refine lv_iload hx hb dX2_divide_115 (lv_at hl 1 rfl) ?_
              refine lv_iconst (v := 0) hx hb dX2_divide_117 (by decide) ?_
              refine lv_aload_n hx hb dX2_divide_118 rfl (lv_at hl 3 rfl) ?_
              refine gf hX hB cw4 rfl in2 1 (by decide) wm_1_124 rfl rfl dX2_divide_119 ?_
              refine lv_iload hx hb dX2_divide_122 (lv_at hl 1 rfl) ?_
              refine lv_iconst (v := 0) hx hb dX2_divide_124 (by decide) ?_
              obtain ⟨x70, hd69⟩ := ex1 (D_X3_get r14 q16 f_48 12 y5_48 0)
              replace hR := bnd1_use hd69 hR
              refine call_V (n := 2) (As := [.int y5_48, .int 0]) (rest := [.int 0, .int y5_48, .ref (a 32)]) hX hB (k_X3_get κ l a r14 q16 f_48 12 y5_48 0 (by decide) x70 hd69) ⟨rfl, yk_X3_get⟩ wm_3_199 wm_1_187 wm_1_188 wm_1_2 wm_1_189 ⟨Nat.le_of_ble_eq_true rfl, Nat.le_of_ble_eq_true rfl⟩ ⟨Nat.le_of_ble_eq_true rfl, Nat.le_of_ble_eq_true rfl⟩ (cwG (i := 12) (by decide)) rfl rfl rfl hl.1 rfl (Nat.le_of_ble_eq_true rfl) dX2_divide_125 (fun o w' H locs hp hB => ?_)
              obtain ⟨rfl, rfl⟩ := hp
              refine W.eq (g2 := F0 m 128 ls [.long x70, .int 0, .int y5_48, .ref (a 32)]) rfl ?_
              refine lv_lload hx hb dX2_divide_128 (lv_at hl 0 rfl) ?_
              obtain ⟨x71, hd72⟩ := ex1 (D_X5_divideDown x70 z0_82)
              replace hR := bnd1_use hd72 hR
              refine call_SN (n := 2) (As := [.long x70, .long z0_82]) (rest := [.int 0, .int y5_48, .ref (a 32)]) hX hB (k_X5_divideDown κ l (cw κ a r14 q16 f_48) x70 z0_82  x71 hd72) yk_X5_divideDown wn_3_201 wm_2_17 wm_1_1 wm_2_18 ⟨Nat.le_of_ble_eq_true rfl, Nat.le_of_ble_eq_true rfl⟩ ⟨Nat.le_of_ble_eq_true rfl, Nat.le_of_ble_eq_true rfl⟩ rfl hl.1 rfl (Nat.le_of_ble_eq_true rfl) dX2_divide_130 (fun o w' H locs hp hB => ?_)
              obtain ⟨rfl, hw9⟩ := hp
              rw [hw9] at hB
              refine W.eq (g2 := F0 m 133 ls [.long x71, .int 0, .int y5_48, .ref (a 32)]) rfl ?_
              obtain ⟨f74, hd73⟩ := ex1 (D_X3_set r14 q16 f_48 13 y5_48 0 x71)
              replace hR := bnd1_use hd73 hR
              refine call_V (n := 3) (As := [.int y5_48, .int 0, .long x71]) (rest := []) hX hB (k_X3_set κ l a r14 q16 f_48 13 y5_48 0 x71 (by decide) f74 hd73) ⟨rfl, yk_X3_set⟩ wm_3_202 wm_1_223 wm_1_224 wm_1_2 wm_1_225 ⟨Nat.le_of_ble_eq_true rfl, Nat.le_of_ble_eq_true rfl⟩ ⟨Nat.le_of_ble_eq_true rfl, Nat.le_of_ble_eq_true rfl⟩ (cwG (i := 13) (by decide)) rfl rfl rfl hl.1 rfl (Nat.le_of_ble_eq_true rfl) dX2_divide_133 (fun o w' H locs hp hB => ?_)
              obtain ⟨rfl, rfl⟩ := hp
              refine W.eq (g2 := F0 m 136 ls []) rfl ?_
              refine lv_iinc (v := y5_48 + 1) (lv' := [(5, .int (y5_48 + 1)), (6, .long z0_82), (4, .int x20), (0, .ref (a 4)), (1, .ref (a 3)), (2, .ref (a (6 + 2 * j))), (3, .int p0)]) hx hb dX2_divide_136 hl (k := 1) rfl rfl (by decide) rfl (fun ls hl => ?_)
              refine lv_goto (tgt := 48) hx hb dX2_divide_139 (by decide) ?_
              exact ih48 (y5_48 + 1) f74 _ _  (gap_step c59 hμ48) hR hB _ (lv_sub hl [0, 2, 3, 4, 5, 6] rfl)
          · replace hR := ifp c67 hR
            refine lv_iconst (v := 0) hx hb dX2_divide_102 (by decide) ?_
            rw [← hQ]
            exact end_i hX hB hA3 rfl rfl (by obtain ⟨rfl, rfl, rfl, rfl⟩ := pr4 hR; exact ⟨rfl, Or.inl rfl, (fun h => ho15 ((fun h => ho9 ((fun h => ho3 ((fun h => h) h)) h)) h)), (hq17.trans (hq11.trans (hq5.trans rfl))), rfl⟩) (Nat.le_of_ble_eq_true rfl) (Nat.le_of_ble_eq_true rfl) dX2_divide_103
        refine lv_icmp_ge (tgt := 81) hx hb dX2_divide_64 (by decide) (fun c75 => ?_) (fun c75 => ?_)
        · replace hR := ifp c75 hR
          refine lv_lconst (v := 0) hx hb dX2_divide_81 (by decide) ?_
          exact jn82 0 _ _  hR hB _ hl
        · replace hR := ifn c75 hR
          refine lv_aload_n hx hb dX2_divide_67 rfl (lv_at hl 3 rfl) ?_
          refine gfN hX hB cw3 rfl in1 0 (by decide) wn_1_96 rfl rfl dX2_divide_68 ?_
          refine lv_iload hx hb dX2_divide_71 (lv_at hl 0 rfl) ?_
          refine lv_iload hx hb dX2_divide_73 (lv_at hl 0 rfl) ?_
          obtain ⟨x77, hd76⟩ := ex1 (D_X3_get r14 q16 f_48 8 y5_48 y5_48)
          replace hR := bnd1_use hd76 hR
          refine call_V (n := 2) (As := [.int y5_48, .int y5_48]) (rest := []) hX hB (k_X3_get κ l a r14 q16 f_48 8 y5_48 y5_48 (by decide) x77 hd76) ⟨rfl, yk_X3_get⟩ wm_3_199 wm_1_187 wm_1_188 wm_1_2 wm_1_189 ⟨Nat.le_of_ble_eq_true rfl, Nat.le_of_ble_eq_true rfl⟩ ⟨Nat.le_of_ble_eq_true rfl, Nat.le_of_ble_eq_true rfl⟩ (cwG (i := 8) (by decide)) rfl rfl rfl hl.1 rfl (Nat.le_of_ble_eq_true rfl) dX2_divide_75 (fun o w' H locs hp hB => ?_)
          obtain ⟨rfl, rfl⟩ := hp
          refine W.eq (g2 := F0 m 78 ls [.long x77]) rfl ?_
          refine lv_goto (tgt := 82) hx hb dX2_divide_78 (by decide) ?_
          exact jn82 x77 _ _  hR hB _ hl
  exact lp48 _ 0 f18 _ _  (Nat.lt_succ_self _) hR hB _ hl
noncomputable def D_X2_findSolution (r : Nat → Int32) (q : Nat → Int32) (f : Nat → Nat → Int64) : Int32 × (Nat → Int32) × (Nat → Int32) × (Nat → Nat → Int64) := bnd1 (D_X3_isWithin r q f 13 1000000000) (fun (x2 : Int32) => (if x2 = 0 then (0, r, q, f) else bnd3 (D_X3_becomeProduct r q f 14 10 13) (fun (r5 : Nat → Int32) (q7 : Nat → Int32) (f9 : Nat → Nat → Int64) => bnd1 (D_X3_isWithin r5 q7 f9 14 1000000000) (fun (x11 : Int32) => (x11, r5, q7, f9)))))
theorem D_X2_findSolution_s {r : Nat → Int32} {q : Nat → Int32} {f : Nat → Nat → Int64} : D_X2_findSolution r q f = bnd1 (D_X3_isWithin r q f 13 1000000000) (fun (x2 : Int32) => (if x2 = 0 then (0, r, q, f) else bnd3 (D_X3_becomeProduct r q f 14 10 13) (fun (r5 : Nat → Int32) (q7 : Nat → Int32) (f9 : Nat → Nat → Int64) => bnd1 (D_X3_isWithin r5 q7 f9 14 1000000000) (fun (x11 : Int32) => (x11, r5, q7, f9))))) := rfl
set_option maxHeartbeats 4000000 in
set_option maxRecDepth 100000 in
theorem k_X2_findSolution (κ : Kt) (l : Launch) (a : Nat → Nat) (r q : Nat → Int32) (f : Nat → Nat → Int64)  (o_x : Int32) (o_r : Nat → Int32) (o_q : Nat → Int32) (o_f : Nat → Nat → Int64) (hR : D_X2_findSolution r q f = (o_x, o_r, o_q, o_f)) : CM κ l yX2_findSolution cX2_findSolution 2 (some .boolean) 3 71 0 0 [.ref (a 4), .ref (a 3)] (cw κ a r q f) (fun o w' => o = some (.int o_x) ∧ (o_x = 0 ∨ o_x = 1) ∧ (okr r → okr o_r) ∧ o_q 4 = q 4 ∧ w' = cw κ a o_r o_q o_f) := by
  refine CM_begin (plainFor_of_name pn_RX2) (Nat.le_of_ble_eq_true rfl) ?_
  intro p e s m args below meth c A Q hX hnm hA3 hQ hB ls hl
  have hx := hX.1.1
  have hb := hX.1.2.1
  have hl : lv_has ls 2 [(0, .ref (a 4)), (1, .ref (a 3))] := hl
  replace hR := (D_X2_findSolution_s).symm.trans hR
  refine lv_aload_n hx hb dX2_findSolution_0 rfl (lv_at hl 0 rfl) ?_
  refine gf hX hB cw4 rfl in2 2 (by decide) wm_1_125 rfl rfl dX2_findSolution_1 ?_
  refine lv_ldc2 (own := RX2) (v := 1000000000) hx hb hX.1.2.2.2.1 (hX.1.2.2.2.2 _ wm_3_207) dX2_findSolution_4 ?_
  obtain ⟨x2, hd1⟩ := ex1 (D_X3_isWithin r q f 13 1000000000)
  replace hR := bnd1_use hd1 hR
  refine call_V (n := 1) (As := [.long 1000000000]) (rest := []) hX hB (k_X3_isWithin κ l a r q f 13 1000000000 (by decide) x2 hd1) ⟨rfl, yk_X3_isWithin⟩ wm_3_208 wm_2_28 wm_2_29 wm_1_2 wm_2_30 ⟨Nat.le_of_ble_eq_true rfl, Nat.le_of_ble_eq_true rfl⟩ ⟨Nat.le_of_ble_eq_true rfl, Nat.le_of_ble_eq_true rfl⟩ (cwG (i := 13) (by decide)) rfl rfl rfl hl.1 rfl (Nat.le_of_ble_eq_true rfl) dX2_findSolution_7 (fun o w' H locs hp hB => ?_)
  obtain ⟨rfl, bx2, rfl⟩ := hp
  refine W.eq (g2 := F0 m 10 ls [.int x2]) rfl ?_
  refine lv_if_ne (tgt := 15) hx hb dX2_findSolution_10 (by decide) (fun c3 => ?_) (fun c3 => ?_)
  · replace hR := ifn c3 hR
    refine lv_aload_n hx hb dX2_findSolution_15 rfl (lv_at hl 0 rfl) ?_
    refine gf hX hB cw4 rfl in2 3 (by decide) wm_1_126 rfl rfl dX2_findSolution_16 ?_
    refine lv_aload_n hx hb dX2_findSolution_19 rfl (lv_at hl 1 rfl) ?_
    refine gfN hX hB cw3 rfl in1 2 (by decide) wn_1_102 rfl rfl dX2_findSolution_20 ?_
    refine lv_aload_n hx hb dX2_findSolution_23 rfl (lv_at hl 0 rfl) ?_
    refine gf hX hB cw4 rfl in2 2 (by decide) wm_1_125 rfl rfl dX2_findSolution_24 ?_
    obtain ⟨r5, q7, f9, hd4⟩ := ex3 (D_X3_becomeProduct r q f 14 10 13)
    replace hR := bnd3_use hd4 hR
    refine call_V (n := 2) (As := [.ref (a 26), .ref (a 32)]) (rest := []) hX hB (k_X3_becomeProduct κ l a r q f 14 10 13 (by decide) (by decide) (by decide) r5 q7 f9 hd4) ⟨rfl, yk_X3_becomeProduct⟩ wm_3_193 wm_2_41 wm_2_42 wm_1_2 wm_2_43 ⟨Nat.le_of_ble_eq_true rfl, Nat.le_of_ble_eq_true rfl⟩ ⟨Nat.le_of_ble_eq_true rfl, Nat.le_of_ble_eq_true rfl⟩ (cwG (i := 14) (by decide)) rfl rfl rfl hl.1 rfl (Nat.le_of_ble_eq_true rfl) dX2_findSolution_27 (fun o w' H locs hp hB => ?_)
    obtain ⟨rfl, ho6, hq8, rfl⟩ := hp
    refine W.eq (g2 := F0 m 30 ls []) rfl ?_
    refine lv_aload_n hx hb dX2_findSolution_30 rfl (lv_at hl 0 rfl) ?_
    refine gf hX hB cw4 rfl in2 3 (by decide) wm_1_126 rfl rfl dX2_findSolution_31 ?_
    refine lv_ldc2 (own := RX2) (v := 1000000000) hx hb hX.1.2.2.2.1 (hX.1.2.2.2.2 _ wm_3_207) dX2_findSolution_34 ?_
    obtain ⟨x11, hd10⟩ := ex1 (D_X3_isWithin r5 q7 f9 14 1000000000)
    replace hR := bnd1_use hd10 hR
    refine call_V (n := 1) (As := [.long 1000000000]) (rest := []) hX hB (k_X3_isWithin κ l a r5 q7 f9 14 1000000000 (by decide) x11 hd10) ⟨rfl, yk_X3_isWithin⟩ wm_3_208 wm_2_28 wm_2_29 wm_1_2 wm_2_30 ⟨Nat.le_of_ble_eq_true rfl, Nat.le_of_ble_eq_true rfl⟩ ⟨Nat.le_of_ble_eq_true rfl, Nat.le_of_ble_eq_true rfl⟩ (cwG (i := 14) (by decide)) rfl rfl rfl hl.1 rfl (Nat.le_of_ble_eq_true rfl) dX2_findSolution_37 (fun o w' H locs hp hB => ?_)
    obtain ⟨rfl, bx11, rfl⟩ := hp
    refine W.eq (g2 := F0 m 40 ls [.int x11]) rfl ?_
    rw [← hQ]
    exact end_i hX hB hA3 rfl (nbz (by assumption)) (by obtain ⟨rfl, rfl, rfl, rfl⟩ := pr4 hR; exact ⟨rfl, (by assumption), (fun h => ho6 ((fun h => h) h)), (hq8.trans rfl), rfl⟩) (Nat.le_of_ble_eq_true rfl) (Nat.le_of_ble_eq_true rfl) dX2_findSolution_40
  · replace hR := ifp c3 hR
    refine lv_iconst (v := 0) hx hb dX2_findSolution_13 (by decide) ?_
    rw [← hQ]
    exact end_i hX hB hA3 rfl rfl (by obtain ⟨rfl, rfl, rfl, rfl⟩ := pr4 hR; exact ⟨rfl, Or.inl rfl, (fun h => h), rfl, rfl⟩) (Nat.le_of_ble_eq_true rfl) (Nat.le_of_ble_eq_true rfl) dX2_findSolution_14
end
