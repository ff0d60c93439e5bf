theorem alenM {p : Program} {l : Launch} {e : Env} {R : Room} {s : State} {m : MethodId} {args : Array Value} {below : List Frame} {meth : Method} {c : Code} {H : Heap} {locs : List Loc} {cells slots : Nat} {Q : State → Prop} {κ : Kt} {cc : ByteArray} {nL : Nat} {own : String} {ret : Option FieldType} {A : Nat → Prop} {w : va_W} {pc : Nat} {ls : Array Slot} {rest : List Value} {k0 b n : Nat} {f : Nat → Option Nat} {v : Int32} (hX : Cx κ p m c cc nL s args own meth ret A) (hB : Bd κ A s w H locs) (he : w[k0]? = some (b, .inl (κ.2.1 2, n, .inr (.inr (.inr (.inr f)))))) (hv : Int32.ofNat n = v) (hdg : decode cc pc = .ok (.arraylength, 1))
    (kk : W p l e R s m args below meth c H locs cells slots Q (F0 m (pc + 1) ls (.int v :: rest))) : W p l e R s m args below meth c H locs cells slots Q (F0 m pc ls (.ref b :: rest)) :=
  va_alen (tys := tysK κ) (ty := .object "GridmenderModel$Grid") hX.1.1 hX.1.2.1 hX.2.1.1 hB.1 k0 2 he rfl hv hdg kk

set_option maxHeartbeats 4000000 in
set_option maxRecDepth 100000 in
theorem k_X10_shape (κ : Kt) (l : Launch) (w : va_W) (a r : Nat → Nat) (f : Nat → Nat → Int64) (q : Nat → Int32) (y : Int32) (c0 : Int32) (hm : mok r f) : CM κ l yX10_shape cX10_shape 3 (some .int) 2 44 0 0 [.ref (a 0), .int y, .int c0] (mw κ a r f q (tb a) w) (fun o w' => ∃ (x : Int32) (q' : Nat → Int32), o = some (.int x) ∧ (q' 2 = q 2) ∧ w' = mw κ a r f q' (tb a) w) := by
  refine CM_begin (plainFor_of_name (by decide)) (Nat.le_of_ble_eq_true rfl) ?_
  intro p e s m args below meth c A Q hX hnm hA3 hQ hB ls hl
  have hx := hX.1.1
  have hb := hX.1.2.1
  have hl : lv_has ls 3 [(0, .ref (a 0)), (1, .int y), (2, .int c0)] := hl
  refine lv_aload_n hx hb dX10_shape_0 rfl (lv_at hl 0 rfl) ?_
  refine lv_iload_n hx hb dX10_shape_1 rfl (lv_at hl 1 rfl) ?_
  refine call_S (n := 1) (As := [.int y]) (rest := [.ref (a 0)]) hX hB (k_X10_isTable κ l (mw κ a r f q (tb a) w) y) ⟨by decide, by decide, by decide +kernel⟩ wm_5_182 wm_5_183 wm_1_6 wm_5_184 ⟨Nat.le_of_ble_eq_true rfl, Nat.le_of_ble_eq_true rfl⟩ ⟨Nat.le_of_ble_eq_true rfl, Nat.le_of_ble_eq_true rfl⟩ rfl hl.1 rfl (Nat.le_of_ble_eq_true rfl) dX10_shape_2 (fun o w' H locs hp hB => ?_)
  obtain ⟨z1, rfl, hf2, hw9⟩ := hp
  replace hB : Bd κ A s (mw κ a r f q (tb a) w) H locs := by rw [hw9] at hB; exact hB
  rcases hf2 with rfl | ⟨rfl, hz3a, hz3b⟩
  · refine W.eq (g2 := F0 m 5 ls [.int 0, .ref (a 0)]) rfl ?_
    refine lv_if_ne (tgt := 12) hx hb dX10_shape_5 (by decide) (fun c4 => False.elim (by revert c4; decide)) (fun _ => ?_)
    refine lv_iconst (v := 1) hx hb dX10_shape_8 (by decide) ?_
    refine lv_goto (tgt := 13) hx hb dX10_shape_9 (by decide) ?_
    refine call_V (n := 1) (k0 := 0) (As := [.int 1]) (rest := []) hX hB (k_X10_isThrown__ κ l (mw κ a r f q (tb a) w) 0 (a 0) (a 1) (q 0) (q 1) (q 2) (q 3) 1 (mw0x (a := a) (r := r) (f := f) (q := q) (T := tb a) (w := w) rfl)) ⟨rfl, by decide, by decide, by decide +kernel⟩ wm_6_11 wm_6_13 wp_33 wm_1_6 wm_6_14 ⟨Nat.le_of_ble_eq_true rfl, Nat.le_of_ble_eq_true rfl⟩ ⟨Nat.le_of_ble_eq_true rfl, Nat.le_of_ble_eq_true rfl⟩ (mw0x (a := a) (r := r) (f := f) (q := q) (T := tb a) (w := w) rfl) rfl rfl rfl hl.1 rfl (Nat.le_of_ble_eq_true rfl) dX10_shape_13 (fun o w' H locs hp hB => ?_)
    obtain ⟨x5, t6, rfl, hf7, hw9⟩ := hp
    replace hB : Bd κ A s (mw κ a r f (va_up q 3 t6) (tb a) w) H locs := by exact Bd_eq (mwQ3x rfl _) (by rw [hw9] at hB; exact hB)
    obtain rfl : x5 = 1 := hf7.trans (by decide)
    refine W.eq (g2 := F0 m 16 ls [.int 1]) rfl ?_
    refine lv_if_eq (tgt := 23) hx hb dX10_shape_16 (by decide) (fun c8 => False.elim (by revert c8; decide)) (fun _ => ?_)
    refine lv_iconst (v := 0) hx hb dX10_shape_19 (by decide) ?_
    refine lv_goto (tgt := 48) hx hb dX10_shape_20 (by decide) ?_
    rw [← hQ]
    exact end_i hX hB hA3 rfl rfl ⟨0, (va_up q 3 t6), rfl, rfl, rfl⟩ (Nat.le_of_ble_eq_true rfl) (Nat.le_of_ble_eq_true rfl) dX10_shape_48
  · refine W.eq (g2 := F0 m 5 ls [.int 1, .ref (a 0)]) rfl ?_
    refine lv_if_ne (tgt := 12) hx hb dX10_shape_5 (by decide) (fun _ => ?_) (fun c9 => False.elim (by revert c9; decide))
    refine lv_iconst (v := 0) hx hb dX10_shape_12 (by decide) ?_
    refine call_V (n := 1) (k0 := 0) (As := [.int 0]) (rest := []) hX hB (k_X10_isThrown__ κ l (mw κ a r f q (tb a) w) 0 (a 0) (a 1) (q 0) (q 1) (q 2) (q 3) 0 (mw0x (a := a) (r := r) (f := f) (q := q) (T := tb a) (w := w) rfl)) ⟨rfl, by decide, by decide, by decide +kernel⟩ wm_6_11 wm_6_13 wp_33 wm_1_6 wm_6_14 ⟨Nat.le_of_ble_eq_true rfl, Nat.le_of_ble_eq_true rfl⟩ ⟨Nat.le_of_ble_eq_true rfl, Nat.le_of_ble_eq_true rfl⟩ (mw0x (a := a) (r := r) (f := f) (q := q) (T := tb a) (w := w) rfl) rfl rfl rfl hl.1 rfl (Nat.le_of_ble_eq_true rfl) dX10_shape_13 (fun o w' H locs hp hB => ?_)
    obtain ⟨x10, t11, rfl, hf12, hw9⟩ := hp
    replace hB : Bd κ A s (mw κ a r f (va_up q 3 t11) (tb a) w) H locs := by exact Bd_eq (mwQ3x rfl _) (by rw [hw9] at hB; exact hB)
    obtain rfl : x10 = 0 := hf12.trans (by decide)
    refine W.eq (g2 := F0 m 16 ls [.int 0]) rfl ?_
    refine lv_if_eq (tgt := 23) hx hb dX10_shape_16 (by decide) (fun _ => ?_) (fun c13 => False.elim (by revert c13; decide))
    refine lv_iload_n hx hb dX10_shape_23 rfl (lv_at hl 2 rfl) ?_
    refine lv_if_eq (tgt := 39) hx hb dX10_shape_24 (by decide) (fun c14 => ?_) (fun c14 => ?_)
    · refine lv_aload_n hx hb dX10_shape_39 rfl (lv_at hl 0 rfl) ?_
      refine gf (k0 := 0) hX hB (mw0x (a := a) (r := r) (f := f) (q := (va_up q 3 t11)) (T := tb a) (w := w) rfl) rfl in10 0 (by decide) wm_5_162 rfl rfl dX10_shape_40 ?_
      refine lv_iload_n hx hb dX10_shape_43 rfl (lv_at hl 1 rfl) ?_
      refine aaldM (k0 := 1) hX hB (mw1 (a := a) (r := r) (f := f) (q := (va_up q 3 t11)) (T := tb a) (w := w)) (vp_in_mk (by assumption) (by assumption)) rfl dX10_shape_44 ?_
      have hb15 := mok_r hm y.toNatClampNeg (by omega)
      refine gf (k0 := 2 + 2 * y.toNatClampNeg) hX hB (mwG (i := y.toNatClampNeg) (a := a) (r := r) (f := f) (q := (va_up q 3 t11)) (T := tb a) (w := w) (by omega)) rfl in7 0 (by decide) wm_5_148 rfl rfl dX10_shape_45 ?_
      rw [← hQ]
      exact end_i hX hB hA3 rfl rfl ⟨(nI (r (2 * y.toNatClampNeg))), (va_up q 3 t11), rfl, rfl, rfl⟩ (Nat.le_of_ble_eq_true rfl) (Nat.le_of_ble_eq_true rfl) dX10_shape_48
    · refine lv_aload_n hx hb dX10_shape_27 rfl (lv_at hl 0 rfl) ?_
      refine gf (k0 := 0) hX hB (mw0x (a := a) (r := r) (f := f) (q := (va_up q 3 t11)) (T := tb a) (w := w) rfl) rfl in10 0 (by decide) wm_5_162 rfl rfl dX10_shape_28 ?_
      refine lv_iload_n hx hb dX10_shape_31 rfl (lv_at hl 1 rfl) ?_
      refine aaldM (k0 := 1) hX hB (mw1 (a := a) (r := r) (f := f) (q := (va_up q 3 t11)) (T := tb a) (w := w)) (vp_in_mk (by assumption) (by assumption)) rfl dX10_shape_32 ?_
      have hb16 := mok_r hm y.toNatClampNeg (by omega)
      refine gf (k0 := 2 + 2 * y.toNatClampNeg) hX hB (mwG (i := y.toNatClampNeg) (a := a) (r := r) (f := f) (q := (va_up q 3 t11)) (T := tb a) (w := w) (by omega)) rfl in7 1 (by decide) wm_5_152 rfl rfl dX10_shape_33 ?_
      refine lv_goto (tgt := 48) hx hb dX10_shape_36 (by decide) ?_
      rw [← hQ]
      exact end_i hX hB hA3 rfl rfl ⟨(nI (r (2 * y.toNatClampNeg + 1))), (va_up q 3 t11), rfl, rfl, rfl⟩ (Nat.le_of_ble_eq_true rfl) (Nat.le_of_ble_eq_true rfl) dX10_shape_48
set_option maxHeartbeats 4000000 in
set_option maxRecDepth 100000 in
theorem k_X10_at (κ : Kt) (l : Launch) (w : va_W) (a r : Nat → Nat) (f : Nat → Nat → Int64) (q : Nat → Int32) (y : Int32) (z : Int32) (u : Int32) (hm : mok r f) : CM κ l yX10_at cX10_at 4 (some .int) 2 44 0 0 [.ref (a 0), .int y, .int z, .int u] (mw κ a r f q (tb a) w) (fun o w' => ∃ (x : Int32) (q' : Nat → Int32), o = some (.int x) ∧ (q' 2 = q 2) ∧ w' = mw κ a r f q' (tb a) w) := by
  refine CM_begin (plainFor_of_name (by decide)) (Nat.le_of_ble_eq_true rfl) ?_
  intro p e s m args below meth c A Q hX hnm hA3 hQ hB ls hl
  have hx := hX.1.1
  have hb := hX.1.2.1
  have hl : lv_has ls 4 [(0, .ref (a 0)), (1, .int y), (2, .int z), (3, .int u)] := hl
  refine lv_aload_n hx hb dX10_at_0 rfl (lv_at hl 0 rfl) ?_
  refine lv_aload_n hx hb dX10_at_1 rfl (lv_at hl 0 rfl) ?_
  refine lv_iload_n hx hb dX10_at_2 rfl (lv_at hl 1 rfl) ?_
  refine lv_iload_n hx hb dX10_at_3 rfl (lv_at hl 2 rfl) ?_
  refine call_V (n := 2) (k0 := 0) (As := [.int y, .int z]) (rest := [.ref (a 0)]) hX hB (k_X10_isRow κ l w a r f q y z hm) ⟨rfl, by decide, by decide, by decide +kernel⟩ wm_5_225 wm_5_227 wp_31 wm_1_6 wm_5_228 ⟨Nat.le_of_ble_eq_true rfl, Nat.le_of_ble_eq_true rfl⟩ ⟨Nat.le_of_ble_eq_true rfl, Nat.le_of_ble_eq_true rfl⟩ (mw0x (a := a) (r := r) (f := f) (q := q) (T := tb a) (w := w) rfl) rfl rfl rfl hl.1 rfl (Nat.le_of_ble_eq_true rfl) dX10_at_4 (fun o w' H locs hp hB => ?_)
  obtain ⟨x1, rfl, hf2, hw9⟩ := hp
  replace hB : Bd κ A s (mw κ a r f q (tb a) w) H locs := by rw [hw9] at hB; exact hB
  rcases hf2 with rfl | ⟨rfl, hz3a, hz3b, hz3c, hz3d⟩
  · refine W.eq (g2 := F0 m 7 ls [.int 0, .ref (a 0)]) rfl ?_
    refine lv_if_eq (tgt := 19) hx hb dX10_at_7 (by decide) (fun _ => ?_) (fun c4 => False.elim (by revert c4; decide))
    refine lv_iconst (v := 1) hx hb dX10_at_19 (by decide) ?_
    refine lv_goto (tgt := 24) hx hb dX10_at_20 (by decide) ?_
    refine call_V (n := 1) (k0 := 0) (As := [.int 1]) (rest := []) hX hB (k_X10_isThrown__ κ l (mw κ a r f q (tb a) w) 0 (a 0) (a 1) (q 0) (q 1) (q 2) (q 3) 1 (mw0x (a := a) (r := r) (f := f) (q := q) (T := tb a) (w := w) rfl)) ⟨rfl, by decide, by decide, by decide +kernel⟩ wm_6_11 wm_6_13 wp_33 wm_1_6 wm_6_14 ⟨Nat.le_of_ble_eq_true rfl, Nat.le_of_ble_eq_true rfl⟩ ⟨Nat.le_of_ble_eq_true rfl, Nat.le_of_ble_eq_true rfl⟩ (mw0x (a := a) (r := r) (f := f) (q := q) (T := tb a) (w := w) rfl) rfl rfl rfl hl.1 rfl (Nat.le_of_ble_eq_true rfl) dX10_at_24 (fun o w' H locs hp hB => ?_)
    obtain ⟨x5, t6, rfl, hf7, hw9⟩ := hp
    replace hB : Bd κ A s (mw κ a r f (va_up q 3 t6) (tb a) w) H locs := by exact Bd_eq (mwQ3x rfl _) (by rw [hw9] at hB; exact hB)
    obtain rfl : x5 = 1 := hf7.trans (by decide)
    refine W.eq (g2 := F0 m 27 ls [.int 1]) rfl ?_
    refine lv_if_eq (tgt := 34) hx hb dX10_at_27 (by decide) (fun c8 => False.elim (by revert c8; decide)) (fun _ => ?_)
    refine lv_iconst (v := 0) hx hb dX10_at_30 (by decide) ?_
    refine lv_goto (tgt := 46) hx hb dX10_at_31 (by decide) ?_
    rw [← hQ]
    exact end_i hX hB hA3 rfl rfl ⟨0, (va_up q 3 t6), rfl, rfl, rfl⟩ (Nat.le_of_ble_eq_true rfl) (Nat.le_of_ble_eq_true rfl) dX10_at_46
  · refine W.eq (g2 := F0 m 7 ls [.int 1, .ref (a 0)]) rfl ?_
    refine lv_if_eq (tgt := 19) hx hb dX10_at_7 (by decide) (fun c9 => False.elim (by revert c9; decide)) (fun _ => ?_)
    refine lv_aload_n hx hb dX10_at_10 rfl (lv_at hl 0 rfl) ?_
    refine lv_iload_n hx hb dX10_at_11 rfl (lv_at hl 1 rfl) ?_
    refine lv_iload_n hx hb dX10_at_12 rfl (lv_at hl 3 rfl) ?_
    refine call_V (n := 2) (k0 := 0) (As := [.int y, .int u]) (rest := [.ref (a 0)]) hX hB (k_X10_isColumn κ l w a r f q y u hm) ⟨rfl, by decide, by decide, by decide +kernel⟩ wm_5_229 wm_5_231 wp_32 wm_1_6 wm_5_232 ⟨Nat.le_of_ble_eq_true rfl, Nat.le_of_ble_eq_true rfl⟩ ⟨Nat.le_of_ble_eq_true rfl, Nat.le_of_ble_eq_true rfl⟩ (mw0x (a := a) (r := r) (f := f) (q := q) (T := tb a) (w := w) rfl) rfl rfl rfl hl.1 rfl (Nat.le_of_ble_eq_true rfl) dX10_at_13 (fun o w' H locs hp hB => ?_)
    obtain ⟨x10, rfl, hf11, hw9⟩ := hp
    replace hB : Bd κ A s (mw κ a r f q (tb a) w) H locs := by rw [hw9] at hB; exact hB
    rcases hf11 with rfl | ⟨rfl, hz12a, hz12b, hz12c, hz12d⟩
    · refine W.eq (g2 := F0 m 16 ls [.int 0, .ref (a 0)]) rfl ?_
      refine lv_if_ne (tgt := 23) hx hb dX10_at_16 (by decide) (fun c13 => False.elim (by revert c13; decide)) (fun _ => ?_)
      refine lv_iconst (v := 1) hx hb dX10_at_19 (by decide) ?_
      refine lv_goto (tgt := 24) hx hb dX10_at_20 (by decide) ?_
      refine call_V (n := 1) (k0 := 0) (As := [.int 1]) (rest := []) hX hB (k_X10_isThrown__ κ l (mw κ a r f q (tb a) w) 0 (a 0) (a 1) (q 0) (q 1) (q 2) (q 3) 1 (mw0x (a := a) (r := r) (f := f) (q := q) (T := tb a) (w := w) rfl)) ⟨rfl, by decide, by decide, by decide +kernel⟩ wm_6_11 wm_6_13 wp_33 wm_1_6 wm_6_14 ⟨Nat.le_of_ble_eq_true rfl, Nat.le_of_ble_eq_true rfl⟩ ⟨Nat.le_of_ble_eq_true rfl, Nat.le_of_ble_eq_true rfl⟩ (mw0x (a := a) (r := r) (f := f) (q := q) (T := tb a) (w := w) rfl) rfl rfl rfl hl.1 rfl (Nat.le_of_ble_eq_true rfl) dX10_at_24 (fun o w' H locs hp hB => ?_)
      obtain ⟨x14, t15, rfl, hf16, hw9⟩ := hp
      replace hB : Bd κ A s (mw κ a r f (va_up q 3 t15) (tb a) w) H locs := by exact Bd_eq (mwQ3x rfl _) (by rw [hw9] at hB; exact hB)
      obtain rfl : x14 = 1 := hf16.trans (by decide)
      refine W.eq (g2 := F0 m 27 ls [.int 1]) rfl ?_
      refine lv_if_eq (tgt := 34) hx hb dX10_at_27 (by decide) (fun c17 => False.elim (by revert c17; decide)) (fun _ => ?_)
      refine lv_iconst (v := 0) hx hb dX10_at_30 (by decide) ?_
      refine lv_goto (tgt := 46) hx hb dX10_at_31 (by decide) ?_
      rw [← hQ]
      exact end_i hX hB hA3 rfl rfl ⟨0, (va_up q 3 t15), rfl, rfl, rfl⟩ (Nat.le_of_ble_eq_true rfl) (Nat.le_of_ble_eq_true rfl) dX10_at_46
    · refine W.eq (g2 := F0 m 16 ls [.int 1, .ref (a 0)]) rfl ?_
      refine lv_if_ne (tgt := 23) hx hb dX10_at_16 (by decide) (fun _ => ?_) (fun c18 => False.elim (by revert c18; decide))
      refine lv_iconst (v := 0) hx hb dX10_at_23 (by decide) ?_
      refine call_V (n := 1) (k0 := 0) (As := [.int 0]) (rest := []) hX hB (k_X10_isThrown__ κ l (mw κ a r f q (tb a) w) 0 (a 0) (a 1) (q 0) (q 1) (q 2) (q 3) 0 (mw0x (a := a) (r := r) (f := f) (q := q) (T := tb a) (w := w) rfl)) ⟨rfl, by decide, by decide, by decide +kernel⟩ wm_6_11 wm_6_13 wp_33 wm_1_6 wm_6_14 ⟨Nat.le_of_ble_eq_true rfl, Nat.le_of_ble_eq_true rfl⟩ ⟨Nat.le_of_ble_eq_true rfl, Nat.le_of_ble_eq_true rfl⟩ (mw0x (a := a) (r := r) (f := f) (q := q) (T := tb a) (w := w) rfl) rfl rfl rfl hl.1 rfl (Nat.le_of_ble_eq_true rfl) dX10_at_24 (fun o w' H locs hp hB => ?_)
      obtain ⟨x19, t20, rfl, hf21, hw9⟩ := hp
      replace hB : Bd κ A s (mw κ a r f (va_up q 3 t20) (tb a) w) H locs := by exact Bd_eq (mwQ3x rfl _) (by rw [hw9] at hB; exact hB)
      obtain rfl : x19 = 0 := hf21.trans (by decide)
      refine W.eq (g2 := F0 m 27 ls [.int 0]) rfl ?_
      refine lv_if_eq (tgt := 34) hx hb dX10_at_27 (by decide) (fun _ => ?_) (fun c22 => False.elim (by revert c22; decide))
      refine lv_aload_n hx hb dX10_at_34 rfl (lv_at hl 0 rfl) ?_
      refine gf (k0 := 0) hX hB (mw0x (a := a) (r := r) (f := f) (q := (va_up q 3 t20)) (T := tb a) (w := w) rfl) rfl in10 0 (by decide) wm_5_162 rfl rfl dX10_at_35 ?_
      refine lv_iload_n hx hb dX10_at_38 rfl (lv_at hl 1 rfl) ?_
      refine aaldM (k0 := 1) hX hB (mw1 (a := a) (r := r) (f := f) (q := (va_up q 3 t20)) (T := tb a) (w := w)) (vp_in_mk (by assumption) (by assumption)) rfl dX10_at_39 ?_
      have hb23 := mok_r hm y.toNatClampNeg (by omega)
      refine lv_iload_n hx hb dX10_at_40 rfl (lv_at hl 2 rfl) ?_
      refine lv_iload_n hx hb dX10_at_41 rfl (lv_at hl 3 rfl) ?_
      refine call_V (n := 2) (k0 := (2 + 2 * y.toNatClampNeg)) (As := [.int z, .int u]) (rest := []) hX hB (k_X7_at κ l (mw κ a r f (va_up q 3 t20) (tb a) w) (2 + 2 * y.toNatClampNeg) (3 + 2 * y.toNatClampNeg) (a (2 + 2 * y.toNatClampNeg)) (a (3 + 2 * y.toNatClampNeg)) (r (2 * y.toNatClampNeg)) (r (2 * y.toNatClampNeg + 1)) (f y.toNatClampNeg) z ((z).toNatClampNeg) u ((u).toNatClampNeg) (mwG (i := y.toNatClampNeg) (a := a) (r := r) (f := f) (q := (va_up q 3 t20)) (T := tb a) (w := w) (by omega)) (mwA (i := y.toNatClampNeg) (a := a) (r := r) (f := f) (q := (va_up q 3 t20)) (T := tb a) (w := w) (by omega)) (mok_shp (i := y.toNatClampNeg) hm (by omega)) (nI_rep (by assumption)) (nI_rep (by assumption)) (by omega)) ⟨rfl, by decide, by decide, by decide +kernel⟩ wm_5_233 wm_5_234 wm_5_235 wm_1_7 wm_5_236 ⟨Nat.le_of_ble_eq_true rfl, Nat.le_of_ble_eq_true rfl⟩ ⟨Nat.le_of_ble_eq_true rfl, Nat.le_of_ble_eq_true rfl⟩ (mwG (i := y.toNatClampNeg) (a := a) (r := r) (f := f) (q := (va_up q 3 t20)) (T := tb a) (w := w) (by omega)) rfl rfl rfl hl.1 rfl (Nat.le_of_ble_eq_true rfl) dX10_at_42 (fun o w' H locs hp hB => ?_)
      obtain ⟨rfl, hw9⟩ := hp
      replace hB : Bd κ A s (mw κ a r f (va_up q 3 t20) (tb a) w) H locs := by rw [hw9] at hB; exact hB
      refine W.eq (g2 := F0 m 45 ls [.long ((f y.toNatClampNeg) (((z).toNatClampNeg) * 5 + ((u).toNatClampNeg)))]) rfl ?_
      refine lv_l2i hx hb dX10_at_45 rfl ?_
      rw [← hQ]
      exact end_i hX hB hA3 rfl rfl ⟨((((f y.toNatClampNeg) (((z).toNatClampNeg) * 5 + ((u).toNatClampNeg)))).toInt32), (va_up q 3 t20), rfl, rfl, rfl⟩ (Nat.le_of_ble_eq_true rfl) (Nat.le_of_ble_eq_true rfl) dX10_at_46
set_option maxHeartbeats 4000000 in
set_option maxRecDepth 100000 in
theorem k_X10_isSame (κ : Kt) (l : Launch) (w : va_W) (a r : Nat → Nat) (f : Nat → Nat → Int64) (q : Nat → Int32) (y : Int32) (z : Int32) (hm : mok r f) : CM κ l yX10_isSame cX10_isSame 3 (some .boolean) 2 44 0 0 [.ref (a 0), .int y, .int z] (mw κ a r f q (tb a) w) (fun o w' => ∃ (x : Int32) (q' : Nat → Int32), o = some (.int x) ∧ (x = 0 ∨ x = 1) ∧ (q' 2 = q 2) ∧ w' = mw κ a r f q' (tb a) w) := by
  refine CM_begin (plainFor_of_name (by decide)) (Nat.le_of_ble_eq_true rfl) ?_
  intro p e s m args below meth c A Q hX hnm hA3 hQ hB ls hl
  have hx := hX.1.1
  have hb := hX.1.2.1
  have hl : lv_has ls 3 [(0, .ref (a 0)), (1, .int y), (2, .int z)] := hl
  refine lv_aload_n hx hb dX10_isSame_0 rfl (lv_at hl 0 rfl) ?_
  refine lv_iload_n hx hb dX10_isSame_1 rfl (lv_at hl 1 rfl) ?_
  refine call_S (n := 1) (As := [.int y]) (rest := [.ref (a 0)]) hX hB (k_X10_isTable κ l (mw κ a r f q (tb a) w) y) ⟨by decide, by decide, by decide +kernel⟩ wm_5_182 wm_5_183 wm_1_6 wm_5_184 ⟨Nat.le_of_ble_eq_true rfl, Nat.le_of_ble_eq_true rfl⟩ ⟨Nat.le_of_ble_eq_true rfl, Nat.le_of_ble_eq_true rfl⟩ rfl hl.1 rfl (Nat.le_of_ble_eq_true rfl) dX10_isSame_2 (fun o w' H locs hp hB => ?_)
  obtain ⟨z1, rfl, hf2, hw9⟩ := hp
  replace hB : Bd κ A s (mw κ a r f q (tb a) w) H locs := by rw [hw9] at hB; exact hB
  rcases hf2 with rfl | ⟨rfl, hz3a, hz3b⟩
  · refine W.eq (g2 := F0 m 5 ls [.int 0, .ref (a 0)]) rfl ?_
    refine lv_if_eq (tgt := 15) hx hb dX10_isSame_5 (by decide) (fun _ => ?_) (fun c4 => False.elim (by revert c4; decide))
    refine lv_iconst (v := 1) hx hb dX10_isSame_15 (by decide) ?_
    refine lv_goto (tgt := 20) hx hb dX10_isSame_16 (by decide) ?_
    refine call_V (n := 1) (k0 := 0) (As := [.int 1]) (rest := []) hX hB (k_X10_isThrown__ κ l (mw κ a r f q (tb a) w) 0 (a 0) (a 1) (q 0) (q 1) (q 2) (q 3) 1 (mw0x (a := a) (r := r) (f := f) (q := q) (T := tb a) (w := w) rfl)) ⟨rfl, by decide, by decide, by decide +kernel⟩ wm_6_11 wm_6_13 wp_33 wm_1_6 wm_6_14 ⟨Nat.le_of_ble_eq_true rfl, Nat.le_of_ble_eq_true rfl⟩ ⟨Nat.le_of_ble_eq_true rfl, Nat.le_of_ble_eq_true rfl⟩ (mw0x (a := a) (r := r) (f := f) (q := q) (T := tb a) (w := w) rfl) rfl rfl rfl hl.1 rfl (Nat.le_of_ble_eq_true rfl) dX10_isSame_20 (fun o w' H locs hp hB => ?_)
    obtain ⟨x5, t6, rfl, hf7, hw9⟩ := hp
    replace hB : Bd κ A s (mw κ a r f (va_up q 3 t6) (tb a) w) H locs := by exact Bd_eq (mwQ3x rfl _) (by rw [hw9] at hB; exact hB)
    obtain rfl : x5 = 1 := hf7.trans (by decide)
    refine W.eq (g2 := F0 m 23 ls [.int 1]) rfl ?_
    refine lv_if_ne (tgt := 48) hx hb dX10_isSame_23 (by decide) (fun _ => ?_) (fun c8 => False.elim (by revert c8; decide))
    refine lv_iconst (v := 0) hx hb dX10_isSame_48 (by decide) ?_
    rw [← hQ]
    exact end_i hX hB hA3 rfl rfl ⟨0, (va_up q 3 t6), rfl, (Or.inl rfl), rfl, rfl⟩ (Nat.le_of_ble_eq_true rfl) (Nat.le_of_ble_eq_true rfl) dX10_isSame_49
  · refine W.eq (g2 := F0 m 5 ls [.int 1, .ref (a 0)]) rfl ?_
    refine lv_if_eq (tgt := 15) hx hb dX10_isSame_5 (by decide) (fun c9 => False.elim (by revert c9; decide)) (fun _ => ?_)
    refine lv_iload_n hx hb dX10_isSame_8 rfl (lv_at hl 2 rfl) ?_
    refine call_S (n := 1) (As := [.int z]) (rest := [.ref (a 0)]) hX hB (k_X10_isTable κ l (mw κ a r f q (tb a) w) z) ⟨by decide, by decide, by decide +kernel⟩ wm_5_182 wm_5_183 wm_1_6 wm_5_184 ⟨Nat.le_of_ble_eq_true rfl, Nat.le_of_ble_eq_true rfl⟩ ⟨Nat.le_of_ble_eq_true rfl, Nat.le_of_ble_eq_true rfl⟩ rfl hl.1 rfl (Nat.le_of_ble_eq_true rfl) dX10_isSame_9 (fun o w' H locs hp hB => ?_)
    obtain ⟨z10, rfl, hf11, hw9⟩ := hp
    replace hB : Bd κ A s (mw κ a r f q (tb a) w) H locs := by rw [hw9] at hB; exact hB
    rcases hf11 with rfl | ⟨rfl, hz12a, hz12b⟩
    · refine W.eq (g2 := F0 m 12 ls [.int 0, .ref (a 0)]) rfl ?_
      refine lv_if_ne (tgt := 19) hx hb dX10_isSame_12 (by decide) (fun c13 => False.elim (by revert c13; decide)) (fun _ => ?_)
      refine lv_iconst (v := 1) hx hb dX10_isSame_15 (by decide) ?_
      refine lv_goto (tgt := 20) hx hb dX10_isSame_16 (by decide) ?_
      refine call_V (n := 1) (k0 := 0) (As := [.int 1]) (rest := []) hX hB (k_X10_isThrown__ κ l (mw κ a r f q (tb a) w) 0 (a 0) (a 1) (q 0) (q 1) (q 2) (q 3) 1 (mw0x (a := a) (r := r) (f := f) (q := q) (T := tb a) (w := w) rfl)) ⟨rfl, by decide, by decide, by decide +kernel⟩ wm_6_11 wm_6_13 wp_33 wm_1_6 wm_6_14 ⟨Nat.le_of_ble_eq_true rfl, Nat.le_of_ble_eq_true rfl⟩ ⟨Nat.le_of_ble_eq_true rfl, Nat.le_of_ble_eq_true rfl⟩ (mw0x (a := a) (r := r) (f := f) (q := q) (T := tb a) (w := w) rfl) rfl rfl rfl hl.1 rfl (Nat.le_of_ble_eq_true rfl) dX10_isSame_20 (fun o w' H locs hp hB => ?_)
      obtain ⟨x14, t15, rfl, hf16, hw9⟩ := hp
      replace hB : Bd κ A s (mw κ a r f (va_up q 3 t15) (tb a) w) H locs := by exact Bd_eq (mwQ3x rfl _) (by rw [hw9] at hB; exact hB)
      obtain rfl : x14 = 1 := hf16.trans (by decide)
      refine W.eq (g2 := F0 m 23 ls [.int 1]) rfl ?_
      refine lv_if_ne (tgt := 48) hx hb dX10_isSame_23 (by decide) (fun _ => ?_) (fun c17 => False.elim (by revert c17; decide))
      refine lv_iconst (v := 0) hx hb dX10_isSame_48 (by decide) ?_
      rw [← hQ]
      exact end_i hX hB hA3 rfl rfl ⟨0, (va_up q 3 t15), rfl, (Or.inl rfl), rfl, rfl⟩ (Nat.le_of_ble_eq_true rfl) (Nat.le_of_ble_eq_true rfl) dX10_isSame_49
    · refine W.eq (g2 := F0 m 12 ls [.int 1, .ref (a 0)]) rfl ?_
      refine lv_if_ne (tgt := 19) hx hb dX10_isSame_12 (by decide) (fun _ => ?_) (fun c18 => False.elim (by revert c18; decide))
      refine lv_iconst (v := 0) hx hb dX10_isSame_19 (by decide) ?_
      refine call_V (n := 1) (k0 := 0) (As := [.int 0]) (rest := []) hX hB (k_X10_isThrown__ κ l (mw κ a r f q (tb a) w) 0 (a 0) (a 1) (q 0) (q 1) (q 2) (q 3) 0 (mw0x (a := a) (r := r) (f := f) (q := q) (T := tb a) (w := w) rfl)) ⟨rfl, by decide, by decide, by decide +kernel⟩ wm_6_11 wm_6_13 wp_33 wm_1_6 wm_6_14 ⟨Nat.le_of_ble_eq_true rfl, Nat.le_of_ble_eq_true rfl⟩ ⟨Nat.le_of_ble_eq_true rfl, Nat.le_of_ble_eq_true rfl⟩ (mw0x (a := a) (r := r) (f := f) (q := q) (T := tb a) (w := w) rfl) rfl rfl rfl hl.1 rfl (Nat.le_of_ble_eq_true rfl) dX10_isSame_20 (fun o w' H locs hp hB => ?_)
      obtain ⟨x19, t20, rfl, hf21, hw9⟩ := hp
      replace hB : Bd κ A s (mw κ a r f (va_up q 3 t20) (tb a) w) H locs := by exact Bd_eq (mwQ3x rfl _) (by rw [hw9] at hB; exact hB)
      obtain rfl : x19 = 0 := hf21.trans (by decide)
      refine W.eq (g2 := F0 m 23 ls [.int 0]) rfl ?_
      refine lv_if_ne (tgt := 48) hx hb dX10_isSame_23 (by decide) (fun c22 => False.elim (by revert c22; decide)) (fun _ => ?_)
      refine lv_aload_n hx hb dX10_isSame_26 rfl (lv_at hl 0 rfl) ?_
      refine gf (k0 := 0) hX hB (mw0x (a := a) (r := r) (f := f) (q := (va_up q 3 t20)) (T := tb a) (w := w) rfl) rfl in10 0 (by decide) wm_5_162 rfl rfl dX10_isSame_27 ?_
      refine lv_iload_n hx hb dX10_isSame_30 rfl (lv_at hl 1 rfl) ?_
      refine aaldM (k0 := 1) hX hB (mw1 (a := a) (r := r) (f := f) (q := (va_up q 3 t20)) (T := tb a) (w := w)) (vp_in_mk (by assumption) (by assumption)) rfl dX10_isSame_31 ?_
      have hb23 := mok_r hm y.toNatClampNeg (by omega)
      refine lv_aload_n hx hb dX10_isSame_32 rfl (lv_at hl 0 rfl) ?_
      refine gf (k0 := 0) hX hB (mw0x (a := a) (r := r) (f := f) (q := (va_up q 3 t20)) (T := tb a) (w := w) rfl) rfl in10 0 (by decide) wm_5_162 rfl rfl dX10_isSame_33 ?_
      refine lv_iload_n hx hb dX10_isSame_36 rfl (lv_at hl 2 rfl) ?_
      refine aaldM (k0 := 1) hX hB (mw1 (a := a) (r := r) (f := f) (q := (va_up q 3 t20)) (T := tb a) (w := w)) (vp_in_mk (by assumption) (by assumption)) rfl dX10_isSame_37 ?_
      have hb24 := mok_r hm z.toNatClampNeg (by omega)
      refine call_V (n := 1) (k0 := (2 + 2 * y.toNatClampNeg)) (As := [.ref (a (2 + 2 * z.toNatClampNeg))]) (rest := []) hX hB (k_X7_isSame κ l (mw κ a r f (va_up q 3 t20) (tb a) w) (2 + 2 * y.toNatClampNeg) (3 + 2 * y.toNatClampNeg) (a (2 + 2 * y.toNatClampNeg)) (a (3 + 2 * y.toNatClampNeg)) (r (2 * y.toNatClampNeg)) (r (2 * y.toNatClampNeg + 1)) (f y.toNatClampNeg) (2 + 2 * z.toNatClampNeg) (3 + 2 * z.toNatClampNeg) (a (2 + 2 * z.toNatClampNeg)) (a (3 + 2 * z.toNatClampNeg)) (r (2 * z.toNatClampNeg)) (r (2 * z.toNatClampNeg + 1)) (f z.toNatClampNeg) (mwG (i := y.toNatClampNeg) (a := a) (r := r) (f := f) (q := (va_up q 3 t20)) (T := tb a) (w := w) (by omega)) (mwA (i := y.toNatClampNeg) (a := a) (r := r) (f := f) (q := (va_up q 3 t20)) (T := tb a) (w := w) (by omega)) (mok_shp (i := y.toNatClampNeg) hm (by omega)) (mwG (i := z.toNatClampNeg) (a := a) (r := r) (f := f) (q := (va_up q 3 t20)) (T := tb a) (w := w) (by omega)) (mwA (i := z.toNatClampNeg) (a := a) (r := r) (f := f) (q := (va_up q 3 t20)) (T := tb a) (w := w) (by omega)) (mok_shp (i := z.toNatClampNeg) hm (by omega))) ⟨rfl, by decide, by decide, by decide +kernel⟩ wm_6_15 wm_6_16 wm_6_17 wm_1_7 wm_6_18 ⟨Nat.le_of_ble_eq_true rfl, Nat.le_of_ble_eq_true rfl⟩ ⟨Nat.le_of_ble_eq_true rfl, Nat.le_of_ble_eq_true rfl⟩ (mwG (i := y.toNatClampNeg) (a := a) (r := r) (f := f) (q := (va_up q 3 t20)) (T := tb a) (w := w) (by omega)) rfl rfl rfl hl.1 rfl (Nat.le_of_ble_eq_true rfl) dX10_isSame_38 (fun o w' H locs hp hB => ?_)
      obtain ⟨x25, rfl, hf26, hw9⟩ := hp
      replace hB : Bd κ A s (mw κ a r f (va_up q 3 t20) (tb a) w) H locs := by rw [hw9] at hB; exact hB
      rcases hf26 with rfl | rfl
      · refine W.eq (g2 := F0 m 41 ls [.int 0]) rfl ?_
        refine lv_if_eq (tgt := 48) hx hb dX10_isSame_41 (by decide) (fun _ => ?_) (fun c27 => False.elim (by revert c27; decide))
        refine lv_iconst (v := 0) hx hb dX10_isSame_48 (by decide) ?_
        rw [← hQ]
        exact end_i hX hB hA3 rfl rfl ⟨0, (va_up q 3 t20), rfl, (Or.inl rfl), rfl, rfl⟩ (Nat.le_of_ble_eq_true rfl) (Nat.le_of_ble_eq_true rfl) dX10_isSame_49
      · refine W.eq (g2 := F0 m 41 ls [.int 1]) rfl ?_
        refine lv_if_eq (tgt := 48) hx hb dX10_isSame_41 (by decide) (fun c28 => False.elim (by revert c28; decide)) (fun _ => ?_)
        refine lv_iconst (v := 1) hx hb dX10_isSame_44 (by decide) ?_
        refine lv_goto (tgt := 49) hx hb dX10_isSame_45 (by decide) ?_
        rw [← hQ]
        exact end_i hX hB hA3 rfl rfl ⟨1, (va_up q 3 t20), rfl, (Or.inr rfl), rfl, rfl⟩ (Nat.le_of_ble_eq_true rfl) (Nat.le_of_ble_eq_true rfl) dX10_isSame_49
set_option maxHeartbeats 4000000 in
set_option maxRecDepth 100000 in
theorem k_X10_determinant (κ : Kt) (l : Launch) (w : va_W) (a r : Nat → Nat) (f : Nat → Nat → Int64) (q : Nat → Int32) (y : Int32) (z : Int32) (hm : mok r f) : CM κ l yX10_determinant cX10_determinant 8 (some .int) 7 188 5 50 [.ref (a 0), .int y, .int z] (mw κ a r f q (tb a) w) (fun o w' => ∃ (x : Int32) (q' : Nat → Int32), o = some (.int x) ∧ (q' 2 = q 2) ∧ w' = mw κ a r f q' (tb a) w) := by
  refine CM_begin (plainFor_of_name (by decide)) (Nat.le_of_ble_eq_true rfl) ?_
  intro p e s m args below meth c A Q hX hnm hA3 hQ hB ls hl
  have hx := hX.1.1
  have hb := hX.1.2.1
  have hl : lv_has ls 8 [(0, .ref (a 0)), (1, .int y), (2, .int z)] := hl
  refine lv_aload_n hx hb dX10_determinant_0 rfl (lv_at hl 0 rfl) ?_
  refine lv_iload_n hx hb dX10_determinant_1 rfl (lv_at hl 1 rfl) ?_
  refine call_S (n := 1) (As := [.int y]) (rest := [.ref (a 0)]) hX hB (k_X10_isTable κ l (mw κ a r f q (tb a) w) y) ⟨by decide, by decide, by decide +kernel⟩ wm_5_182 wm_5_183 wm_1_6 wm_5_184 ⟨Nat.le_of_ble_eq_true rfl, Nat.le_of_ble_eq_true rfl⟩ ⟨Nat.le_of_ble_eq_true rfl, Nat.le_of_ble_eq_true rfl⟩ rfl hl.1 rfl (Nat.le_of_ble_eq_true rfl) dX10_determinant_2 (fun o w' H locs hp hB => ?_)
  obtain ⟨z1, rfl, hf2, hw9⟩ := hp
  replace hB : Bd κ A s (mw κ a r f q (tb a) w) H locs := by rw [hw9] at hB; exact hB
  rcases hf2 with rfl | ⟨rfl, hz3a, hz3b⟩
  · refine W.eq (g2 := F0 m 5 ls [.int 0, .ref (a 0)]) rfl ?_
    refine lv_if_ne (tgt := 12) hx hb dX10_determinant_5 (by decide) (fun c4 => False.elim (by revert c4; decide)) (fun _ => ?_)
    refine lv_iconst (v := 1) hx hb dX10_determinant_8 (by decide) ?_
    refine lv_goto (tgt := 13) hx hb dX10_determinant_9 (by decide) ?_
    refine lv_iload_n hx hb dX10_determinant_13 rfl (lv_at hl 2 rfl) ?_
    refine lv_if_lt (tgt := 22) hx hb dX10_determinant_14 (by decide) (fun c5 => ?_) (fun c5 => ?_)
    · refine lv_iconst (v := 1) hx hb dX10_determinant_22 (by decide) ?_
      refine lv_goto (tgt := 27) hx hb dX10_determinant_23 (by decide) ?_
      refine call_V (n := 2) (k0 := 0) (As := [.int 1, .int 1]) (rest := []) hX hB (k_X10_isThrown_ κ l (mw κ a r f q (tb a) w) 0 (a 0) (a 1) (q 0) (q 1) (q 2) (q 3) 1 1 (mw0x (a := a) (r := r) (f := f) (q := q) (T := tb a) (w := w) rfl)) ⟨rfl, by decide, by decide, by decide +kernel⟩ wm_5_188 wm_5_190 wp_27 wm_1_6 wm_5_191 ⟨Nat.le_of_ble_eq_true rfl, Nat.le_of_ble_eq_true rfl⟩ ⟨Nat.le_of_ble_eq_true rfl, Nat.le_of_ble_eq_true rfl⟩ (mw0x (a := a) (r := r) (f := f) (q := q) (T := tb a) (w := w) rfl) rfl rfl rfl hl.1 rfl (Nat.le_of_ble_eq_true rfl) dX10_determinant_27 (fun o w' H locs hp hB => ?_)
      obtain ⟨x6, t7, rfl, hf8, hw9⟩ := hp
      replace hB : Bd κ A s (mw κ a r f (va_up q 3 t7) (tb a) w) H locs := by exact Bd_eq (mwQ3x rfl _) (by rw [hw9] at hB; exact hB)
      obtain rfl : x6 = 1 := hf8.trans (by decide)
      refine W.eq (g2 := F0 m 30 ls [.int 1]) rfl ?_
      refine lv_if_eq (tgt := 35) hx hb dX10_determinant_30 (by decide) (fun c9 => False.elim (by revert c9; decide)) (fun _ => ?_)
      refine lv_iconst (v := 0) hx hb dX10_determinant_33 (by decide) ?_
      rw [← hQ]
      exact end_i hX hB hA3 rfl rfl ⟨0, (va_up q 3 t7), rfl, rfl, rfl⟩ (Nat.le_of_ble_eq_true rfl) (Nat.le_of_ble_eq_true rfl) dX10_determinant_34
    · refine lv_iload_n hx hb dX10_determinant_17 rfl (lv_at hl 2 rfl) ?_
      refine lv_iconst (v := 2) hx hb dX10_determinant_18 (by decide) ?_
      refine lv_icmp_le (tgt := 26) hx hb dX10_determinant_19 (by decide) (fun c10 => ?_) (fun c10 => ?_)
      · refine lv_iconst (v := 0) hx hb dX10_determinant_26 (by decide) ?_
        refine call_V (n := 2) (k0 := 0) (As := [.int 1, .int 0]) (rest := []) hX hB (k_X10_isThrown_ κ l (mw κ a r f q (tb a) w) 0 (a 0) (a 1) (q 0) (q 1) (q 2) (q 3) 1 0 (mw0x (a := a) (r := r) (f := f) (q := q) (T := tb a) (w := w) rfl)) ⟨rfl, by decide, by decide, by decide +kernel⟩ wm_5_188 wm_5_190 wp_27 wm_1_6 wm_5_191 ⟨Nat.le_of_ble_eq_true rfl, Nat.le_of_ble_eq_true rfl⟩ ⟨Nat.le_of_ble_eq_true rfl, Nat.le_of_ble_eq_true rfl⟩ (mw0x (a := a) (r := r) (f := f) (q := q) (T := tb a) (w := w) rfl) rfl rfl rfl hl.1 rfl (Nat.le_of_ble_eq_true rfl) dX10_determinant_27 (fun o w' H locs hp hB => ?_)
        obtain ⟨x11, t12, rfl, hf13, hw9⟩ := hp
        replace hB : Bd κ A s (mw κ a r f (va_up q 3 t12) (tb a) w) H locs := by exact Bd_eq (mwQ3x rfl _) (by rw [hw9] at hB; exact hB)
        obtain rfl : x11 = 1 := hf13.trans (by decide)
        refine W.eq (g2 := F0 m 30 ls [.int 1]) rfl ?_
        refine lv_if_eq (tgt := 35) hx hb dX10_determinant_30 (by decide) (fun c14 => False.elim (by revert c14; decide)) (fun _ => ?_)
        refine lv_iconst (v := 0) hx hb dX10_determinant_33 (by decide) ?_
        rw [← hQ]
        exact end_i hX hB hA3 rfl rfl ⟨0, (va_up q 3 t12), rfl, rfl, rfl⟩ (Nat.le_of_ble_eq_true rfl) (Nat.le_of_ble_eq_true rfl) dX10_determinant_34
      · refine lv_iconst (v := 1) hx hb dX10_determinant_22 (by decide) ?_
        refine lv_goto (tgt := 27) hx hb dX10_determinant_23 (by decide) ?_
        refine call_V (n := 2) (k0 := 0) (As := [.int 1, .int 1]) (rest := []) hX hB (k_X10_isThrown_ κ l (mw κ a r f q (tb a) w) 0 (a 0) (a 1) (q 0) (q 1) (q 2) (q 3) 1 1 (mw0x (a := a) (r := r) (f := f) (q := q) (T := tb a) (w := w) rfl)) ⟨rfl, by decide, by decide, by decide +kernel⟩ wm_5_188 wm_5_190 wp_27 wm_1_6 wm_5_191 ⟨Nat.le_of_ble_eq_true rfl, Nat.le_of_ble_eq_true rfl⟩ ⟨Nat.le_of_ble_eq_true rfl, Nat.le_of_ble_eq_true rfl⟩ (mw0x (a := a) (r := r) (f := f) (q := q) (T := tb a) (w := w) rfl) rfl rfl rfl hl.1 rfl (Nat.le_of_ble_eq_true rfl) dX10_determinant_27 (fun o w' H locs hp hB => ?_)
        obtain ⟨x15, t16, rfl, hf17, hw9⟩ := hp
        replace hB : Bd κ A s (mw κ a r f (va_up q 3 t16) (tb a) w) H locs := by exact Bd_eq (mwQ3x rfl _) (by rw [hw9] at hB; exact hB)
        obtain rfl : x15 = 1 := hf17.trans (by decide)
        refine W.eq (g2 := F0 m 30 ls [.int 1]) rfl ?_
        refine lv_if_eq (tgt := 35) hx hb dX10_determinant_30 (by decide) (fun c18 => False.elim (by revert c18; decide)) (fun _ => ?_)
        refine lv_iconst (v := 0) hx hb dX10_determinant_33 (by decide) ?_
        rw [← hQ]
        exact end_i hX hB hA3 rfl rfl ⟨0, (va_up q 3 t16), rfl, rfl, rfl⟩ (Nat.le_of_ble_eq_true rfl) (Nat.le_of_ble_eq_true rfl) dX10_determinant_34
  · refine W.eq (g2 := F0 m 5 ls [.int 1, .ref (a 0)]) rfl ?_
    refine lv_if_ne (tgt := 12) hx hb dX10_determinant_5 (by decide) (fun _ => ?_) (fun c19 => False.elim (by revert c19; decide))
    refine lv_iconst (v := 0) hx hb dX10_determinant_12 (by decide) ?_
    refine lv_iload_n hx hb dX10_determinant_13 rfl (lv_at hl 2 rfl) ?_
    refine lv_if_lt (tgt := 22) hx hb dX10_determinant_14 (by decide) (fun c20 => ?_) (fun c20 => ?_)
    · refine lv_iconst (v := 1) hx hb dX10_determinant_22 (by decide) ?_
      refine lv_goto (tgt := 27) hx hb dX10_determinant_23 (by decide) ?_
      refine call_V (n := 2) (k0 := 0) (As := [.int 0, .int 1]) (rest := []) hX hB (k_X10_isThrown_ κ l (mw κ a r f q (tb a) w) 0 (a 0) (a 1) (q 0) (q 1) (q 2) (q 3) 0 1 (mw0x (a := a) (r := r) (f := f) (q := q) (T := tb a) (w := w) rfl)) ⟨rfl, by decide, by decide, by decide +kernel⟩ wm_5_188 wm_5_190 wp_27 wm_1_6 wm_5_191 ⟨Nat.le_of_ble_eq_true rfl, Nat.le_of_ble_eq_true rfl⟩ ⟨Nat.le_of_ble_eq_true rfl, Nat.le_of_ble_eq_true rfl⟩ (mw0x (a := a) (r := r) (f := f) (q := q) (T := tb a) (w := w) rfl) rfl rfl rfl hl.1 rfl (Nat.le_of_ble_eq_true rfl) dX10_determinant_27 (fun o w' H locs hp hB => ?_)
      obtain ⟨x21, t22, rfl, hf23, hw9⟩ := hp
      replace hB : Bd κ A s (mw κ a r f (va_up q 3 t22) (tb a) w) H locs := by exact Bd_eq (mwQ3x rfl _) (by rw [hw9] at hB; exact hB)
      obtain rfl : x21 = 1 := hf23.trans (by decide)
      refine W.eq (g2 := F0 m 30 ls [.int 1]) rfl ?_
      refine lv_if_eq (tgt := 35) hx hb dX10_determinant_30 (by decide) (fun c24 => False.elim (by revert c24; decide)) (fun _ => ?_)
      refine lv_iconst (v := 0) hx hb dX10_determinant_33 (by decide) ?_
      rw [← hQ]
      exact end_i hX hB hA3 rfl rfl ⟨0, (va_up q 3 t22), rfl, rfl, rfl⟩ (Nat.le_of_ble_eq_true rfl) (Nat.le_of_ble_eq_true rfl) dX10_determinant_34
    · refine lv_iload_n hx hb dX10_determinant_17 rfl (lv_at hl 2 rfl) ?_
      refine lv_iconst (v := 2) hx hb dX10_determinant_18 (by decide) ?_
      refine lv_icmp_le (tgt := 26) hx hb dX10_determinant_19 (by decide) (fun c25 => ?_) (fun c25 => ?_)
      · refine lv_iconst (v := 0) hx hb dX10_determinant_26 (by decide) ?_
        refine call_V (n := 2) (k0 := 0) (As := [.int 0, .int 0]) (rest := []) hX hB (k_X10_isThrown_ κ l (mw κ a r f q (tb a) w) 0 (a 0) (a 1) (q 0) (q 1) (q 2) (q 3) 0 0 (mw0x (a := a) (r := r) (f := f) (q := q) (T := tb a) (w := w) rfl)) ⟨rfl, by decide, by decide, by decide +kernel⟩ wm_5_188 wm_5_190 wp_27 wm_1_6 wm_5_191 ⟨Nat.le_of_ble_eq_true rfl, Nat.le_of_ble_eq_true rfl⟩ ⟨Nat.le_of_ble_eq_true rfl, Nat.le_of_ble_eq_true rfl⟩ (mw0x (a := a) (r := r) (f := f) (q := q) (T := tb a) (w := w) rfl) rfl rfl rfl hl.1 rfl (Nat.le_of_ble_eq_true rfl) dX10_determinant_27 (fun o w' H locs hp hB => ?_)
        obtain ⟨x26, t27, rfl, hf28, hw9⟩ := hp
        replace hB : Bd κ A s (mw κ a r f (va_up q 3 t27) (tb a) w) H locs := by exact Bd_eq (mwQ3x rfl _) (by rw [hw9] at hB; exact hB)
        obtain rfl : x26 = 0 := hf28.trans (by decide)
        refine W.eq (g2 := F0 m 30 ls [.int 0]) rfl ?_
        refine lv_if_eq (tgt := 35) hx hb dX10_determinant_30 (by decide) (fun _ => ?_) (fun c29 => False.elim (by revert c29; decide))
        refine lv_aload_n hx hb dX10_determinant_35 rfl (lv_at hl 0 rfl) ?_
        refine gf (k0 := 0) hX hB (mw0x (a := a) (r := r) (f := f) (q := (va_up q 3 t27)) (T := tb a) (w := w) rfl) rfl in10 0 (by decide) wm_5_162 rfl rfl dX10_determinant_36 ?_
        refine lv_iload_n hx hb dX10_determinant_39 rfl (lv_at hl 1 rfl) ?_
        refine aaldM (k0 := 1) hX hB (mw1 (a := a) (r := r) (f := f) (q := (va_up q 3 t27)) (T := tb a) (w := w)) (vp_in_mk (by assumption) (by assumption)) rfl dX10_determinant_40 ?_
        have hb30 := mok_r hm y.toNatClampNeg (by omega)
        refine lv_astore_n (lv' := [(3, .ref (a (2 + 2 * y.toNatClampNeg))), (0, .ref (a 0)), (1, .int y), (2, .int z)]) hx hb dX10_determinant_41 rfl hl (by decide) rfl (fun ls hl => ?_)
        refine lv_iload_n hx hb dX10_determinant_42 rfl (lv_at hl 3 rfl) ?_
        refine lv_iconst (v := 2) hx hb dX10_determinant_43 (by decide) ?_
        refine lv_icmp_ne (tgt := 69) hx hb dX10_determinant_44 (by decide) (fun c31 => ?_) (fun c31 => ?_)
        · refine lv_null hx hb dX10_determinant_69 ?_
          refine lv_astoreN (lv' := [(4, .null), (3, .ref (a (2 + 2 * y.toNatClampNeg))), (0, .ref (a 0)), (1, .int y), (2, .int z)]) hx hb dX10_determinant_70 hl (by decide) rfl (fun ls hl => ?_)
          refine lv_aload_n hx hb dX10_determinant_72 rfl (lv_at hl 2 rfl) ?_
          refine lv_iconst (v := 0) hx hb dX10_determinant_73 (by decide) ?_
          refine lv_iconst (v := 0) hx hb dX10_determinant_74 (by decide) ?_
          refine lv_aload_n hx hb dX10_determinant_75 rfl (lv_at hl 1 rfl) ?_
          refine gf (k0 := 2 + 2 * y.toNatClampNeg) hX hB (mwG (i := y.toNatClampNeg) (a := a) (r := r) (f := f) (q := (va_up q 3 t27)) (T := tb a) (w := w) (by omega)) rfl in7 0 (by decide) wm_5_148 rfl rfl dX10_determinant_76 ?_
          refine lv_aload_n hx hb dX10_determinant_79 rfl (lv_at hl 1 rfl) ?_
          refine gf (k0 := 2 + 2 * y.toNatClampNeg) hX hB (mwG (i := y.toNatClampNeg) (a := a) (r := r) (f := f) (q := (va_up q 3 t27)) (T := tb a) (w := w) (by omega)) rfl in7 1 (by decide) wm_5_152 rfl rfl dX10_determinant_80 ?_
          refine lv_icmp_ne (tgt := 99) hx hb dX10_determinant_83 (by decide) (fun c32 => ?_) (fun c32 => ?_)
          · rw [neqP (a := r (2 * y.toNatClampNeg)) (b := r (2 * y.toNatClampNeg + 1)) (by omega) (by omega)] at c32
            refine lv_iconst (v := 1) hx hb dX10_determinant_99 (by decide) ?_
            refine lv_goto (tgt := 104) hx hb dX10_determinant_100 (by decide) ?_
            refine call_V (n := 3) (k0 := 0) (As := [.int 0, .int 0, .int 1]) (rest := []) hX hB (k_X10_isThrown κ l (mw κ a r f (va_up q 3 t27) (tb a) w) 0 (a 0) (a 1) ((va_up q 3 t27) 0) ((va_up q 3 t27) 1) ((va_up q 3 t27) 2) ((va_up q 3 t27) 3) 0 0 1 (mw0x (a := a) (r := r) (f := f) (q := (va_up q 3 t27)) (T := tb a) (w := w) rfl)) ⟨rfl, by decide, by decide, by decide +kernel⟩ wm_5_192 wm_5_194 wp_28 wm_1_6 wm_5_195 ⟨Nat.le_of_ble_eq_true rfl, Nat.le_of_ble_eq_true rfl⟩ ⟨Nat.le_of_ble_eq_true rfl, Nat.le_of_ble_eq_true rfl⟩ (mw0x (a := a) (r := r) (f := f) (q := (va_up q 3 t27)) (T := tb a) (w := w) rfl) rfl rfl rfl hl.1 rfl (Nat.le_of_ble_eq_true rfl) dX10_determinant_104 (fun o w' H locs hp hB => ?_)
            obtain ⟨x33, t34, rfl, hf35, hw9⟩ := hp
            replace hB : Bd κ A s (mw κ a r f (va_up (va_up q 3 t27) 3 t34) (tb a) w) H locs := by exact Bd_eq (mwQ3x rfl _) (by rw [hw9] at hB; exact hB)
            obtain rfl : x33 = 1 := hf35.trans (by decide)
            refine W.eq (g2 := F0 m 107 ls [.int 1]) rfl ?_
            refine lv_if_eq (tgt := 112) hx hb dX10_determinant_107 (by decide) (fun c36 => False.elim (by revert c36; decide)) (fun _ => ?_)
            refine lv_iconst (v := 0) hx hb dX10_determinant_110 (by decide) ?_
            rw [← hQ]
            exact end_i hX hB hA3 rfl rfl ⟨0, (va_up (va_up q 3 t27) 3 t34), rfl, rfl, rfl⟩ (Nat.le_of_ble_eq_true rfl) (Nat.le_of_ble_eq_true rfl) dX10_determinant_111
          · rw [neqP (a := r (2 * y.toNatClampNeg)) (b := r (2 * y.toNatClampNeg + 1)) (by omega) (by omega)] at c32
            refine lv_aloadN hx hb dX10_determinant_86 (lv_at hl 0 rfl) ?_
            refine lv_ifnullN (tgt := 103) hx hb dX10_determinant_88 (by decide) ?_
            refine lv_iconst (v := 0) hx hb dX10_determinant_103 (by decide) ?_
            refine call_V (n := 3) (k0 := 0) (As := [.int 0, .int 0, .int 0]) (rest := []) hX hB (k_X10_isThrown κ l (mw κ a r f (va_up q 3 t27) (tb a) w) 0 (a 0) (a 1) ((va_up q 3 t27) 0) ((va_up q 3 t27) 1) ((va_up q 3 t27) 2) ((va_up q 3 t27) 3) 0 0 0 (mw0x (a := a) (r := r) (f := f) (q := (va_up q 3 t27)) (T := tb a) (w := w) rfl)) ⟨rfl, by decide, by decide, by decide +kernel⟩ wm_5_192 wm_5_194 wp_28 wm_1_6 wm_5_195 ⟨Nat.le_of_ble_eq_true rfl, Nat.le_of_ble_eq_true rfl⟩ ⟨Nat.le_of_ble_eq_true rfl, Nat.le_of_ble_eq_true rfl⟩ (mw0x (a := a) (r := r) (f := f) (q := (va_up q 3 t27)) (T := tb a) (w := w) rfl) rfl rfl rfl hl.1 rfl (Nat.le_of_ble_eq_true rfl) dX10_determinant_104 (fun o w' H locs hp hB => ?_)
            obtain ⟨x37, t38, rfl, hf39, hw9⟩ := hp
            replace hB : Bd κ A s (mw κ a r f (va_up (va_up q 3 t27) 3 t38) (tb a) w) H locs := by exact Bd_eq (mwQ3x rfl _) (by rw [hw9] at hB; exact hB)
            obtain rfl : x37 = 0 := hf39.trans (by decide)
            refine W.eq (g2 := F0 m 107 ls [.int 0]) rfl ?_
            refine lv_if_eq (tgt := 112) hx hb dX10_determinant_107 (by decide) (fun _ => ?_) (fun c40 => False.elim (by revert c40; decide))
            refine lv_iload_n hx hb dX10_determinant_112 rfl (lv_at hl 4 rfl) ?_
            refine lv_if_ne (tgt := 122) hx hb dX10_determinant_113 (by decide) (fun c41 => ?_) (fun c41 => ?_)
            · refine lv_iload_n hx hb dX10_determinant_122 rfl (lv_at hl 4 rfl) ?_
              refine lv_iconst (v := 1) hx hb dX10_determinant_123 (by decide) ?_
              refine lv_icmp_ne (tgt := 135) hx hb dX10_determinant_124 (by decide) (fun c42 => ?_) (fun c42 => ?_)
              · exact False.elim (by first | omega | exact how_no (z := z) (by assumption) (by assumption) (by assumption) (by assumption) (by assumption))
              · refine lv_aload_n hx hb dX10_determinant_127 rfl (lv_at hl 1 rfl) ?_
                refine lv_iconst (v := 0) hx hb dX10_determinant_128 (by decide) ?_
                refine lv_iconst (v := 0) hx hb dX10_determinant_129 (by decide) ?_
                refine call_S (n := 3) (As := [.ref (a (2 + 2 * y.toNatClampNeg)), .int 0, .int 0]) (rest := []) hX hB (k_X10_bySequences κ l (mw κ a r f (va_up (va_up q 3 t27) 3 t38) (tb a) w) (2 + 2 * y.toNatClampNeg) (3 + 2 * y.toNatClampNeg) (a (2 + 2 * y.toNatClampNeg)) (a (3 + 2 * y.toNatClampNeg)) (r (2 * y.toNatClampNeg)) (r (2 * y.toNatClampNeg + 1)) (f y.toNatClampNeg) 0 0 0 (mwG (i := y.toNatClampNeg) (a := a) (r := r) (f := f) (q := (va_up (va_up q 3 t27) 3 t38)) (T := tb a) (w := w) (by omega)) (mwA (i := y.toNatClampNeg) (a := a) (r := r) (f := f) (q := (va_up (va_up q 3 t27) 3 t38)) (T := tb a) (w := w) (by omega)) (mok_shp (i := y.toNatClampNeg) hm (by omega)) rfl (by omega)) ⟨by decide, by decide, by decide +kernel⟩ wm_7_84 wm_7_85 wm_1_6 wm_7_86 ⟨Nat.le_of_ble_eq_true rfl, Nat.le_of_ble_eq_true rfl⟩ ⟨Nat.le_of_ble_eq_true rfl, Nat.le_of_ble_eq_true rfl⟩ rfl hl.1 rfl (Nat.le_of_ble_eq_true rfl) dX10_determinant_130 (fun o w' H locs hp hB => ?_)
                obtain ⟨z43, rfl, hw9⟩ := hp
                replace hB : Bd κ A s (mw κ a r f (va_up (va_up q 3 t27) 3 t38) (tb a) w) H locs := by rw [hw9] at hB; exact hB
                refine W.eq (g2 := F0 m 133 ls [.long z43]) rfl ?_
                refine lv_l2i hx hb dX10_determinant_133 rfl ?_
                rw [← hQ]
                exact end_i hX hB hA3 rfl rfl ⟨((z43).toInt32), (va_up (va_up q 3 t27) 3 t38), rfl, rfl, rfl⟩ (Nat.le_of_ble_eq_true rfl) (Nat.le_of_ble_eq_true rfl) dX10_determinant_134
            · refine lv_aload_n hx hb dX10_determinant_116 rfl (lv_at hl 1 rfl) ?_
              refine call_S (n := 1) (As := [.ref (a (2 + 2 * y.toNatClampNeg))]) (rest := []) hX hB (k_X10_determinantOf κ l (mw κ a r f (va_up (va_up q 3 t27) 3 t38) (tb a) w) (2 + 2 * y.toNatClampNeg) (3 + 2 * y.toNatClampNeg) (a (2 + 2 * y.toNatClampNeg)) (a (3 + 2 * y.toNatClampNeg)) (r (2 * y.toNatClampNeg)) (r (2 * y.toNatClampNeg + 1)) (f y.toNatClampNeg) (mwG (i := y.toNatClampNeg) (a := a) (r := r) (f := f) (q := (va_up (va_up q 3 t27) 3 t38)) (T := tb a) (w := w) (by omega)) (mwA (i := y.toNatClampNeg) (a := a) (r := r) (f := f) (q := (va_up (va_up q 3 t27) 3 t38)) (T := tb a) (w := w) (by omega)) (mok_shp (i := y.toNatClampNeg) hm (by omega)) (by omega)) ⟨by decide, by decide, by decide +kernel⟩ wm_7_72 wm_7_73 wm_1_6 wm_7_74 ⟨Nat.le_of_ble_eq_true rfl, Nat.le_of_ble_eq_true rfl⟩ ⟨Nat.le_of_ble_eq_true rfl, Nat.le_of_ble_eq_true rfl⟩ rfl hl.1 rfl (Nat.le_of_ble_eq_true rfl) dX10_determinant_117 (fun o w' H locs hp hB => ?_)
              obtain ⟨rfl, hw9⟩ := hp
              replace hB : Bd κ A s (mw κ a r f (va_up (va_up q 3 t27) 3 t38) (tb a) w) H locs := by rw [hw9] at hB; exact hB
              refine W.eq (g2 := F0 m 120 ls [.long (mnv (f y.toNatClampNeg) (r (2 * y.toNatClampNeg + 1)) (r (2 * y.toNatClampNeg)) (2 ^ (r (2 * y.toNatClampNeg)) - 1) (2 ^ (r (2 * y.toNatClampNeg + 1)) - 1))]) rfl ?_
              refine lv_l2i hx hb dX10_determinant_120 rfl ?_
              rw [← hQ]
              exact end_i hX hB hA3 rfl rfl ⟨(((mnv (f y.toNatClampNeg) (r (2 * y.toNatClampNeg + 1)) (r (2 * y.toNatClampNeg)) (2 ^ (r (2 * y.toNatClampNeg)) - 1) (2 ^ (r (2 * y.toNatClampNeg + 1)) - 1))).toInt32), (va_up (va_up q 3 t27) 3 t38), rfl, rfl, rfl⟩ (Nat.le_of_ble_eq_true rfl) (Nat.le_of_ble_eq_true rfl) dX10_determinant_121
        · refine lv_aload_n hx hb dX10_determinant_47 rfl (lv_at hl 0 rfl) ?_
          refine gf (k0 := 2 + 2 * y.toNatClampNeg) hX hB (mwG (i := y.toNatClampNeg) (a := a) (r := r) (f := f) (q := (va_up q 3 t27)) (T := tb a) (w := w) (by omega)) rfl in7 0 (by decide) wm_5_148 rfl rfl dX10_determinant_48 ?_
          refine lv_aload_n hx hb dX10_determinant_51 rfl (lv_at hl 0 rfl) ?_
          refine gf (k0 := 2 + 2 * y.toNatClampNeg) hX hB (mwG (i := y.toNatClampNeg) (a := a) (r := r) (f := f) (q := (va_up q 3 t27)) (T := tb a) (w := w) (by omega)) rfl in7 1 (by decide) wm_5_152 rfl rfl dX10_determinant_52 ?_
          refine lv_icmp_ne (tgt := 69) hx hb dX10_determinant_55 (by decide) (fun c44 => ?_) (fun c44 => ?_)
          · rw [neqP (a := r (2 * y.toNatClampNeg)) (b := r (2 * y.toNatClampNeg + 1)) (by omega) (by omega)] at c44
            refine lv_null hx hb dX10_determinant_69 ?_
            refine lv_astoreN (lv' := [(4, .null), (3, .ref (a (2 + 2 * y.toNatClampNeg))), (0, .ref (a 0)), (1, .int y), (2, .int z)]) hx hb dX10_determinant_70 hl (by decide) rfl (fun ls hl => ?_)
            refine lv_aload_n hx hb dX10_determinant_72 rfl (lv_at hl 2 rfl) ?_
            refine lv_iconst (v := 0) hx hb dX10_determinant_73 (by decide) ?_
            refine lv_iconst (v := 0) hx hb dX10_determinant_74 (by decide) ?_
            refine lv_aload_n hx hb dX10_determinant_75 rfl (lv_at hl 1 rfl) ?_
            refine gf (k0 := 2 + 2 * y.toNatClampNeg) hX hB (mwG (i := y.toNatClampNeg) (a := a) (r := r) (f := f) (q := (va_up q 3 t27)) (T := tb a) (w := w) (by omega)) rfl in7 0 (by decide) wm_5_148 rfl rfl dX10_determinant_76 ?_
            refine lv_aload_n hx hb dX10_determinant_79 rfl (lv_at hl 1 rfl) ?_
            refine gf (k0 := 2 + 2 * y.toNatClampNeg) hX hB (mwG (i := y.toNatClampNeg) (a := a) (r := r) (f := f) (q := (va_up q 3 t27)) (T := tb a) (w := w) (by omega)) rfl in7 1 (by decide) wm_5_152 rfl rfl dX10_determinant_80 ?_
            refine lv_icmp_ne (tgt := 99) hx hb dX10_determinant_83 (by decide) (fun c45 => ?_) (fun c45 => ?_)
            · rw [neqP (a := r (2 * y.toNatClampNeg)) (b := r (2 * y.toNatClampNeg + 1)) (by omega) (by omega)] at c45
              refine lv_iconst (v := 1) hx hb dX10_determinant_99 (by decide) ?_
              refine lv_goto (tgt := 104) hx hb dX10_determinant_100 (by decide) ?_
              refine call_V (n := 3) (k0 := 0) (As := [.int 0, .int 0, .int 1]) (rest := []) hX hB (k_X10_isThrown κ l (mw κ a r f (va_up q 3 t27) (tb a) w) 0 (a 0) (a 1) ((va_up q 3 t27) 0) ((va_up q 3 t27) 1) ((va_up q 3 t27) 2) ((va_up q 3 t27) 3) 0 0 1 (mw0x (a := a) (r := r) (f := f) (q := (va_up q 3 t27)) (T := tb a) (w := w) rfl)) ⟨rfl, by decide, by decide, by decide +kernel⟩ wm_5_192 wm_5_194 wp_28 wm_1_6 wm_5_195 ⟨Nat.le_of_ble_eq_true rfl, Nat.le_of_ble_eq_true rfl⟩ ⟨Nat.le_of_ble_eq_true rfl, Nat.le_of_ble_eq_true rfl⟩ (mw0x (a := a) (r := r) (f := f) (q := (va_up q 3 t27)) (T := tb a) (w := w) rfl) rfl rfl rfl hl.1 rfl (Nat.le_of_ble_eq_true rfl) dX10_determinant_104 (fun o w' H locs hp hB => ?_)
              obtain ⟨x46, t47, rfl, hf48, hw9⟩ := hp
              replace hB : Bd κ A s (mw κ a r f (va_up (va_up q 3 t27) 3 t47) (tb a) w) H locs := by exact Bd_eq (mwQ3x rfl _) (by rw [hw9] at hB; exact hB)
              obtain rfl : x46 = 1 := hf48.trans (by decide)
              refine W.eq (g2 := F0 m 107 ls [.int 1]) rfl ?_
              refine lv_if_eq (tgt := 112) hx hb dX10_determinant_107 (by decide) (fun c49 => False.elim (by revert c49; decide)) (fun _ => ?_)
              refine lv_iconst (v := 0) hx hb dX10_determinant_110 (by decide) ?_
              rw [← hQ]
              exact end_i hX hB hA3 rfl rfl ⟨0, (va_up (va_up q 3 t27) 3 t47), rfl, rfl, rfl⟩ (Nat.le_of_ble_eq_true rfl) (Nat.le_of_ble_eq_true rfl) dX10_determinant_111
            · rw [neqP (a := r (2 * y.toNatClampNeg)) (b := r (2 * y.toNatClampNeg + 1)) (by omega) (by omega)] at c45
              refine lv_aloadN hx hb dX10_determinant_86 (lv_at hl 0 rfl) ?_
              refine lv_ifnullN (tgt := 103) hx hb dX10_determinant_88 (by decide) ?_
              refine lv_iconst (v := 0) hx hb dX10_determinant_103 (by decide) ?_
              refine call_V (n := 3) (k0 := 0) (As := [.int 0, .int 0, .int 0]) (rest := []) hX hB (k_X10_isThrown κ l (mw κ a r f (va_up q 3 t27) (tb a) w) 0 (a 0) (a 1) ((va_up q 3 t27) 0) ((va_up q 3 t27) 1) ((va_up q 3 t27) 2) ((va_up q 3 t27) 3) 0 0 0 (mw0x (a := a) (r := r) (f := f) (q := (va_up q 3 t27)) (T := tb a) (w := w) rfl)) ⟨rfl, by decide, by decide, by decide +kernel⟩ wm_5_192 wm_5_194 wp_28 wm_1_6 wm_5_195 ⟨Nat.le_of_ble_eq_true rfl, Nat.le_of_ble_eq_true rfl⟩ ⟨Nat.le_of_ble_eq_true rfl, Nat.le_of_ble_eq_true rfl⟩ (mw0x (a := a) (r := r) (f := f) (q := (va_up q 3 t27)) (T := tb a) (w := w) rfl) rfl rfl rfl hl.1 rfl (Nat.le_of_ble_eq_true rfl) dX10_determinant_104 (fun o w' H locs hp hB => ?_)
              obtain ⟨x50, t51, rfl, hf52, hw9⟩ := hp
              replace hB : Bd κ A s (mw κ a r f (va_up (va_up q 3 t27) 3 t51) (tb a) w) H locs := by exact Bd_eq (mwQ3x rfl _) (by rw [hw9] at hB; exact hB)
              obtain rfl : x50 = 0 := hf52.trans (by decide)
              refine W.eq (g2 := F0 m 107 ls [.int 0]) rfl ?_
              refine lv_if_eq (tgt := 112) hx hb dX10_determinant_107 (by decide) (fun _ => ?_) (fun c53 => False.elim (by revert c53; decide))
              refine lv_iload_n hx hb dX10_determinant_112 rfl (lv_at hl 4 rfl) ?_
              refine lv_if_ne (tgt := 122) hx hb dX10_determinant_113 (by decide) (fun c54 => ?_) (fun c54 => ?_)
              · refine lv_iload_n hx hb dX10_determinant_122 rfl (lv_at hl 4 rfl) ?_
                refine lv_iconst (v := 1) hx hb dX10_determinant_123 (by decide) ?_
                refine lv_icmp_ne (tgt := 135) hx hb dX10_determinant_124 (by decide) (fun c55 => ?_) (fun c55 => ?_)
                · exact False.elim (by first | omega | exact how_no (z := z) (by assumption) (by assumption) (by assumption) (by assumption) (by assumption))
                · refine lv_aload_n hx hb dX10_determinant_127 rfl (lv_at hl 1 rfl) ?_
                  refine lv_iconst (v := 0) hx hb dX10_determinant_128 (by decide) ?_
                  refine lv_iconst (v := 0) hx hb dX10_determinant_129 (by decide) ?_
                  refine call_S (n := 3) (As := [.ref (a (2 + 2 * y.toNatClampNeg)), .int 0, .int 0]) (rest := []) hX hB (k_X10_bySequences κ l (mw κ a r f (va_up (va_up q 3 t27) 3 t51) (tb a) w) (2 + 2 * y.toNatClampNeg) (3 + 2 * y.toNatClampNeg) (a (2 + 2 * y.toNatClampNeg)) (a (3 + 2 * y.toNatClampNeg)) (r (2 * y.toNatClampNeg)) (r (2 * y.toNatClampNeg + 1)) (f y.toNatClampNeg) 0 0 0 (mwG (i := y.toNatClampNeg) (a := a) (r := r) (f := f) (q := (va_up (va_up q 3 t27) 3 t51)) (T := tb a) (w := w) (by omega)) (mwA (i := y.toNatClampNeg) (a := a) (r := r) (f := f) (q := (va_up (va_up q 3 t27) 3 t51)) (T := tb a) (w := w) (by omega)) (mok_shp (i := y.toNatClampNeg) hm (by omega)) rfl (by omega)) ⟨by decide, by decide, by decide +kernel⟩ wm_7_84 wm_7_85 wm_1_6 wm_7_86 ⟨Nat.le_of_ble_eq_true rfl, Nat.le_of_ble_eq_true rfl⟩ ⟨Nat.le_of_ble_eq_true rfl, Nat.le_of_ble_eq_true rfl⟩ rfl hl.1 rfl (Nat.le_of_ble_eq_true rfl) dX10_determinant_130 (fun o w' H locs hp hB => ?_)
                  obtain ⟨z56, rfl, hw9⟩ := hp
                  replace hB : Bd κ A s (mw κ a r f (va_up (va_up q 3 t27) 3 t51) (tb a) w) H locs := by rw [hw9] at hB; exact hB
                  refine W.eq (g2 := F0 m 133 ls [.long z56]) rfl ?_
                  refine lv_l2i hx hb dX10_determinant_133 rfl ?_
                  rw [← hQ]
                  exact end_i hX hB hA3 rfl rfl ⟨((z56).toInt32), (va_up (va_up q 3 t27) 3 t51), rfl, rfl, rfl⟩ (Nat.le_of_ble_eq_true rfl) (Nat.le_of_ble_eq_true rfl) dX10_determinant_134
              · refine lv_aload_n hx hb dX10_determinant_116 rfl (lv_at hl 1 rfl) ?_
                refine call_S (n := 1) (As := [.ref (a (2 + 2 * y.toNatClampNeg))]) (rest := []) hX hB (k_X10_determinantOf κ l (mw κ a r f (va_up (va_up q 3 t27) 3 t51) (tb a) w) (2 + 2 * y.toNatClampNeg) (3 + 2 * y.toNatClampNeg) (a (2 + 2 * y.toNatClampNeg)) (a (3 + 2 * y.toNatClampNeg)) (r (2 * y.toNatClampNeg)) (r (2 * y.toNatClampNeg + 1)) (f y.toNatClampNeg) (mwG (i := y.toNatClampNeg) (a := a) (r := r) (f := f) (q := (va_up (va_up q 3 t27) 3 t51)) (T := tb a) (w := w) (by omega)) (mwA (i := y.toNatClampNeg) (a := a) (r := r) (f := f) (q := (va_up (va_up q 3 t27) 3 t51)) (T := tb a) (w := w) (by omega)) (mok_shp (i := y.toNatClampNeg) hm (by omega)) (by omega)) ⟨by decide, by decide, by decide +kernel⟩ wm_7_72 wm_7_73 wm_1_6 wm_7_74 ⟨Nat.le_of_ble_eq_true rfl, Nat.le_of_ble_eq_true rfl⟩ ⟨Nat.le_of_ble_eq_true rfl, Nat.le_of_ble_eq_true rfl⟩ rfl hl.1 rfl (Nat.le_of_ble_eq_true rfl) dX10_determinant_117 (fun o w' H locs hp hB => ?_)
                obtain ⟨rfl, hw9⟩ := hp
                replace hB : Bd κ A s (mw κ a r f (va_up (va_up q 3 t27) 3 t51) (tb a) w) H locs := by rw [hw9] at hB; exact hB
                refine W.eq (g2 := F0 m 120 ls [.long (mnv (f y.toNatClampNeg) (r (2 * y.toNatClampNeg + 1)) (r (2 * y.toNatClampNeg)) (2 ^ (r (2 * y.toNatClampNeg)) - 1) (2 ^ (r (2 * y.toNatClampNeg + 1)) - 1))]) rfl ?_
                refine lv_l2i hx hb dX10_determinant_120 rfl ?_
                rw [← hQ]
                exact end_i hX hB hA3 rfl rfl ⟨(((mnv (f y.toNatClampNeg) (r (2 * y.toNatClampNeg + 1)) (r (2 * y.toNatClampNeg)) (2 ^ (r (2 * y.toNatClampNeg)) - 1) (2 ^ (r (2 * y.toNatClampNeg + 1)) - 1))).toInt32), (va_up (va_up q 3 t27) 3 t51), rfl, rfl, rfl⟩ (Nat.le_of_ble_eq_true rfl) (Nat.le_of_ble_eq_true rfl) dX10_determinant_121
          · rw [neqP (a := r (2 * y.toNatClampNeg)) (b := r (2 * y.toNatClampNeg + 1)) (by omega) (by omega)] at c44
            refine newO (fs := [.null, .null, .int 0, .int 0]) hX hB (ci := 9) rfl in8 tyX8_ok wm_6_123 wm_6_124 wm_1_15 df9 (Nat.le_of_ble_eq_true rfl) (Nat.le_of_ble_eq_true rfl) dX10_determinant_58 (fun q57 H hB => ?_)
            refine lv_dup hx hb dX10_determinant_61 rfl ?_
            refine lv_aload_n hx hb dX10_determinant_62 rfl (lv_at hl 0 rfl) ?_
            refine call_I (n := 1) (As := [.ref (a (2 + 2 * y.toNatClampNeg))]) (rest := [.ref q57]) hX hB (k_X8_init κ l (mw κ a r f (va_up q 3 t27) (tb a) w) q57 (2 + 2 * y.toNatClampNeg) (3 + 2 * y.toNatClampNeg) (a (2 + 2 * y.toNatClampNeg)) (a (3 + 2 * y.toNatClampNeg)) (r (2 * y.toNatClampNeg)) (r (2 * y.toNatClampNeg + 1)) (f y.toNatClampNeg) (mwG (i := y.toNatClampNeg) (a := a) (r := r) (f := f) (q := (va_up q 3 t27)) (T := tb a) (w := w) (by omega)) (mwA (i := y.toNatClampNeg) (a := a) (r := r) (f := f) (q := (va_up q 3 t27)) (T := tb a) (w := w) (by omega)) (mok_shp (i := y.toNatClampNeg) hm (by omega)) (fun k hk => sm_ng ((hm _ (by omega)).2 k hk))) ⟨by decide, by decide, by decide +kernel⟩ rfl wm_6_125 wm_6_126 wm_1_15 wm_6_127 ⟨Nat.le_of_ble_eq_true rfl, Nat.le_of_ble_eq_true rfl⟩ ⟨Nat.le_of_ble_eq_true rfl, Nat.le_of_ble_eq_true rfl⟩ rfl hl.1 rfl (Nat.le_of_ble_eq_true rfl) dX10_determinant_63 (fun o w' H locs hp hB => ?_)
            obtain ⟨g58, b59, g60, b61, F62, F63, S64, G65, rfl, hf66, hw9⟩ := hp
            replace hB : Bd κ A s (lA κ b59 ((r (2 * y.toNatClampNeg)) * 5) F62 :: gO g58 (r (2 * y.toNatClampNeg)) (r (2 * y.toNatClampNeg)) b59 :: lA κ b61 ((r (2 * y.toNatClampNeg)) * 5) F63 :: gO g60 (r (2 * y.toNatClampNeg)) (r (2 * y.toNatClampNeg + 1)) b61 :: (q57, .inr (9, [.ref g60, .ref g58, .int S64, .int G65])) :: mw κ a r f (va_up q 3 t27) (tb a) w) H locs := by rw [hw9] at hB; exact hB
            refine W.eq (g2 := F0 m 66 ls [.ref q57]) rfl ?_
            refine lv_goto (tgt := 70) hx hb dX10_determinant_66 (by decide) ?_
            refine lv_astore (lv' := [(4, .ref q57), (3, .ref (a (2 + 2 * y.toNatClampNeg))), (0, .ref (a 0)), (1, .int y), (2, .int z)]) hx hb dX10_determinant_70 hl (by decide) rfl (fun ls hl => ?_)
            refine lv_aload_n hx hb dX10_determinant_72 rfl (lv_at hl 2 rfl) ?_
            refine lv_iconst (v := 0) hx hb dX10_determinant_73 (by decide) ?_
            refine lv_iconst (v := 0) hx hb dX10_determinant_74 (by decide) ?_
            refine lv_aload_n hx hb dX10_determinant_75 rfl (lv_at hl 1 rfl) ?_
            refine gf (k0 := 2 + 2 * y.toNatClampNeg + 5) hX hB (mwG (i := y.toNatClampNeg) (a := a) (r := r) (f := f) (q := (va_up q 3 t27)) (T := tb a) (w := w) (by omega)) rfl in7 0 (by decide) wm_5_148 rfl rfl dX10_determinant_76 ?_
            refine lv_aload_n hx hb dX10_determinant_79 rfl (lv_at hl 1 rfl) ?_
            refine gf (k0 := 2 + 2 * y.toNatClampNeg + 5) hX hB (mwG (i := y.toNatClampNeg) (a := a) (r := r) (f := f) (q := (va_up q 3 t27)) (T := tb a) (w := w) (by omega)) rfl in7 1 (by decide) wm_5_152 rfl rfl dX10_determinant_80 ?_
            refine lv_icmp_ne (tgt := 99) hx hb dX10_determinant_83 (by decide) (fun c67 => ?_) (fun c67 => ?_)
            · rw [neqP (a := r (2 * y.toNatClampNeg)) (b := r (2 * y.toNatClampNeg + 1)) (by omega) (by omega)] at c67
              refine lv_iconst (v := 1) hx hb dX10_determinant_99 (by decide) ?_
              refine lv_goto (tgt := 104) hx hb dX10_determinant_100 (by decide) ?_
              refine call_V (n := 3) (k0 := 5) (As := [.int 0, .int 0, .int 1]) (rest := []) hX hB (k_X10_isThrown κ l (lA κ b59 ((r (2 * y.toNatClampNeg)) * 5) F62 :: gO g58 (r (2 * y.toNatClampNeg)) (r (2 * y.toNatClampNeg)) b59 :: lA κ b61 ((r (2 * y.toNatClampNeg)) * 5) F63 :: gO g60 (r (2 * y.toNatClampNeg)) (r (2 * y.toNatClampNeg + 1)) b61 :: (q57, .inr (9, [.ref g60, .ref g58, .int S64, .int G65])) :: mw κ a r f (va_up q 3 t27) (tb a) w) 5 (a 0) (a 1) ((va_up q 3 t27) 0) ((va_up q 3 t27) 1) ((va_up q 3 t27) 2) ((va_up q 3 t27) 3) 0 0 1 (mw0x (a := a) (r := r) (f := f) (q := (va_up q 3 t27)) (T := tb a) (w := w) rfl)) ⟨rfl, by decide, by decide, by decide +kernel⟩ wm_5_192 wm_5_194 wp_28 wm_1_6 wm_5_195 ⟨Nat.le_of_ble_eq_true rfl, Nat.le_of_ble_eq_true rfl⟩ ⟨Nat.le_of_ble_eq_true rfl, Nat.le_of_ble_eq_true rfl⟩ (mw0x (a := a) (r := r) (f := f) (q := (va_up q 3 t27)) (T := tb a) (w := w) rfl) rfl rfl rfl hl.1 rfl (Nat.le_of_ble_eq_true rfl) dX10_determinant_104 (fun o w' H locs hp hB => ?_)
              obtain ⟨x68, t69, rfl, hf70, hw9⟩ := hp
              replace hB : Bd κ A s (lA κ b59 ((r (2 * y.toNatClampNeg)) * 5) F62 :: gO g58 (r (2 * y.toNatClampNeg)) (r (2 * y.toNatClampNeg)) b59 :: lA κ b61 ((r (2 * y.toNatClampNeg)) * 5) F63 :: gO g60 (r (2 * y.toNatClampNeg)) (r (2 * y.toNatClampNeg + 1)) b61 :: (q57, .inr (9, [.ref g60, .ref g58, .int S64, .int G65])) :: mw κ a r f (va_up (va_up q 3 t27) 3 t69) (tb a) w) H locs := by exact Bd_eq (congrArg (List.cons _) (congrArg (List.cons _) (congrArg (List.cons _) (congrArg (List.cons _) (congrArg (List.cons _) (mwQ3x rfl _)))))) (by rw [hw9] at hB; exact hB)
              obtain rfl : x68 = 1 := hf70.trans (by decide)
              refine W.eq (g2 := F0 m 107 ls [.int 1]) rfl ?_
              refine lv_if_eq (tgt := 112) hx hb dX10_determinant_107 (by decide) (fun c71 => False.elim (by revert c71; decide)) (fun _ => ?_)
              refine lv_iconst (v := 0) hx hb dX10_determinant_110 (by decide) ?_
              replace hB : Bd κ A s (lA κ b59 ((r (2 * y.toNatClampNeg)) * 5) F62 :: gO g58 (r (2 * y.toNatClampNeg)) (r (2 * y.toNatClampNeg)) b59 :: lA κ b61 ((r (2 * y.toNatClampNeg)) * 5) F63 :: gO g60 (r (2 * y.toNatClampNeg)) (r (2 * y.toNatClampNeg + 1)) b61 :: mw κ a r f (va_up (va_up q 3 t27) 3 t69) (tb a) w) H locs := Bd_del 4 hB
              replace hB : Bd κ A s (lA κ b59 ((r (2 * y.toNatClampNeg)) * 5) F62 :: gO g58 (r (2 * y.toNatClampNeg)) (r (2 * y.toNatClampNeg)) b59 :: lA κ b61 ((r (2 * y.toNatClampNeg)) * 5) F63 :: mw κ a r f (va_up (va_up q 3 t27) 3 t69) (tb a) w) H locs := Bd_del 3 hB
              replace hB : Bd κ A s (lA κ b59 ((r (2 * y.toNatClampNeg)) * 5) F62 :: gO g58 (r (2 * y.toNatClampNeg)) (r (2 * y.toNatClampNeg)) b59 :: mw κ a r f (va_up (va_up q 3 t27) 3 t69) (tb a) w) H locs := Bd_del 2 hB
              replace hB : Bd κ A s (lA κ b59 ((r (2 * y.toNatClampNeg)) * 5) F62 :: mw κ a r f (va_up (va_up q 3 t27) 3 t69) (tb a) w) H locs := Bd_del 1 hB
              replace hB : Bd κ A s (mw κ a r f (va_up (va_up q 3 t27) 3 t69) (tb a) w) H locs := Bd_del 0 hB
              rw [← hQ]
              exact end_i hX hB hA3 rfl rfl ⟨0, (va_up (va_up q 3 t27) 3 t69), rfl, rfl, rfl⟩ (Nat.le_of_ble_eq_true rfl) (Nat.le_of_ble_eq_true rfl) dX10_determinant_111
            · rw [neqP (a := r (2 * y.toNatClampNeg)) (b := r (2 * y.toNatClampNeg + 1)) (by omega) (by omega)] at c67
              refine lv_aload hx hb dX10_determinant_86 (lv_at hl 0 rfl) ?_
              refine lv_ifnull hx hb dX10_determinant_88 ?_
              refine lv_aload hx hb dX10_determinant_91 (lv_at hl 0 rfl) ?_
              refine gf (k0 := 4) hX hB rfl rfl in8 3 (by decide) wm_6_162 rfl rfl dX10_determinant_93 ?_
              refine lv_if_eq (tgt := 103) hx hb dX10_determinant_96 (by decide) (fun c72 => ?_) (fun c72 => ?_)
              · refine lv_iconst (v := 0) hx hb dX10_determinant_103 (by decide) ?_
                refine call_V (n := 3) (k0 := 5) (As := [.int 0, .int 0, .int 0]) (rest := []) hX hB (k_X10_isThrown κ l (lA κ b59 ((r (2 * y.toNatClampNeg)) * 5) F62 :: gO g58 (r (2 * y.toNatClampNeg)) (r (2 * y.toNatClampNeg)) b59 :: lA κ b61 ((r (2 * y.toNatClampNeg)) * 5) F63 :: gO g60 (r (2 * y.toNatClampNeg)) (r (2 * y.toNatClampNeg + 1)) b61 :: (q57, .inr (9, [.ref g60, .ref g58, .int S64, .int G65])) :: mw κ a r f (va_up q 3 t27) (tb a) w) 5 (a 0) (a 1) ((va_up q 3 t27) 0) ((va_up q 3 t27) 1) ((va_up q 3 t27) 2) ((va_up q 3 t27) 3) 0 0 0 (mw0x (a := a) (r := r) (f := f) (q := (va_up q 3 t27)) (T := tb a) (w := w) rfl)) ⟨rfl, by decide, by decide, by decide +kernel⟩ wm_5_192 wm_5_194 wp_28 wm_1_6 wm_5_195 ⟨Nat.le_of_ble_eq_true rfl, Nat.le_of_ble_eq_true rfl⟩ ⟨Nat.le_of_ble_eq_true rfl, Nat.le_of_ble_eq_true rfl⟩ (mw0x (a := a) (r := r) (f := f) (q := (va_up q 3 t27)) (T := tb a) (w := w) rfl) rfl rfl rfl hl.1 rfl (Nat.le_of_ble_eq_true rfl) dX10_determinant_104 (fun o w' H locs hp hB => ?_)
                obtain ⟨x73, t74, rfl, hf75, hw9⟩ := hp
                replace hB : Bd κ A s (lA κ b59 ((r (2 * y.toNatClampNeg)) * 5) F62 :: gO g58 (r (2 * y.toNatClampNeg)) (r (2 * y.toNatClampNeg)) b59 :: lA κ b61 ((r (2 * y.toNatClampNeg)) * 5) F63 :: gO g60 (r (2 * y.toNatClampNeg)) (r (2 * y.toNatClampNeg + 1)) b61 :: (q57, .inr (9, [.ref g60, .ref g58, .int S64, .int G65])) :: mw κ a r f (va_up (va_up q 3 t27) 3 t74) (tb a) w) H locs := by exact Bd_eq (congrArg (List.cons _) (congrArg (List.cons _) (congrArg (List.cons _) (congrArg (List.cons _) (congrArg (List.cons _) (mwQ3x rfl _)))))) (by rw [hw9] at hB; exact hB)
                obtain rfl : x73 = 0 := hf75.trans (by decide)
                refine W.eq (g2 := F0 m 107 ls [.int 0]) rfl ?_
                refine lv_if_eq (tgt := 112) hx hb dX10_determinant_107 (by decide) (fun _ => ?_) (fun c76 => False.elim (by revert c76; decide))
                refine lv_iload_n hx hb dX10_determinant_112 rfl (lv_at hl 4 rfl) ?_
                refine lv_if_ne (tgt := 122) hx hb dX10_determinant_113 (by decide) (fun c77 => ?_) (fun c77 => ?_)
                · refine lv_iload_n hx hb dX10_determinant_122 rfl (lv_at hl 4 rfl) ?_
                  refine lv_iconst (v := 1) hx hb dX10_determinant_123 (by decide) ?_
                  refine lv_icmp_ne (tgt := 135) hx hb dX10_determinant_124 (by decide) (fun c78 => ?_) (fun c78 => ?_)
                  · refine lv_aload hx hb dX10_determinant_135 (lv_at hl 0 rfl) ?_
                    refine gf (k0 := 4) hX hB rfl rfl in8 2 (by decide) wm_6_160 rfl rfl dX10_determinant_137 ?_
                    refine lv_i2l hx hb dX10_determinant_140 rfl ?_
                    refine lv_lstore (lv' := [(5, .long ((S64).toInt64)), (4, .ref q57), (3, .ref (a (2 + 2 * y.toNatClampNeg))), (0, .ref (a 0)), (1, .int y), (2, .int z)]) hx hb dX10_determinant_141 hl (by decide) rfl (fun ls hl => ?_)
                    refine lv_iconst (v := 0) hx hb dX10_determinant_143 (by decide) ?_
                    refine lv_istore (lv' := [(7, .int 0), (5, .long ((S64).toInt64)), (4, .ref q57), (3, .ref (a (2 + 2 * y.toNatClampNeg))), (0, .ref (a 0)), (1, .int y), (2, .int z)]) hx hb dX10_determinant_144 hl (by decide) rfl (fun ls hl => ?_)
                    have lp146 : ∀ (nn : Nat) (y7_146 : Nat) (y5_146 : Int64) (H : Heap) (locs : List Loc), (y7_146 ≤ (r (2 * y.toNatClampNeg))) → (r (2 * y.toNatClampNeg)) + 1 - y7_146 < nn → Bd κ A s (lA κ b59 ((r (2 * y.toNatClampNeg)) * 5) F62 :: gO g58 (r (2 * y.toNatClampNeg)) (r (2 * y.toNatClampNeg)) b59 :: lA κ b61 ((r (2 * y.toNatClampNeg)) * 5) F63 :: gO g60 (r (2 * y.toNatClampNeg)) (r (2 * y.toNatClampNeg + 1)) b61 :: (q57, .inr (9, [.ref g60, .ref g58, .int S64, .int G65])) :: mw κ a r f (va_up (va_up q 3 t27) 3 t74) (tb a) w) H locs → ∀ ls : Array Slot, lv_has ls 8 [(7, .int (nI y7_146)), (5, .long y5_146), (4, .ref q57), (3, .ref (a (2 + 2 * y.toNatClampNeg))), (0, .ref (a 0)), (1, .int y), (2, .int z)] → W p l e (Rm 7 188 5 50) s m args below meth c H locs 5 50 Q (F0 m 146 ls []) := by
                      intro nn
                      induction nn with
                      | zero => intro y7_146 y5_146 H locs hn7_146 hμ; exact absurd hμ (Nat.not_lt_zero _)
                      | succ nn ih146 =>
                        intro y7_146 y5_146 H locs hn7_146 hμ146 hB ls hl
                        refine lv_iload hx hb dX10_determinant_146 (lv_at hl 0 rfl) ?_
                        refine lv_aload_n hx hb dX10_determinant_148 rfl (lv_at hl 3 rfl) ?_
                        refine gf (k0 := 2 + 2 * y.toNatClampNeg + 5) hX hB (mwG (i := y.toNatClampNeg) (a := a) (r := r) (f := f) (q := (va_up (va_up q 3 t27) 3 t74)) (T := tb a) (w := w) (by omega)) rfl in7 0 (by decide) wm_5_148 rfl rfl dX10_determinant_149 ?_
                        refine lv_icmp_ge (tgt := 178) hx hb dX10_determinant_152 (by decide) (fun c81 => ?_) (fun c81 => ?_)
                        · rw [nleP (a := r (2 * y.toNatClampNeg)) (b := y7_146) (by omega) (by omega)] at c81
                          refine lv_lload hx hb dX10_determinant_178 (lv_at hl 1 rfl) ?_
                          refine lv_l2i hx hb dX10_determinant_180 rfl ?_
                          replace hB : Bd κ A s (lA κ b59 ((r (2 * y.toNatClampNeg)) * 5) F62 :: gO g58 (r (2 * y.toNatClampNeg)) (r (2 * y.toNatClampNeg)) b59 :: lA κ b61 ((r (2 * y.toNatClampNeg)) * 5) F63 :: gO g60 (r (2 * y.toNatClampNeg)) (r (2 * y.toNatClampNeg + 1)) b61 :: mw κ a r f (va_up (va_up q 3 t27) 3 t74) (tb a) w) H locs := Bd_del 4 hB
                          replace hB : Bd κ A s (lA κ b59 ((r (2 * y.toNatClampNeg)) * 5) F62 :: gO g58 (r (2 * y.toNatClampNeg)) (r (2 * y.toNatClampNeg)) b59 :: lA κ b61 ((r (2 * y.toNatClampNeg)) * 5) F63 :: mw κ a r f (va_up (va_up q 3 t27) 3 t74) (tb a) w) H locs := Bd_del 3 hB
                          replace hB : Bd κ A s (lA κ b59 ((r (2 * y.toNatClampNeg)) * 5) F62 :: gO g58 (r (2 * y.toNatClampNeg)) (r (2 * y.toNatClampNeg)) b59 :: mw κ a r f (va_up (va_up q 3 t27) 3 t74) (tb a) w) H locs := Bd_del 2 hB
                          replace hB : Bd κ A s (lA κ b59 ((r (2 * y.toNatClampNeg)) * 5) F62 :: mw κ a r f (va_up (va_up q 3 t27) 3 t74) (tb a) w) H locs := Bd_del 1 hB
                          replace hB : Bd κ A s (mw κ a r f (va_up (va_up q 3 t27) 3 t74) (tb a) w) H locs := Bd_del 0 hB
                          rw [← hQ]
                          exact end_i hX hB hA3 rfl rfl ⟨((y5_146).toInt32), (va_up (va_up q 3 t27) 3 t74), rfl, rfl, rfl⟩ (Nat.le_of_ble_eq_true rfl) (Nat.le_of_ble_eq_true rfl) dX10_determinant_181
                        · rw [nleP (a := r (2 * y.toNatClampNeg)) (b := y7_146) (by omega) (by omega)] at c81
                          refine lv_lload hx hb dX10_determinant_155 (lv_at hl 1 rfl) ?_
                          refine lv_aload hx hb dX10_determinant_157 (lv_at hl 2 rfl) ?_
                          refine gf (k0 := 4) hX hB rfl rfl in8 0 (by decide) wm_6_156 rfl rfl dX10_determinant_159 ?_
                          refine lv_iload hx hb dX10_determinant_162 (lv_at hl 0 rfl) ?_
                          refine lv_iload hx hb dX10_determinant_164 (lv_at hl 0 rfl) ?_
                          refine call_V (n := 2) (k0 := 3) (As := [.int (nI y7_146), .int (nI y7_146)]) (rest := [.long y5_146]) hX hB (k_X7_at κ l (lA κ b59 ((r (2 * y.toNatClampNeg)) * 5) F62 :: gO g58 (r (2 * y.toNatClampNeg)) (r (2 * y.toNatClampNeg)) b59 :: lA κ b61 ((r (2 * y.toNatClampNeg)) * 5) F63 :: gO g60 (r (2 * y.toNatClampNeg)) (r (2 * y.toNatClampNeg + 1)) b61 :: (q57, .inr (9, [.ref g60, .ref g58, .int S64, .int G65])) :: mw κ a r f (va_up (va_up q 3 t27) 3 t74) (tb a) w) 3 2 g60 b61 (r (2 * y.toNatClampNeg)) (r (2 * y.toNatClampNeg + 1)) F63 (nI y7_146) y7_146 (nI y7_146) y7_146 rfl rfl (mok_shp (i := y.toNatClampNeg) hm (by omega)) rfl rfl (by omega)) ⟨rfl, by decide, by decide, by decide +kernel⟩ wm_5_233 wm_5_234 wm_5_235 wm_1_7 wm_5_236 ⟨Nat.le_of_ble_eq_true rfl, Nat.le_of_ble_eq_true rfl⟩ ⟨Nat.le_of_ble_eq_true rfl, Nat.le_of_ble_eq_true rfl⟩ rfl rfl rfl rfl hl.1 rfl (Nat.le_of_ble_eq_true rfl) dX10_determinant_166 (fun o w' H locs hp hB => ?_)
                          obtain ⟨rfl, hw9⟩ := hp
                          replace hB : Bd κ A s (lA κ b59 ((r (2 * y.toNatClampNeg)) * 5) F62 :: gO g58 (r (2 * y.toNatClampNeg)) (r (2 * y.toNatClampNeg)) b59 :: lA κ b61 ((r (2 * y.toNatClampNeg)) * 5) F63 :: gO g60 (r (2 * y.toNatClampNeg)) (r (2 * y.toNatClampNeg + 1)) b61 :: (q57, .inr (9, [.ref g60, .ref g58, .int S64, .int G65])) :: mw κ a r f (va_up (va_up q 3 t27) 3 t74) (tb a) w) H locs := by rw [hw9] at hB; exact hB
                          refine W.eq (g2 := F0 m 169 ls [.long (F63 (y7_146 * 5 + y7_146)), .long y5_146]) rfl ?_
                          refine lv_lmul hx hb dX10_determinant_169 ?_
                          refine lv_lstore (lv' := [(5, .long (y5_146 * (F63 (y7_146 * 5 + y7_146)))), (7, .int (nI y7_146)), (4, .ref q57), (3, .ref (a (2 + 2 * y.toNatClampNeg))), (0, .ref (a 0)), (1, .int y), (2, .int z)]) hx hb dX10_determinant_170 hl (by decide) rfl (fun ls hl => ?_)
                          refine lv_iinc (v := nI (y7_146 + 1)) (lv' := [(7, .int (nI (y7_146 + 1))), (5, .long (y5_146 * (F63 (y7_146 * 5 + y7_146)))), (4, .ref q57), (3, .ref (a (2 + 2 * y.toNatClampNeg))), (0, .ref (a 0)), (1, .int y), (2, .int z)]) hx hb dX10_determinant_172 hl (k := 1) rfl (nI_add y7_146 1) (by decide) rfl (fun ls hl => ?_)
                          refine lv_goto (tgt := 146) hx hb dX10_determinant_175 (by decide) ?_
                          exact ih146 (y7_146 + 1) (y5_146 * (F63 (y7_146 * 5 + y7_146))) _ _ (by omega) (by omega) hB _ hl
                    exact lp146 _ 0 ((S64).toInt64) _ _ (by omega) (Nat.lt_succ_self _) hB _ hl
                  · refine lv_aload_n hx hb dX10_determinant_127 rfl (lv_at hl 1 rfl) ?_
                    refine lv_iconst (v := 0) hx hb dX10_determinant_128 (by decide) ?_
                    refine lv_iconst (v := 0) hx hb dX10_determinant_129 (by decide) ?_
                    refine call_S (n := 3) (As := [.ref (a (2 + 2 * y.toNatClampNeg)), .int 0, .int 0]) (rest := []) hX hB (k_X10_bySequences κ l (lA κ b59 ((r (2 * y.toNatClampNeg)) * 5) F62 :: gO g58 (r (2 * y.toNatClampNeg)) (r (2 * y.toNatClampNeg)) b59 :: lA κ b61 ((r (2 * y.toNatClampNeg)) * 5) F63 :: gO g60 (r (2 * y.toNatClampNeg)) (r (2 * y.toNatClampNeg + 1)) b61 :: (q57, .inr (9, [.ref g60, .ref g58, .int S64, .int G65])) :: mw κ a r f (va_up (va_up q 3 t27) 3 t74) (tb a) w) (2 + 2 * y.toNatClampNeg + 5) (3 + 2 * y.toNatClampNeg + 5) (a (2 + 2 * y.toNatClampNeg)) (a (3 + 2 * y.toNatClampNeg)) (r (2 * y.toNatClampNeg)) (r (2 * y.toNatClampNeg + 1)) (f y.toNatClampNeg) 0 0 0 (mwG (i := y.toNatClampNeg) (a := a) (r := r) (f := f) (q := (va_up (va_up q 3 t27) 3 t74)) (T := tb a) (w := w) (by omega)) (mwA (i := y.toNatClampNeg) (a := a) (r := r) (f := f) (q := (va_up (va_up q 3 t27) 3 t74)) (T := tb a) (w := w) (by omega)) (mok_shp (i := y.toNatClampNeg) hm (by omega)) rfl (by omega)) ⟨by decide, by decide, by decide +kernel⟩ wm_7_84 wm_7_85 wm_1_6 wm_7_86 ⟨Nat.le_of_ble_eq_true rfl, Nat.le_of_ble_eq_true rfl⟩ ⟨Nat.le_of_ble_eq_true rfl, Nat.le_of_ble_eq_true rfl⟩ rfl hl.1 rfl (Nat.le_of_ble_eq_true rfl) dX10_determinant_130 (fun o w' H locs hp hB => ?_)
                    obtain ⟨z82, rfl, hw9⟩ := hp
                    replace hB : Bd κ A s (lA κ b59 ((r (2 * y.toNatClampNeg)) * 5) F62 :: gO g58 (r (2 * y.toNatClampNeg)) (r (2 * y.toNatClampNeg)) b59 :: lA κ b61 ((r (2 * y.toNatClampNeg)) * 5) F63 :: gO g60 (r (2 * y.toNatClampNeg)) (r (2 * y.toNatClampNeg + 1)) b61 :: (q57, .inr (9, [.ref g60, .ref g58, .int S64, .int G65])) :: mw κ a r f (va_up (va_up q 3 t27) 3 t74) (tb a) w) H locs := by rw [hw9] at hB; exact hB
                    refine W.eq (g2 := F0 m 133 ls [.long z82]) rfl ?_
                    refine lv_l2i hx hb dX10_determinant_133 rfl ?_
                    replace hB : Bd κ A s (lA κ b59 ((r (2 * y.toNatClampNeg)) * 5) F62 :: gO g58 (r (2 * y.toNatClampNeg)) (r (2 * y.toNatClampNeg)) b59 :: lA κ b61 ((r (2 * y.toNatClampNeg)) * 5) F63 :: gO g60 (r (2 * y.toNatClampNeg)) (r (2 * y.toNatClampNeg + 1)) b61 :: mw κ a r f (va_up (va_up q 3 t27) 3 t74) (tb a) w) H locs := Bd_del 4 hB
                    replace hB : Bd κ A s (lA κ b59 ((r (2 * y.toNatClampNeg)) * 5) F62 :: gO g58 (r (2 * y.toNatClampNeg)) (r (2 * y.toNatClampNeg)) b59 :: lA κ b61 ((r (2 * y.toNatClampNeg)) * 5) F63 :: mw κ a r f (va_up (va_up q 3 t27) 3 t74) (tb a) w) H locs := Bd_del 3 hB
                    replace hB : Bd κ A s (lA κ b59 ((r (2 * y.toNatClampNeg)) * 5) F62 :: gO g58 (r (2 * y.toNatClampNeg)) (r (2 * y.toNatClampNeg)) b59 :: mw κ a r f (va_up (va_up q 3 t27) 3 t74) (tb a) w) H locs := Bd_del 2 hB
                    replace hB : Bd κ A s (lA κ b59 ((r (2 * y.toNatClampNeg)) * 5) F62 :: mw κ a r f (va_up (va_up q 3 t27) 3 t74) (tb a) w) H locs := Bd_del 1 hB
                    replace hB : Bd κ A s (mw κ a r f (va_up (va_up q 3 t27) 3 t74) (tb a) w) H locs := Bd_del 0 hB
                    rw [← hQ]
                    exact end_i hX hB hA3 rfl rfl ⟨((z82).toInt32), (va_up (va_up q 3 t27) 3 t74), rfl, rfl, rfl⟩ (Nat.le_of_ble_eq_true rfl) (Nat.le_of_ble_eq_true rfl) dX10_determinant_134
                · refine lv_aload_n hx hb dX10_determinant_116 rfl (lv_at hl 1 rfl) ?_
                  refine call_S (n := 1) (As := [.ref (a (2 + 2 * y.toNatClampNeg))]) (rest := []) hX hB (k_X10_determinantOf κ l (lA κ b59 ((r (2 * y.toNatClampNeg)) * 5) F62 :: gO g58 (r (2 * y.toNatClampNeg)) (r (2 * y.toNatClampNeg)) b59 :: lA κ b61 ((r (2 * y.toNatClampNeg)) * 5) F63 :: gO g60 (r (2 * y.toNatClampNeg)) (r (2 * y.toNatClampNeg + 1)) b61 :: (q57, .inr (9, [.ref g60, .ref g58, .int S64, .int G65])) :: mw κ a r f (va_up (va_up q 3 t27) 3 t74) (tb a) w) (2 + 2 * y.toNatClampNeg + 5) (3 + 2 * y.toNatClampNeg + 5) (a (2 + 2 * y.toNatClampNeg)) (a (3 + 2 * y.toNatClampNeg)) (r (2 * y.toNatClampNeg)) (r (2 * y.toNatClampNeg + 1)) (f y.toNatClampNeg) (mwG (i := y.toNatClampNeg) (a := a) (r := r) (f := f) (q := (va_up (va_up q 3 t27) 3 t74)) (T := tb a) (w := w) (by omega)) (mwA (i := y.toNatClampNeg) (a := a) (r := r) (f := f) (q := (va_up (va_up q 3 t27) 3 t74)) (T := tb a) (w := w) (by omega)) (mok_shp (i := y.toNatClampNeg) hm (by omega)) (by omega)) ⟨by decide, by decide, by decide +kernel⟩ wm_7_72 wm_7_73 wm_1_6 wm_7_74 ⟨Nat.le_of_ble_eq_true rfl, Nat.le_of_ble_eq_true rfl⟩ ⟨Nat.le_of_ble_eq_true rfl, Nat.le_of_ble_eq_true rfl⟩ rfl hl.1 rfl (Nat.le_of_ble_eq_true rfl) dX10_determinant_117 (fun o w' H locs hp hB => ?_)
                  obtain ⟨rfl, hw9⟩ := hp
                  replace hB : Bd κ A s (lA κ b59 ((r (2 * y.toNatClampNeg)) * 5) F62 :: gO g58 (r (2 * y.toNatClampNeg)) (r (2 * y.toNatClampNeg)) b59 :: lA κ b61 ((r (2 * y.toNatClampNeg)) * 5) F63 :: gO g60 (r (2 * y.toNatClampNeg)) (r (2 * y.toNatClampNeg + 1)) b61 :: (q57, .inr (9, [.ref g60, .ref g58, .int S64, .int G65])) :: mw κ a r f (va_up (va_up q 3 t27) 3 t74) (tb a) w) H locs := by rw [hw9] at hB; exact hB
                  refine W.eq (g2 := F0 m 120 ls [.long (mnv (f y.toNatClampNeg) (r (2 * y.toNatClampNeg + 1)) (r (2 * y.toNatClampNeg)) (2 ^ (r (2 * y.toNatClampNeg)) - 1) (2 ^ (r (2 * y.toNatClampNeg + 1)) - 1))]) rfl ?_
                  refine lv_l2i hx hb dX10_determinant_120 rfl ?_
                  replace hB : Bd κ A s (lA κ b59 ((r (2 * y.toNatClampNeg)) * 5) F62 :: gO g58 (r (2 * y.toNatClampNeg)) (r (2 * y.toNatClampNeg)) b59 :: lA κ b61 ((r (2 * y.toNatClampNeg)) * 5) F63 :: gO g60 (r (2 * y.toNatClampNeg)) (r (2 * y.toNatClampNeg + 1)) b61 :: mw κ a r f (va_up (va_up q 3 t27) 3 t74) (tb a) w) H locs := Bd_del 4 hB
                  replace hB : Bd κ A s (lA κ b59 ((r (2 * y.toNatClampNeg)) * 5) F62 :: gO g58 (r (2 * y.toNatClampNeg)) (r (2 * y.toNatClampNeg)) b59 :: lA κ b61 ((r (2 * y.toNatClampNeg)) * 5) F63 :: mw κ a r f (va_up (va_up q 3 t27) 3 t74) (tb a) w) H locs := Bd_del 3 hB
                  replace hB : Bd κ A s (lA κ b59 ((r (2 * y.toNatClampNeg)) * 5) F62 :: gO g58 (r (2 * y.toNatClampNeg)) (r (2 * y.toNatClampNeg)) b59 :: mw κ a r f (va_up (va_up q 3 t27) 3 t74) (tb a) w) H locs := Bd_del 2 hB
                  replace hB : Bd κ A s (lA κ b59 ((r (2 * y.toNatClampNeg)) * 5) F62 :: mw κ a r f (va_up (va_up q 3 t27) 3 t74) (tb a) w) H locs := Bd_del 1 hB
                  replace hB : Bd κ A s (mw κ a r f (va_up (va_up q 3 t27) 3 t74) (tb a) w) H locs := Bd_del 0 hB
                  rw [← hQ]
                  exact end_i hX hB hA3 rfl rfl ⟨(((mnv (f y.toNatClampNeg) (r (2 * y.toNatClampNeg + 1)) (r (2 * y.toNatClampNeg)) (2 ^ (r (2 * y.toNatClampNeg)) - 1) (2 ^ (r (2 * y.toNatClampNeg + 1)) - 1))).toInt32), (va_up (va_up q 3 t27) 3 t74), rfl, rfl, rfl⟩ (Nat.le_of_ble_eq_true rfl) (Nat.le_of_ble_eq_true rfl) dX10_determinant_121
              · refine lv_iconst (v := 1) hx hb dX10_determinant_99 (by decide) ?_
                refine lv_goto (tgt := 104) hx hb dX10_determinant_100 (by decide) ?_
                refine call_V (n := 3) (k0 := 5) (As := [.int 0, .int 0, .int 1]) (rest := []) hX hB (k_X10_isThrown κ l (lA κ b59 ((r (2 * y.toNatClampNeg)) * 5) F62 :: gO g58 (r (2 * y.toNatClampNeg)) (r (2 * y.toNatClampNeg)) b59 :: lA κ b61 ((r (2 * y.toNatClampNeg)) * 5) F63 :: gO g60 (r (2 * y.toNatClampNeg)) (r (2 * y.toNatClampNeg + 1)) b61 :: (q57, .inr (9, [.ref g60, .ref g58, .int S64, .int G65])) :: mw κ a r f (va_up q 3 t27) (tb a) w) 5 (a 0) (a 1) ((va_up q 3 t27) 0) ((va_up q 3 t27) 1) ((va_up q 3 t27) 2) ((va_up q 3 t27) 3) 0 0 1 (mw0x (a := a) (r := r) (f := f) (q := (va_up q 3 t27)) (T := tb a) (w := w) rfl)) ⟨rfl, by decide, by decide, by decide +kernel⟩ wm_5_192 wm_5_194 wp_28 wm_1_6 wm_5_195 ⟨Nat.le_of_ble_eq_true rfl, Nat.le_of_ble_eq_true rfl⟩ ⟨Nat.le_of_ble_eq_true rfl, Nat.le_of_ble_eq_true rfl⟩ (mw0x (a := a) (r := r) (f := f) (q := (va_up q 3 t27)) (T := tb a) (w := w) rfl) rfl rfl rfl hl.1 rfl (Nat.le_of_ble_eq_true rfl) dX10_determinant_104 (fun o w' H locs hp hB => ?_)
                obtain ⟨x83, t84, rfl, hf85, hw9⟩ := hp
                replace hB : Bd κ A s (lA κ b59 ((r (2 * y.toNatClampNeg)) * 5) F62 :: gO g58 (r (2 * y.toNatClampNeg)) (r (2 * y.toNatClampNeg)) b59 :: lA κ b61 ((r (2 * y.toNatClampNeg)) * 5) F63 :: gO g60 (r (2 * y.toNatClampNeg)) (r (2 * y.toNatClampNeg + 1)) b61 :: (q57, .inr (9, [.ref g60, .ref g58, .int S64, .int G65])) :: mw κ a r f (va_up (va_up q 3 t27) 3 t84) (tb a) w) H locs := by exact Bd_eq (congrArg (List.cons _) (congrArg (List.cons _) (congrArg (List.cons _) (congrArg (List.cons _) (congrArg (List.cons _) (mwQ3x rfl _)))))) (by rw [hw9] at hB; exact hB)
                obtain rfl : x83 = 1 := hf85.trans (by decide)
                refine W.eq (g2 := F0 m 107 ls [.int 1]) rfl ?_
                refine lv_if_eq (tgt := 112) hx hb dX10_determinant_107 (by decide) (fun c86 => False.elim (by revert c86; decide)) (fun _ => ?_)
                refine lv_iconst (v := 0) hx hb dX10_determinant_110 (by decide) ?_
                replace hB : Bd κ A s (lA κ b59 ((r (2 * y.toNatClampNeg)) * 5) F62 :: gO g58 (r (2 * y.toNatClampNeg)) (r (2 * y.toNatClampNeg)) b59 :: lA κ b61 ((r (2 * y.toNatClampNeg)) * 5) F63 :: gO g60 (r (2 * y.toNatClampNeg)) (r (2 * y.toNatClampNeg + 1)) b61 :: mw κ a r f (va_up (va_up q 3 t27) 3 t84) (tb a) w) H locs := Bd_del 4 hB
                replace hB : Bd κ A s (lA κ b59 ((r (2 * y.toNatClampNeg)) * 5) F62 :: gO g58 (r (2 * y.toNatClampNeg)) (r (2 * y.toNatClampNeg)) b59 :: lA κ b61 ((r (2 * y.toNatClampNeg)) * 5) F63 :: mw κ a r f (va_up (va_up q 3 t27) 3 t84) (tb a) w) H locs := Bd_del 3 hB
                replace hB : Bd κ A s (lA κ b59 ((r (2 * y.toNatClampNeg)) * 5) F62 :: gO g58 (r (2 * y.toNatClampNeg)) (r (2 * y.toNatClampNeg)) b59 :: mw κ a r f (va_up (va_up q 3 t27) 3 t84) (tb a) w) H locs := Bd_del 2 hB
                replace hB : Bd κ A s (lA κ b59 ((r (2 * y.toNatClampNeg)) * 5) F62 :: mw κ a r f (va_up (va_up q 3 t27) 3 t84) (tb a) w) H locs := Bd_del 1 hB
                replace hB : Bd κ A s (mw κ a r f (va_up (va_up q 3 t27) 3 t84) (tb a) w) H locs := Bd_del 0 hB
                rw [← hQ]
                exact end_i hX hB hA3 rfl rfl ⟨0, (va_up (va_up q 3 t27) 3 t84), rfl, rfl, rfl⟩ (Nat.le_of_ble_eq_true rfl) (Nat.le_of_ble_eq_true rfl) dX10_determinant_111
      · refine lv_iconst (v := 1) hx hb dX10_determinant_22 (by decide) ?_
        refine lv_goto (tgt := 27) hx hb dX10_determinant_23 (by decide) ?_
        refine call_V (n := 2) (k0 := 0) (As := [.int 0, .int 1]) (rest := []) hX hB (k_X10_isThrown_ κ l (mw κ a r f q (tb a) w) 0 (a 0) (a 1) (q 0) (q 1) (q 2) (q 3) 0 1 (mw0x (a := a) (r := r) (f := f) (q := q) (T := tb a) (w := w) rfl)) ⟨rfl, by decide, by decide, by decide +kernel⟩ wm_5_188 wm_5_190 wp_27 wm_1_6 wm_5_191 ⟨Nat.le_of_ble_eq_true rfl, Nat.le_of_ble_eq_true rfl⟩ ⟨Nat.le_of_ble_eq_true rfl, Nat.le_of_ble_eq_true rfl⟩ (mw0x (a := a) (r := r) (f := f) (q := q) (T := tb a) (w := w) rfl) rfl rfl rfl hl.1 rfl (Nat.le_of_ble_eq_true rfl) dX10_determinant_27 (fun o w' H locs hp hB => ?_)
        obtain ⟨x87, t88, rfl, hf89, hw9⟩ := hp
        replace hB : Bd κ A s (mw κ a r f (va_up q 3 t88) (tb a) w) H locs := by exact Bd_eq (mwQ3x rfl _) (by rw [hw9] at hB; exact hB)
        obtain rfl : x87 = 1 := hf89.trans (by decide)
        refine W.eq (g2 := F0 m 30 ls [.int 1]) rfl ?_
        refine lv_if_eq (tgt := 35) hx hb dX10_determinant_30 (by decide) (fun c90 => False.elim (by revert c90; decide)) (fun _ => ?_)
        refine lv_iconst (v := 0) hx hb dX10_determinant_33 (by decide) ?_
        rw [← hQ]
        exact end_i hX hB hA3 rfl rfl ⟨0, (va_up q 3 t88), rfl, rfl, rfl⟩ (Nat.le_of_ble_eq_true rfl) (Nat.le_of_ble_eq_true rfl) dX10_determinant_34
set_option maxHeartbeats 4000000 in
set_option maxRecDepth 100000 in
theorem k_X10_minor (κ : Kt) (l : Launch) (w : va_W) (a r : Nat → Nat) (f : Nat → Nat → Int64) (q : Nat → Int32) (y : Int32) (z : Int32) (u : Int32) (hm : mok r f) : CM κ l yX10_minor cX10_minor 5 (some .int) 6 168 0 0 [.ref (a 0), .int y, .int z, .int u] (mw κ a r f q (tb a) w) (fun o w' => ∃ (x : Int32) (q' : Nat → Int32), o = some (.int x) ∧ (q' 2 = q 2) ∧ w' = mw κ a r f q' (tb a) w) := by
  refine CM_begin (plainFor_of_name (by decide)) (Nat.le_of_ble_eq_true rfl) ?_
  intro p e s m args below meth c A Q hX hnm hA3 hQ hB ls hl
  have hx := hX.1.1
  have hb := hX.1.2.1
  have hl : lv_has ls 5 [(0, .ref (a 0)), (1, .int y), (2, .int z), (3, .int u)] := hl
  refine lv_aload_n hx hb dX10_minor_0 rfl (lv_at hl 0 rfl) ?_
  refine lv_iload_n hx hb dX10_minor_1 rfl (lv_at hl 1 rfl) ?_
  refine call_S (n := 1) (As := [.int y]) (rest := [.ref (a 0)]) hX hB (k_X10_isTable κ l (mw κ a r f q (tb a) w) y) ⟨by decide, by decide, by decide +kernel⟩ wm_5_182 wm_5_183 wm_1_6 wm_5_184 ⟨Nat.le_of_ble_eq_true rfl, Nat.le_of_ble_eq_true rfl⟩ ⟨Nat.le_of_ble_eq_true rfl, Nat.le_of_ble_eq_true rfl⟩ rfl hl.1 rfl (Nat.le_of_ble_eq_true rfl) dX10_minor_2 (fun o w' H locs hp hB => ?_)
  obtain ⟨z1, rfl, hf2, hw9⟩ := hp
  replace hB : Bd κ A s (mw κ a r f q (tb a) w) H locs := by rw [hw9] at hB; exact hB
  rcases hf2 with rfl | ⟨rfl, hz3a, hz3b⟩
  · refine W.eq (g2 := F0 m 5 ls [.int 0, .ref (a 0)]) rfl ?_
    refine lv_if_ne (tgt := 12) hx hb dX10_minor_5 (by decide) (fun c4 => False.elim (by revert c4; decide)) (fun _ => ?_)
    refine lv_iconst (v := 1) hx hb dX10_minor_8 (by decide) ?_
    refine lv_goto (tgt := 13) hx hb dX10_minor_9 (by decide) ?_
    refine call_V (n := 1) (k0 := 0) (As := [.int 1]) (rest := []) hX hB (k_X10_isThrown__ κ l (mw κ a r f q (tb a) w) 0 (a 0) (a 1) (q 0) (q 1) (q 2) (q 3) 1 (mw0x (a := a) (r := r) (f := f) (q := q) (T := tb a) (w := w) rfl)) ⟨rfl, by decide, by decide, by decide +kernel⟩ wm_6_11 wm_6_13 wp_33 wm_1_6 wm_6_14 ⟨Nat.le_of_ble_eq_true rfl, Nat.le_of_ble_eq_true rfl⟩ ⟨Nat.le_of_ble_eq_true rfl, Nat.le_of_ble_eq_true rfl⟩ (mw0x (a := a) (r := r) (f := f) (q := q) (T := tb a) (w := w) rfl) rfl rfl rfl hl.1 rfl (Nat.le_of_ble_eq_true rfl) dX10_minor_13 (fun o w' H locs hp hB => ?_)
    obtain ⟨x5, t6, rfl, hf7, hw9⟩ := hp
    replace hB : Bd κ A s (mw κ a r f (va_up q 3 t6) (tb a) w) H locs := by exact Bd_eq (mwQ3x rfl _) (by rw [hw9] at hB; exact hB)
    obtain rfl : x5 = 1 := hf7.trans (by decide)
    refine W.eq (g2 := F0 m 16 ls [.int 1]) rfl ?_
    refine lv_if_eq (tgt := 21) hx hb dX10_minor_16 (by decide) (fun c8 => False.elim (by revert c8; decide)) (fun _ => ?_)
    refine lv_iconst (v := 0) hx hb dX10_minor_19 (by decide) ?_
    rw [← hQ]
    exact end_i hX hB hA3 rfl rfl ⟨0, (va_up q 3 t6), rfl, rfl, rfl⟩ (Nat.le_of_ble_eq_true rfl) (Nat.le_of_ble_eq_true rfl) dX10_minor_20
  · refine W.eq (g2 := F0 m 5 ls [.int 1, .ref (a 0)]) rfl ?_
    refine lv_if_ne (tgt := 12) hx hb dX10_minor_5 (by decide) (fun _ => ?_) (fun c9 => False.elim (by revert c9; decide))
    refine lv_iconst (v := 0) hx hb dX10_minor_12 (by decide) ?_
    refine call_V (n := 1) (k0 := 0) (As := [.int 0]) (rest := []) hX hB (k_X10_isThrown__ κ l (mw κ a r f q (tb a) w) 0 (a 0) (a 1) (q 0) (q 1) (q 2) (q 3) 0 (mw0x (a := a) (r := r) (f := f) (q := q) (T := tb a) (w := w) rfl)) ⟨rfl, by decide, by decide, by decide +kernel⟩ wm_6_11 wm_6_13 wp_33 wm_1_6 wm_6_14 ⟨Nat.le_of_ble_eq_true rfl, Nat.le_of_ble_eq_true rfl⟩ ⟨Nat.le_of_ble_eq_true rfl, Nat.le_of_ble_eq_true rfl⟩ (mw0x (a := a) (r := r) (f := f) (q := q) (T := tb a) (w := w) rfl) rfl rfl rfl hl.1 rfl (Nat.le_of_ble_eq_true rfl) dX10_minor_13 (fun o w' H locs hp hB => ?_)
    obtain ⟨x10, t11, rfl, hf12, hw9⟩ := hp
    replace hB : Bd κ A s (mw κ a r f (va_up q 3 t11) (tb a) w) H locs := by exact Bd_eq (mwQ3x rfl _) (by rw [hw9] at hB; exact hB)
    obtain rfl : x10 = 0 := hf12.trans (by decide)
    refine W.eq (g2 := F0 m 16 ls [.int 0]) rfl ?_
    refine lv_if_eq (tgt := 21) hx hb dX10_minor_16 (by decide) (fun _ => ?_) (fun c13 => False.elim (by revert c13; decide))
    refine lv_aload_n hx hb dX10_minor_21 rfl (lv_at hl 0 rfl) ?_
    refine gf (k0 := 0) hX hB (mw0x (a := a) (r := r) (f := f) (q := (va_up q 3 t11)) (T := tb a) (w := w) rfl) rfl in10 0 (by decide) wm_5_162 rfl rfl dX10_minor_22 ?_
    refine lv_iload_n hx hb dX10_minor_25 rfl (lv_at hl 1 rfl) ?_
    refine aaldM (k0 := 1) hX hB (mw1 (a := a) (r := r) (f := f) (q := (va_up q 3 t11)) (T := tb a) (w := w)) (vp_in_mk (by assumption) (by assumption)) rfl dX10_minor_26 ?_
    have hb14 := mok_r hm y.toNatClampNeg (by omega)
    refine lv_astore (lv' := [(4, .ref (a (2 + 2 * y.toNatClampNeg))), (0, .ref (a 0)), (1, .int y), (2, .int z), (3, .int u)]) hx hb dX10_minor_27 hl (by decide) rfl (fun ls hl => ?_)
    refine lv_aload_n hx hb dX10_minor_29 rfl (lv_at hl 1 rfl) ?_
    refine lv_iconst (v := 0) hx hb dX10_minor_30 (by decide) ?_
    refine lv_iload_n hx hb dX10_minor_31 rfl (lv_at hl 3 rfl) ?_
    refine lv_iconst (v := 1) hx hb dX10_minor_32 (by decide) ?_
    refine lv_icmp_lt (tgt := 72) hx hb dX10_minor_33 (by decide) (fun c15 => ?_) (fun c15 => ?_)
    · refine lv_iconst (v := 1) hx hb dX10_minor_72 (by decide) ?_
      refine lv_goto (tgt := 77) hx hb dX10_minor_73 (by decide) ?_
      refine call_V (n := 2) (k0 := 0) (As := [.int 0, .int 1]) (rest := []) hX hB (k_X10_isThrown_ κ l (mw κ a r f (va_up q 3 t11) (tb a) w) 0 (a 0) (a 1) ((va_up q 3 t11) 0) ((va_up q 3 t11) 1) ((va_up q 3 t11) 2) ((va_up q 3 t11) 3) 0 1 (mw0x (a := a) (r := r) (f := f) (q := (va_up q 3 t11)) (T := tb a) (w := w) rfl)) ⟨rfl, by decide, by decide, by decide +kernel⟩ wm_5_188 wm_5_190 wp_27 wm_1_6 wm_5_191 ⟨Nat.le_of_ble_eq_true rfl, Nat.le_of_ble_eq_true rfl⟩ ⟨Nat.le_of_ble_eq_true rfl, Nat.le_of_ble_eq_true rfl⟩ (mw0x (a := a) (r := r) (f := f) (q := (va_up q 3 t11)) (T := tb a) (w := w) rfl) rfl rfl rfl hl.1 rfl (Nat.le_of_ble_eq_true rfl) dX10_minor_77 (fun o w' H locs hp hB => ?_)
      obtain ⟨x16, t17, rfl, hf18, hw9⟩ := hp
      replace hB : Bd κ A s (mw κ a r f (va_up (va_up q 3 t11) 3 t17) (tb a) w) H locs := by exact Bd_eq (mwQ3x rfl _) (by rw [hw9] at hB; exact hB)
      obtain rfl : x16 = 1 := hf18.trans (by decide)
      refine W.eq (g2 := F0 m 80 ls [.int 1]) rfl ?_
      refine lv_if_eq (tgt := 85) hx hb dX10_minor_80 (by decide) (fun c19 => False.elim (by revert c19; decide)) (fun _ => ?_)
      refine lv_iconst (v := 0) hx hb dX10_minor_83 (by decide) ?_
      rw [← hQ]
      exact end_i hX hB hA3 rfl rfl ⟨0, (va_up (va_up q 3 t11) 3 t17), rfl, rfl, rfl⟩ (Nat.le_of_ble_eq_true rfl) (Nat.le_of_ble_eq_true rfl) dX10_minor_84
    · refine lv_iload_n hx hb dX10_minor_36 rfl (lv_at hl 4 rfl) ?_
      refine lv_iconst (v := 1) hx hb dX10_minor_37 (by decide) ?_
      refine lv_icmp_lt (tgt := 72) hx hb dX10_minor_38 (by decide) (fun c20 => ?_) (fun c20 => ?_)
      · refine lv_iconst (v := 1) hx hb dX10_minor_72 (by decide) ?_
        refine lv_goto (tgt := 77) hx hb dX10_minor_73 (by decide) ?_
        refine call_V (n := 2) (k0 := 0) (As := [.int 0, .int 1]) (rest := []) hX hB (k_X10_isThrown_ κ l (mw κ a r f (va_up q 3 t11) (tb a) w) 0 (a 0) (a 1) ((va_up q 3 t11) 0) ((va_up q 3 t11) 1) ((va_up q 3 t11) 2) ((va_up q 3 t11) 3) 0 1 (mw0x (a := a) (r := r) (f := f) (q := (va_up q 3 t11)) (T := tb a) (w := w) rfl)) ⟨rfl, by decide, by decide, by decide +kernel⟩ wm_5_188 wm_5_190 wp_27 wm_1_6 wm_5_191 ⟨Nat.le_of_ble_eq_true rfl, Nat.le_of_ble_eq_true rfl⟩ ⟨Nat.le_of_ble_eq_true rfl, Nat.le_of_ble_eq_true rfl⟩ (mw0x (a := a) (r := r) (f := f) (q := (va_up q 3 t11)) (T := tb a) (w := w) rfl) rfl rfl rfl hl.1 rfl (Nat.le_of_ble_eq_true rfl) dX10_minor_77 (fun o w' H locs hp hB => ?_)
        obtain ⟨x21, t22, rfl, hf23, hw9⟩ := hp
        replace hB : Bd κ A s (mw κ a r f (va_up (va_up q 3 t11) 3 t22) (tb a) w) H locs := by exact Bd_eq (mwQ3x rfl _) (by rw [hw9] at hB; exact hB)
        obtain rfl : x21 = 1 := hf23.trans (by decide)
        refine W.eq (g2 := F0 m 80 ls [.int 1]) rfl ?_
        refine lv_if_eq (tgt := 85) hx hb dX10_minor_80 (by decide) (fun c24 => False.elim (by revert c24; decide)) (fun _ => ?_)
        refine lv_iconst (v := 0) hx hb dX10_minor_83 (by decide) ?_
        rw [← hQ]
        exact end_i hX hB hA3 rfl rfl ⟨0, (va_up (va_up q 3 t11) 3 t22), rfl, rfl, rfl⟩ (Nat.le_of_ble_eq_true rfl) (Nat.le_of_ble_eq_true rfl) dX10_minor_84
      · refine lv_iload_n hx hb dX10_minor_41 rfl (lv_at hl 3 rfl) ?_
        refine lv_aload hx hb dX10_minor_42 (lv_at hl 0 rfl) ?_
        refine gf (k0 := 2 + 2 * y.toNatClampNeg) hX hB (mwG (i := y.toNatClampNeg) (a := a) (r := r) (f := f) (q := (va_up q 3 t11)) (T := tb a) (w := w) (by omega)) rfl in7 0 (by decide) wm_5_148 rfl rfl dX10_minor_44 ?_
        refine lv_ishr hx hb dX10_minor_47 ?_
        refine lv_if_ne (tgt := 72) hx hb dX10_minor_48 (by decide) (fun c25 => ?_) (fun c25 => ?_)
        · refine lv_iconst (v := 1) hx hb dX10_minor_72 (by decide) ?_
          refine lv_goto (tgt := 77) hx hb dX10_minor_73 (by decide) ?_
          refine call_V (n := 2) (k0 := 0) (As := [.int 0, .int 1]) (rest := []) hX hB (k_X10_isThrown_ κ l (mw κ a r f (va_up q 3 t11) (tb a) w) 0 (a 0) (a 1) ((va_up q 3 t11) 0) ((va_up q 3 t11) 1) ((va_up q 3 t11) 2) ((va_up q 3 t11) 3) 0 1 (mw0x (a := a) (r := r) (f := f) (q := (va_up q 3 t11)) (T := tb a) (w := w) rfl)) ⟨rfl, by decide, by decide, by decide +kernel⟩ wm_5_188 wm_5_190 wp_27 wm_1_6 wm_5_191 ⟨Nat.le_of_ble_eq_true rfl, Nat.le_of_ble_eq_true rfl⟩ ⟨Nat.le_of_ble_eq_true rfl, Nat.le_of_ble_eq_true rfl⟩ (mw0x (a := a) (r := r) (f := f) (q := (va_up q 3 t11)) (T := tb a) (w := w) rfl) rfl rfl rfl hl.1 rfl (Nat.le_of_ble_eq_true rfl) dX10_minor_77 (fun o w' H locs hp hB => ?_)
          obtain ⟨x26, t27, rfl, hf28, hw9⟩ := hp
          replace hB : Bd κ A s (mw κ a r f (va_up (va_up q 3 t11) 3 t27) (tb a) w) H locs := by exact Bd_eq (mwQ3x rfl _) (by rw [hw9] at hB; exact hB)
          obtain rfl : x26 = 1 := hf28.trans (by decide)
          refine W.eq (g2 := F0 m 80 ls [.int 1]) rfl ?_
          refine lv_if_eq (tgt := 85) hx hb dX10_minor_80 (by decide) (fun c29 => False.elim (by revert c29; decide)) (fun _ => ?_)
          refine lv_iconst (v := 0) hx hb dX10_minor_83 (by decide) ?_
          rw [← hQ]
          exact end_i hX hB hA3 rfl rfl ⟨0, (va_up (va_up q 3 t11) 3 t27), rfl, rfl, rfl⟩ (Nat.le_of_ble_eq_true rfl) (Nat.le_of_ble_eq_true rfl) dX10_minor_84
        · refine lv_iload_n hx hb dX10_minor_51 rfl (lv_at hl 4 rfl) ?_
          refine lv_aload hx hb dX10_minor_52 (lv_at hl 0 rfl) ?_
          refine gf (k0 := 2 + 2 * y.toNatClampNeg) hX hB (mwG (i := y.toNatClampNeg) (a := a) (r := r) (f := f) (q := (va_up q 3 t11)) (T := tb a) (w := w) (by omega)) rfl in7 1 (by decide) wm_5_152 rfl rfl dX10_minor_54 ?_
          refine lv_ishr hx hb dX10_minor_57 ?_
          refine lv_if_ne (tgt := 72) hx hb dX10_minor_58 (by decide) (fun c30 => ?_) (fun c30 => ?_)
          · refine lv_iconst (v := 1) hx hb dX10_minor_72 (by decide) ?_
            refine lv_goto (tgt := 77) hx hb dX10_minor_73 (by decide) ?_
            refine call_V (n := 2) (k0 := 0) (As := [.int 0, .int 1]) (rest := []) hX hB (k_X10_isThrown_ κ l (mw κ a r f (va_up q 3 t11) (tb a) w) 0 (a 0) (a 1) ((va_up q 3 t11) 0) ((va_up q 3 t11) 1) ((va_up q 3 t11) 2) ((va_up q 3 t11) 3) 0 1 (mw0x (a := a) (r := r) (f := f) (q := (va_up q 3 t11)) (T := tb a) (w := w) rfl)) ⟨rfl, by decide, by decide, by decide +kernel⟩ wm_5_188 wm_5_190 wp_27 wm_1_6 wm_5_191 ⟨Nat.le_of_ble_eq_true rfl, Nat.le_of_ble_eq_true rfl⟩ ⟨Nat.le_of_ble_eq_true rfl, Nat.le_of_ble_eq_true rfl⟩ (mw0x (a := a) (r := r) (f := f) (q := (va_up q 3 t11)) (T := tb a) (w := w) rfl) rfl rfl rfl hl.1 rfl (Nat.le_of_ble_eq_true rfl) dX10_minor_77 (fun o w' H locs hp hB => ?_)
            obtain ⟨x31, t32, rfl, hf33, hw9⟩ := hp
            replace hB : Bd κ A s (mw κ a r f (va_up (va_up q 3 t11) 3 t32) (tb a) w) H locs := by exact Bd_eq (mwQ3x rfl _) (by rw [hw9] at hB; exact hB)
            obtain rfl : x31 = 1 := hf33.trans (by decide)
            refine W.eq (g2 := F0 m 80 ls [.int 1]) rfl ?_
            refine lv_if_eq (tgt := 85) hx hb dX10_minor_80 (by decide) (fun c34 => False.elim (by revert c34; decide)) (fun _ => ?_)
            refine lv_iconst (v := 0) hx hb dX10_minor_83 (by decide) ?_
            rw [← hQ]
            exact end_i hX hB hA3 rfl rfl ⟨0, (va_up (va_up q 3 t11) 3 t32), rfl, rfl, rfl⟩ (Nat.le_of_ble_eq_true rfl) (Nat.le_of_ble_eq_true rfl) dX10_minor_84
          · refine lv_iload_n hx hb dX10_minor_61 rfl (lv_at hl 3 rfl) ?_
            refine call_S (n := 1) (As := [.int z]) (rest := [.int 0, .ref (a 0)]) hX hB (k_J6_bitCount_0f7a4 κ l (mw κ a r f (va_up q 3 t11) (tb a) w) z ) ⟨by decide, by decide, by decide +kernel⟩ wm_7_87 wm_1_195 wm_1_26 wm_1_196 ⟨Nat.le_of_ble_eq_true rfl, Nat.le_of_ble_eq_true rfl⟩ ⟨Nat.le_of_ble_eq_true rfl, Nat.le_of_ble_eq_true rfl⟩ rfl hl.1 rfl (Nat.le_of_ble_eq_true rfl) dX10_minor_62 (fun o w' H locs hp hB => ?_)
            obtain ⟨x35, rfl, ebx35, hw9⟩ := hp
            rw [hw9] at hB
            refine W.eq (g2 := F0 m 65 ls [.int x35, .int 0, .ref (a 0)]) rfl ?_
            refine lv_iload_n hx hb dX10_minor_65 rfl (lv_at hl 4 rfl) ?_
            refine call_S (n := 1) (As := [.int u]) (rest := [.int x35, .int 0, .ref (a 0)]) hX hB (k_J6_bitCount_0f7a4 κ l (mw κ a r f (va_up q 3 t11) (tb a) w) u ) ⟨by decide, by decide, by decide +kernel⟩ wm_7_87 wm_1_195 wm_1_26 wm_1_196 ⟨Nat.le_of_ble_eq_true rfl, Nat.le_of_ble_eq_true rfl⟩ ⟨Nat.le_of_ble_eq_true rfl, Nat.le_of_ble_eq_true rfl⟩ rfl hl.1 rfl (Nat.le_of_ble_eq_true rfl) dX10_minor_66 (fun o w' H locs hp hB => ?_)
            obtain ⟨x36, rfl, ebx36, hw9⟩ := hp
            rw [hw9] at hB
            refine W.eq (g2 := F0 m 69 ls [.int x36, .int x35, .int 0, .ref (a 0)]) rfl ?_
            refine lv_icmp_eq (tgt := 76) hx hb dX10_minor_69 (by decide) (fun c37 => ?_) (fun c37 => ?_)
            · refine lv_iconst (v := 0) hx hb dX10_minor_76 (by decide) ?_
              refine call_V (n := 2) (k0 := 0) (As := [.int 0, .int 0]) (rest := []) hX hB (k_X10_isThrown_ κ l (mw κ a r f (va_up q 3 t11) (tb a) w) 0 (a 0) (a 1) ((va_up q 3 t11) 0) ((va_up q 3 t11) 1) ((va_up q 3 t11) 2) ((va_up q 3 t11) 3) 0 0 (mw0x (a := a) (r := r) (f := f) (q := (va_up q 3 t11)) (T := tb a) (w := w) rfl)) ⟨rfl, by decide, by decide, by decide +kernel⟩ wm_5_188 wm_5_190 wp_27 wm_1_6 wm_5_191 ⟨Nat.le_of_ble_eq_true rfl, Nat.le_of_ble_eq_true rfl⟩ ⟨Nat.le_of_ble_eq_true rfl, Nat.le_of_ble_eq_true rfl⟩ (mw0x (a := a) (r := r) (f := f) (q := (va_up q 3 t11)) (T := tb a) (w := w) rfl) rfl rfl rfl hl.1 rfl (Nat.le_of_ble_eq_true rfl) dX10_minor_77 (fun o w' H locs hp hB => ?_)
              obtain ⟨x38, t39, rfl, hf40, hw9⟩ := hp
              replace hB : Bd κ A s (mw κ a r f (va_up (va_up q 3 t11) 3 t39) (tb a) w) H locs := by exact Bd_eq (mwQ3x rfl _) (by rw [hw9] at hB; exact hB)
              obtain rfl : x38 = 0 := hf40.trans (by decide)
              refine W.eq (g2 := F0 m 80 ls [.int 0]) rfl ?_
              refine lv_if_eq (tgt := 85) hx hb dX10_minor_80 (by decide) (fun _ => ?_) (fun c41 => False.elim (by revert c41; decide))
              obtain ⟨zx, hzx1, hzx2, rfl⟩ := shr0 (z := z) (R := r (2 * y.toNatClampNeg)) (by omega) (by assumption) (by assumption)
              obtain ⟨ux, hux1, hux2, rfl⟩ := shr0 (z := u) (R := r (2 * y.toNatClampNeg + 1)) (by omega) (by assumption) (by assumption)
              refine lv_aload hx hb dX10_minor_85 (lv_at hl 0 rfl) ?_
              refine lv_iload_n hx hb dX10_minor_87 rfl (lv_at hl 3 rfl) ?_
              refine lv_iload_n hx hb dX10_minor_88 rfl (lv_at hl 4 rfl) ?_
              refine call_V (n := 2) (k0 := (2 + 2 * y.toNatClampNeg)) (As := [.int (nI zx), .int (nI ux)]) (rest := []) hX hB (minor_all κ l (mw κ a r f (va_up (va_up q 3 t11) 3 t39) (tb a) w) (2 + 2 * y.toNatClampNeg) (3 + 2 * y.toNatClampNeg) (a (2 + 2 * y.toNatClampNeg)) (a (3 + 2 * y.toNatClampNeg)) (r (2 * y.toNatClampNeg)) (r (2 * y.toNatClampNeg + 1)) (f y.toNatClampNeg) (mwG (i := y.toNatClampNeg) (a := a) (r := r) (f := f) (q := (va_up (va_up q 3 t11) 3 t39)) (T := tb a) (w := w) (by omega)) (mwA (i := y.toNatClampNeg) (a := a) (r := r) (f := f) (q := (va_up (va_up q 3 t11) 3 t39)) (T := tb a) (w := w) (by omega)) (mok_shp (i := y.toNatClampNeg) hm (by omega)) 5 (pc5 zx) zx ux (pc5_le _) (mn_six (by omega) (by omega) hzx1 hzx2 hux1 hux2 ebx35 ebx36 (by assumption))) ⟨rfl, by decide, by decide, by decide +kernel⟩ wm_7_75 wm_7_76 wm_7_77 wm_1_7 wm_7_78 ⟨Nat.le_of_ble_eq_true rfl, Nat.le_of_ble_eq_true rfl⟩ ⟨Nat.le_of_ble_eq_true rfl, Nat.le_of_ble_eq_true rfl⟩ (mwG (i := y.toNatClampNeg) (a := a) (r := r) (f := f) (q := (va_up (va_up q 3 t11) 3 t39)) (T := tb a) (w := w) (by omega)) rfl rfl rfl hl.1 rfl (Nat.le_of_ble_eq_true rfl) dX10_minor_89 (fun o w' H locs hp hB => ?_)
              obtain ⟨rfl, hw9⟩ := hp
              replace hB : Bd κ A s (mw κ a r f (va_up (va_up q 3 t11) 3 t39) (tb a) w) H locs := by rw [hw9] at hB; exact hB
              refine W.eq (g2 := F0 m 92 ls [.long (mnv (f y.toNatClampNeg) (r (2 * y.toNatClampNeg + 1)) (pc5 zx) zx ux)]) rfl ?_
              refine lv_l2i hx hb dX10_minor_92 rfl ?_
              rw [← hQ]
              exact end_i hX hB hA3 rfl rfl ⟨(((mnv (f y.toNatClampNeg) (r (2 * y.toNatClampNeg + 1)) (pc5 zx) zx ux)).toInt32), (va_up (va_up q 3 t11) 3 t39), rfl, rfl, rfl⟩ (Nat.le_of_ble_eq_true rfl) (Nat.le_of_ble_eq_true rfl) dX10_minor_93
            · refine lv_iconst (v := 1) hx hb dX10_minor_72 (by decide) ?_
              refine lv_goto (tgt := 77) hx hb dX10_minor_73 (by decide) ?_
              refine call_V (n := 2) (k0 := 0) (As := [.int 0, .int 1]) (rest := []) hX hB (k_X10_isThrown_ κ l (mw κ a r f (va_up q 3 t11) (tb a) w) 0 (a 0) (a 1) ((va_up q 3 t11) 0) ((va_up q 3 t11) 1) ((va_up q 3 t11) 2) ((va_up q 3 t11) 3) 0 1 (mw0x (a := a) (r := r) (f := f) (q := (va_up q 3 t11)) (T := tb a) (w := w) rfl)) ⟨rfl, by decide, by decide, by decide +kernel⟩ wm_5_188 wm_5_190 wp_27 wm_1_6 wm_5_191 ⟨Nat.le_of_ble_eq_true rfl, Nat.le_of_ble_eq_true rfl⟩ ⟨Nat.le_of_ble_eq_true rfl, Nat.le_of_ble_eq_true rfl⟩ (mw0x (a := a) (r := r) (f := f) (q := (va_up q 3 t11)) (T := tb a) (w := w) rfl) rfl rfl rfl hl.1 rfl (Nat.le_of_ble_eq_true rfl) dX10_minor_77 (fun o w' H locs hp hB => ?_)
              obtain ⟨x42, t43, rfl, hf44, hw9⟩ := hp
              replace hB : Bd κ A s (mw κ a r f (va_up (va_up q 3 t11) 3 t43) (tb a) w) H locs := by exact Bd_eq (mwQ3x rfl _) (by rw [hw9] at hB; exact hB)
              obtain rfl : x42 = 1 := hf44.trans (by decide)
              refine W.eq (g2 := F0 m 80 ls [.int 1]) rfl ?_
              refine lv_if_eq (tgt := 85) hx hb dX10_minor_80 (by decide) (fun c45 => False.elim (by revert c45; decide)) (fun _ => ?_)
              refine lv_iconst (v := 0) hx hb dX10_minor_83 (by decide) ?_
              rw [← hQ]
              exact end_i hX hB hA3 rfl rfl ⟨0, (va_up (va_up q 3 t11) 3 t43), rfl, rfl, rfl⟩ (Nat.le_of_ble_eq_true rfl) (Nat.le_of_ble_eq_true rfl) dX10_minor_84
set_option maxHeartbeats 4000000 in
set_option maxRecDepth 100000 in
theorem k_X10_divisor (κ : Kt) (l : Launch) (w : va_W) (a r : Nat → Nat) (f : Nat → Nat → Int64) (q : Nat → Int32) (y : Int32) (z : Int32) (hm : mok r f) : CM κ l yX10_divisor cX10_divisor 4 (some .int) 131 3015 0 0 [.ref (a 0), .int y, .int z] (mw κ a r f q (tb a) w) (fun o w' => ∃ (x : Int32) (q' : Nat → Int32), o = some (.int x) ∧ (q' 2 = q 2) ∧ w' = mw κ a r f q' (tb a) w) := by
  refine CM_begin (plainFor_of_name (by decide)) (Nat.le_of_ble_eq_true rfl) ?_
  intro p e s m args below meth c A Q hX hnm hA3 hQ hB ls hl
  have hx := hX.1.1
  have hb := hX.1.2.1
  have hl : lv_has ls 4 [(0, .ref (a 0)), (1, .int y), (2, .int z)] := hl
  refine lv_aload_n hx hb dX10_divisor_0 rfl (lv_at hl 0 rfl) ?_
  refine lv_iload_n hx hb dX10_divisor_1 rfl (lv_at hl 1 rfl) ?_
  refine call_S (n := 1) (As := [.int y]) (rest := [.ref (a 0)]) hX hB (k_X10_isTable κ l (mw κ a r f q (tb a) w) y) ⟨by decide, by decide, by decide +kernel⟩ wm_5_182 wm_5_183 wm_1_6 wm_5_184 ⟨Nat.le_of_ble_eq_true rfl, Nat.le_of_ble_eq_true rfl⟩ ⟨Nat.le_of_ble_eq_true rfl, Nat.le_of_ble_eq_true rfl⟩ rfl hl.1 rfl (Nat.le_of_ble_eq_true rfl) dX10_divisor_2 (fun o w' H locs hp hB => ?_)
  obtain ⟨z1, rfl, hf2, hw9⟩ := hp
  replace hB : Bd κ A s (mw κ a r f q (tb a) w) H locs := by rw [hw9] at hB; exact hB
  rcases hf2 with rfl | ⟨rfl, hz3a, hz3b⟩
  · refine W.eq (g2 := F0 m 5 ls [.int 0, .ref (a 0)]) rfl ?_
    refine lv_if_ne (tgt := 12) hx hb dX10_divisor_5 (by decide) (fun c4 => False.elim (by revert c4; decide)) (fun _ => ?_)
    refine lv_iconst (v := 1) hx hb dX10_divisor_8 (by decide) ?_
    refine lv_goto (tgt := 13) hx hb dX10_divisor_9 (by decide) ?_
    refine call_V (n := 1) (k0 := 0) (As := [.int 1]) (rest := []) hX hB (k_X10_isThrown__ κ l (mw κ a r f q (tb a) w) 0 (a 0) (a 1) (q 0) (q 1) (q 2) (q 3) 1 (mw0x (a := a) (r := r) (f := f) (q := q) (T := tb a) (w := w) rfl)) ⟨rfl, by decide, by decide, by decide +kernel⟩ wm_6_11 wm_6_13 wp_33 wm_1_6 wm_6_14 ⟨Nat.le_of_ble_eq_true rfl, Nat.le_of_ble_eq_true rfl⟩ ⟨Nat.le_of_ble_eq_true rfl, Nat.le_of_ble_eq_true rfl⟩ (mw0x (a := a) (r := r) (f := f) (q := q) (T := tb a) (w := w) rfl) rfl rfl rfl hl.1 rfl (Nat.le_of_ble_eq_true rfl) dX10_divisor_13 (fun o w' H locs hp hB => ?_)
    obtain ⟨x5, t6, rfl, hf7, hw9⟩ := hp
    replace hB : Bd κ A s (mw κ a r f (va_up q 3 t6) (tb a) w) H locs := by exact Bd_eq (mwQ3x rfl _) (by rw [hw9] at hB; exact hB)
    obtain rfl : x5 = 1 := hf7.trans (by decide)
    refine W.eq (g2 := F0 m 16 ls [.int 1]) rfl ?_
    refine lv_if_eq (tgt := 21) hx hb dX10_divisor_16 (by decide) (fun c8 => False.elim (by revert c8; decide)) (fun _ => ?_)
    refine lv_iconst (v := 0) hx hb dX10_divisor_19 (by decide) ?_
    rw [← hQ]
    exact end_i hX hB hA3 rfl rfl ⟨0, (va_up q 3 t6), rfl, rfl, rfl⟩ (Nat.le_of_ble_eq_true rfl) (Nat.le_of_ble_eq_true rfl) dX10_divisor_20
  · refine W.eq (g2 := F0 m 5 ls [.int 1, .ref (a 0)]) rfl ?_
    refine lv_if_ne (tgt := 12) hx hb dX10_divisor_5 (by decide) (fun _ => ?_) (fun c9 => False.elim (by revert c9; decide))
    refine lv_iconst (v := 0) hx hb dX10_divisor_12 (by decide) ?_
    refine call_V (n := 1) (k0 := 0) (As := [.int 0]) (rest := []) hX hB (k_X10_isThrown__ κ l (mw κ a r f q (tb a) w) 0 (a 0) (a 1) (q 0) (q 1) (q 2) (q 3) 0 (mw0x (a := a) (r := r) (f := f) (q := q) (T := tb a) (w := w) rfl)) ⟨rfl, by decide, by decide, by decide +kernel⟩ wm_6_11 wm_6_13 wp_33 wm_1_6 wm_6_14 ⟨Nat.le_of_ble_eq_true rfl, Nat.le_of_ble_eq_true rfl⟩ ⟨Nat.le_of_ble_eq_true rfl, Nat.le_of_ble_eq_true rfl⟩ (mw0x (a := a) (r := r) (f := f) (q := q) (T := tb a) (w := w) rfl) rfl rfl rfl hl.1 rfl (Nat.le_of_ble_eq_true rfl) dX10_divisor_13 (fun o w' H locs hp hB => ?_)
    obtain ⟨x10, t11, rfl, hf12, hw9⟩ := hp
    replace hB : Bd κ A s (mw κ a r f (va_up q 3 t11) (tb a) w) H locs := by exact Bd_eq (mwQ3x rfl _) (by rw [hw9] at hB; exact hB)
    obtain rfl : x10 = 0 := hf12.trans (by decide)
    refine W.eq (g2 := F0 m 16 ls [.int 0]) rfl ?_
    refine lv_if_eq (tgt := 21) hx hb dX10_divisor_16 (by decide) (fun _ => ?_) (fun c13 => False.elim (by revert c13; decide))
    refine lv_aload_n hx hb dX10_divisor_21 rfl (lv_at hl 0 rfl) ?_
    refine gf (k0 := 0) hX hB (mw0x (a := a) (r := r) (f := f) (q := (va_up q 3 t11)) (T := tb a) (w := w) rfl) rfl in10 0 (by decide) wm_5_162 rfl rfl dX10_divisor_22 ?_
    refine lv_iload_n hx hb dX10_divisor_25 rfl (lv_at hl 1 rfl) ?_
    refine aaldM (k0 := 1) hX hB (mw1 (a := a) (r := r) (f := f) (q := (va_up q 3 t11)) (T := tb a) (w := w)) (vp_in_mk (by assumption) (by assumption)) rfl dX10_divisor_26 ?_
    have hb14 := mok_r hm y.toNatClampNeg (by omega)
    refine lv_astore_n (lv' := [(3, .ref (a (2 + 2 * y.toNatClampNeg))), (0, .ref (a 0)), (1, .int y), (2, .int z)]) hx hb dX10_divisor_27 rfl hl (by decide) rfl (fun ls hl => ?_)
    refine lv_aload_n hx hb dX10_divisor_28 rfl (lv_at hl 1 rfl) ?_
    refine lv_iconst (v := 0) hx hb dX10_divisor_29 (by decide) ?_
    refine lv_iload_n hx hb dX10_divisor_30 rfl (lv_at hl 3 rfl) ?_
    refine lv_if_lt (tgt := 49) hx hb dX10_divisor_31 (by decide) (fun c15 => ?_) (fun c15 => ?_)
    · refine lv_iconst (v := 1) hx hb dX10_divisor_49 (by decide) ?_
      refine lv_goto (tgt := 54) hx hb dX10_divisor_50 (by decide) ?_
      refine call_V (n := 2) (k0 := 0) (As := [.int 0, .int 1]) (rest := []) hX hB (k_X10_isThrown_ κ l (mw κ a r f (va_up q 3 t11) (tb a) w) 0 (a 0) (a 1) ((va_up q 3 t11) 0) ((va_up q 3 t11) 1) ((va_up q 3 t11) 2) ((va_up q 3 t11) 3) 0 1 (mw0x (a := a) (r := r) (f := f) (q := (va_up q 3 t11)) (T := tb a) (w := w) rfl)) ⟨rfl, by decide, by decide, by decide +kernel⟩ wm_5_188 wm_5_190 wp_27 wm_1_6 wm_5_191 ⟨Nat.le_of_ble_eq_true rfl, Nat.le_of_ble_eq_true rfl⟩ ⟨Nat.le_of_ble_eq_true rfl, Nat.le_of_ble_eq_true rfl⟩ (mw0x (a := a) (r := r) (f := f) (q := (va_up q 3 t11)) (T := tb a) (w := w) rfl) rfl rfl rfl hl.1 rfl (Nat.le_of_ble_eq_true rfl) dX10_divisor_54 (fun o w' H locs hp hB => ?_)
      obtain ⟨x16, t17, rfl, hf18, hw9⟩ := hp
      replace hB : Bd κ A s (mw κ a r f (va_up (va_up q 3 t11) 3 t17) (tb a) w) H locs := by exact Bd_eq (mwQ3x rfl _) (by rw [hw9] at hB; exact hB)
      obtain rfl : x16 = 1 := hf18.trans (by decide)
      refine W.eq (g2 := F0 m 57 ls [.int 1]) rfl ?_
      refine lv_if_eq (tgt := 64) hx hb dX10_divisor_57 (by decide) (fun c19 => False.elim (by revert c19; decide)) (fun _ => ?_)
      refine lv_iconst (v := 0) hx hb dX10_divisor_60 (by decide) ?_
      refine lv_goto (tgt := 70) hx hb dX10_divisor_61 (by decide) ?_
      rw [← hQ]
      exact end_i hX hB hA3 rfl rfl ⟨0, (va_up (va_up q 3 t11) 3 t17), rfl, rfl, rfl⟩ (Nat.le_of_ble_eq_true rfl) (Nat.le_of_ble_eq_true rfl) dX10_divisor_70
    · refine lv_iload_n hx hb dX10_divisor_34 rfl (lv_at hl 3 rfl) ?_
      refine lv_aload_n hx hb dX10_divisor_35 rfl (lv_at hl 0 rfl) ?_
      refine gf (k0 := 2 + 2 * y.toNatClampNeg) hX hB (mwG (i := y.toNatClampNeg) (a := a) (r := r) (f := f) (q := (va_up q 3 t11)) (T := tb a) (w := w) (by omega)) rfl in7 0 (by decide) wm_5_148 rfl rfl dX10_divisor_36 ?_
      refine lv_aload_n hx hb dX10_divisor_39 rfl (lv_at hl 0 rfl) ?_
      refine gf (k0 := 2 + 2 * y.toNatClampNeg) hX hB (mwG (i := y.toNatClampNeg) (a := a) (r := r) (f := f) (q := (va_up q 3 t11)) (T := tb a) (w := w) (by omega)) rfl in7 1 (by decide) wm_5_152 rfl rfl dX10_divisor_40 ?_
      refine va_mmin hx hb (by rw [hX.1.2.2.1]; exact hl.1.symm) hX.1.2.2.2.1 (hX.1.2.2.2.2 _ wm_7_96) (hX.1.2.2.2.2 _ wm_1_217) (hX.1.2.2.2.2 _ wm_1_14) (hX.1.2.2.2.2 _ wm_1_218) (Nat.le_of_ble_eq_true rfl) (Nat.le_of_ble_eq_true rfl) (Nat.le_of_ble_eq_true rfl) (Nat.le_of_ble_eq_true rfl) dX10_divisor_43 ?_
      refine lv_topi (fun t20 et20 => ?_)
      refine lv_icmp_le (tgt := 53) hx hb dX10_divisor_46 (by decide) (fun c21 => ?_) (fun c21 => ?_)
      · refine lv_iconst (v := 0) hx hb dX10_divisor_53 (by decide) ?_
        refine call_V (n := 2) (k0 := 0) (As := [.int 0, .int 0]) (rest := []) hX hB (k_X10_isThrown_ κ l (mw κ a r f (va_up q 3 t11) (tb a) w) 0 (a 0) (a 1) ((va_up q 3 t11) 0) ((va_up q 3 t11) 1) ((va_up q 3 t11) 2) ((va_up q 3 t11) 3) 0 0 (mw0x (a := a) (r := r) (f := f) (q := (va_up q 3 t11)) (T := tb a) (w := w) rfl)) ⟨rfl, by decide, by decide, by decide +kernel⟩ wm_5_188 wm_5_190 wp_27 wm_1_6 wm_5_191 ⟨Nat.le_of_ble_eq_true rfl, Nat.le_of_ble_eq_true rfl⟩ ⟨Nat.le_of_ble_eq_true rfl, Nat.le_of_ble_eq_true rfl⟩ (mw0x (a := a) (r := r) (f := f) (q := (va_up q 3 t11)) (T := tb a) (w := w) rfl) rfl rfl rfl hl.1 rfl (Nat.le_of_ble_eq_true rfl) dX10_divisor_54 (fun o w' H locs hp hB => ?_)
        obtain ⟨x22, t23, rfl, hf24, hw9⟩ := hp
        replace hB : Bd κ A s (mw κ a r f (va_up (va_up q 3 t11) 3 t23) (tb a) w) H locs := by exact Bd_eq (mwQ3x rfl _) (by rw [hw9] at hB; exact hB)
        obtain rfl : x22 = 0 := hf24.trans (by decide)
        refine W.eq (g2 := F0 m 57 ls [.int 0]) rfl ?_
        refine lv_if_eq (tgt := 64) hx hb dX10_divisor_57 (by decide) (fun _ => ?_) (fun c25 => False.elim (by revert c25; decide))
        refine lv_aload_n hx hb dX10_divisor_64 rfl (lv_at hl 0 rfl) ?_
        refine lv_iload_n hx hb dX10_divisor_65 rfl (lv_at hl 3 rfl) ?_
        refine call_V (n := 1) (k0 := (2 + 2 * y.toNatClampNeg)) (As := [.int z]) (rest := []) hX hB (k_X7_divisor κ l (mw κ a r f (va_up (va_up q 3 t11) 3 t23) (tb a) w) (2 + 2 * y.toNatClampNeg) (3 + 2 * y.toNatClampNeg) (a (2 + 2 * y.toNatClampNeg)) (a (3 + 2 * y.toNatClampNeg)) (r (2 * y.toNatClampNeg)) (r (2 * y.toNatClampNeg + 1)) (f y.toNatClampNeg) z (mwG (i := y.toNatClampNeg) (a := a) (r := r) (f := f) (q := (va_up (va_up q 3 t11) 3 t23)) (T := tb a) (w := w) (by omega)) (mwA (i := y.toNatClampNeg) (a := a) (r := r) (f := f) (q := (va_up (va_up q 3 t11) 3 t23)) (T := tb a) (w := w) (by omega)) (mok_shp (i := y.toNatClampNeg) hm (by omega))) ⟨rfl, by decide, by decide, by decide +kernel⟩ wm_7_97 wm_7_98 wm_7_99 wm_1_7 wm_7_100 ⟨Nat.le_of_ble_eq_true rfl, Nat.le_of_ble_eq_true rfl⟩ ⟨Nat.le_of_ble_eq_true rfl, Nat.le_of_ble_eq_true rfl⟩ (mwG (i := y.toNatClampNeg) (a := a) (r := r) (f := f) (q := (va_up (va_up q 3 t11) 3 t23)) (T := tb a) (w := w) (by omega)) rfl rfl rfl hl.1 rfl (Nat.le_of_ble_eq_true rfl) dX10_divisor_66 (fun o w' H locs hp hB => ?_)
        obtain ⟨x26, rfl, hw9⟩ := hp
        replace hB : Bd κ A s (mw κ a r f (va_up (va_up q 3 t11) 3 t23) (tb a) w) H locs := by rw [hw9] at hB; exact hB
        refine W.eq (g2 := F0 m 69 ls [.long x26]) rfl ?_
        refine lv_l2i hx hb dX10_divisor_69 rfl ?_
        rw [← hQ]
        exact end_i hX hB hA3 rfl rfl ⟨((x26).toInt32), (va_up (va_up q 3 t11) 3 t23), rfl, rfl, rfl⟩ (Nat.le_of_ble_eq_true rfl) (Nat.le_of_ble_eq_true rfl) dX10_divisor_70
      · refine lv_iconst (v := 1) hx hb dX10_divisor_49 (by decide) ?_
        refine lv_goto (tgt := 54) hx hb dX10_divisor_50 (by decide) ?_
        refine call_V (n := 2) (k0 := 0) (As := [.int 0, .int 1]) (rest := []) hX hB (k_X10_isThrown_ κ l (mw κ a r f (va_up q 3 t11) (tb a) w) 0 (a 0) (a 1) ((va_up q 3 t11) 0) ((va_up q 3 t11) 1) ((va_up q 3 t11) 2) ((va_up q 3 t11) 3) 0 1 (mw0x (a := a) (r := r) (f := f) (q := (va_up q 3 t11)) (T := tb a) (w := w) rfl)) ⟨rfl, by decide, by decide, by decide +kernel⟩ wm_5_188 wm_5_190 wp_27 wm_1_6 wm_5_191 ⟨Nat.le_of_ble_eq_true rfl, Nat.le_of_ble_eq_true rfl⟩ ⟨Nat.le_of_ble_eq_true rfl, Nat.le_of_ble_eq_true rfl⟩ (mw0x (a := a) (r := r) (f := f) (q := (va_up q 3 t11)) (T := tb a) (w := w) rfl) rfl rfl rfl hl.1 rfl (Nat.le_of_ble_eq_true rfl) dX10_divisor_54 (fun o w' H locs hp hB => ?_)
        obtain ⟨x27, t28, rfl, hf29, hw9⟩ := hp
        replace hB : Bd κ A s (mw κ a r f (va_up (va_up q 3 t11) 3 t28) (tb a) w) H locs := by exact Bd_eq (mwQ3x rfl _) (by rw [hw9] at hB; exact hB)
        obtain rfl : x27 = 1 := hf29.trans (by decide)
        refine W.eq (g2 := F0 m 57 ls [.int 1]) rfl ?_
        refine lv_if_eq (tgt := 64) hx hb dX10_divisor_57 (by decide) (fun c30 => False.elim (by revert c30; decide)) (fun _ => ?_)
        refine lv_iconst (v := 0) hx hb dX10_divisor_60 (by decide) ?_
        refine lv_goto (tgt := 70) hx hb dX10_divisor_61 (by decide) ?_
        rw [← hQ]
        exact end_i hX hB hA3 rfl rfl ⟨0, (va_up (va_up q 3 t11) 3 t28), rfl, rfl, rfl⟩ (Nat.le_of_ble_eq_true rfl) (Nat.le_of_ble_eq_true rfl) dX10_divisor_70
set_option maxHeartbeats 4000000 in
set_option maxRecDepth 100000 in
theorem k_X10_rank (κ : Kt) (l : Launch) (w : va_W) (a r : Nat → Nat) (f : Nat → Nat → Int64) (q : Nat → Int32) (y : Int32) (z : Int32) (hm : mok r f) : CM κ l yX10_rank cX10_rank 4 (some .int) 132 3037 5 50 [.ref (a 0), .int y, .int z] (mw κ a r f q (tb a) w) (fun o w' => ∃ (x : Int32) (q' : Nat → Int32), o = some (.int x) ∧ (q' 2 = q 2) ∧ w' = mw κ a r f q' (tb a) w) := by
  refine CM_begin (plainFor_of_name (by decide)) (Nat.le_of_ble_eq_true rfl) ?_
  intro p e s m args below meth c A Q hX hnm hA3 hQ hB ls hl
  have hx := hX.1.1
  have hb := hX.1.2.1
  have hl : lv_has ls 4 [(0, .ref (a 0)), (1, .int y), (2, .int z)] := hl
  refine lv_aload_n hx hb dX10_rank_0 rfl (lv_at hl 0 rfl) ?_
  refine lv_iload_n hx hb dX10_rank_1 rfl (lv_at hl 1 rfl) ?_
  refine call_S (n := 1) (As := [.int y]) (rest := [.ref (a 0)]) hX hB (k_X10_isTable κ l (mw κ a r f q (tb a) w) y) ⟨by decide, by decide, by decide +kernel⟩ wm_5_182 wm_5_183 wm_1_6 wm_5_184 ⟨Nat.le_of_ble_eq_true rfl, Nat.le_of_ble_eq_true rfl⟩ ⟨Nat.le_of_ble_eq_true rfl, Nat.le_of_ble_eq_true rfl⟩ rfl hl.1 rfl (Nat.le_of_ble_eq_true rfl) dX10_rank_2 (fun o w' H locs hp hB => ?_)
  obtain ⟨z1, rfl, hf2, hw9⟩ := hp
  replace hB : Bd κ A s (mw κ a r f q (tb a) w) H locs := by rw [hw9] at hB; exact hB
  rcases hf2 with rfl | ⟨rfl, hz3a, hz3b⟩
  · refine W.eq (g2 := F0 m 5 ls [.int 0, .ref (a 0)]) rfl ?_
    refine lv_if_ne (tgt := 12) hx hb dX10_rank_5 (by decide) (fun c4 => False.elim (by revert c4; decide)) (fun _ => ?_)
    refine lv_iconst (v := 1) hx hb dX10_rank_8 (by decide) ?_
    refine lv_goto (tgt := 13) hx hb dX10_rank_9 (by decide) ?_
    refine lv_iload_n hx hb dX10_rank_13 rfl (lv_at hl 2 rfl) ?_
    refine lv_if_lt (tgt := 22) hx hb dX10_rank_14 (by decide) (fun c5 => ?_) (fun c5 => ?_)
    · refine lv_iconst (v := 1) hx hb dX10_rank_22 (by decide) ?_
      refine lv_goto (tgt := 27) hx hb dX10_rank_23 (by decide) ?_
      refine call_V (n := 2) (k0 := 0) (As := [.int 1, .int 1]) (rest := []) hX hB (k_X10_isThrown_ κ l (mw κ a r f q (tb a) w) 0 (a 0) (a 1) (q 0) (q 1) (q 2) (q 3) 1 1 (mw0x (a := a) (r := r) (f := f) (q := q) (T := tb a) (w := w) rfl)) ⟨rfl, by decide, by decide, by decide +kernel⟩ wm_5_188 wm_5_190 wp_27 wm_1_6 wm_5_191 ⟨Nat.le_of_ble_eq_true rfl, Nat.le_of_ble_eq_true rfl⟩ ⟨Nat.le_of_ble_eq_true rfl, Nat.le_of_ble_eq_true rfl⟩ (mw0x (a := a) (r := r) (f := f) (q := q) (T := tb a) (w := w) rfl) rfl rfl rfl hl.1 rfl (Nat.le_of_ble_eq_true rfl) dX10_rank_27 (fun o w' H locs hp hB => ?_)
      obtain ⟨x6, t7, rfl, hf8, hw9⟩ := hp
      replace hB : Bd κ A s (mw κ a r f (va_up q 3 t7) (tb a) w) H locs := by exact Bd_eq (mwQ3x rfl _) (by rw [hw9] at hB; exact hB)
      obtain rfl : x6 = 1 := hf8.trans (by decide)
      refine W.eq (g2 := F0 m 30 ls [.int 1]) rfl ?_
      refine lv_if_eq (tgt := 35) hx hb dX10_rank_30 (by decide) (fun c9 => False.elim (by revert c9; decide)) (fun _ => ?_)
      refine lv_iconst (v := 0) hx hb dX10_rank_33 (by decide) ?_
      rw [← hQ]
      exact end_i hX hB hA3 rfl rfl ⟨0, (va_up q 3 t7), rfl, rfl, rfl⟩ (Nat.le_of_ble_eq_true rfl) (Nat.le_of_ble_eq_true rfl) dX10_rank_34
    · refine lv_iload_n hx hb dX10_rank_17 rfl (lv_at hl 2 rfl) ?_
      refine lv_iconst (v := 1) hx hb dX10_rank_18 (by decide) ?_
      refine lv_icmp_le (tgt := 26) hx hb dX10_rank_19 (by decide) (fun c10 => ?_) (fun c10 => ?_)
      · refine lv_iconst (v := 0) hx hb dX10_rank_26 (by decide) ?_
        refine call_V (n := 2) (k0 := 0) (As := [.int 1, .int 0]) (rest := []) hX hB (k_X10_isThrown_ κ l (mw κ a r f q (tb a) w) 0 (a 0) (a 1) (q 0) (q 1) (q 2) (q 3) 1 0 (mw0x (a := a) (r := r) (f := f) (q := q) (T := tb a) (w := w) rfl)) ⟨rfl, by decide, by decide, by decide +kernel⟩ wm_5_188 wm_5_190 wp_27 wm_1_6 wm_5_191 ⟨Nat.le_of_ble_eq_true rfl, Nat.le_of_ble_eq_true rfl⟩ ⟨Nat.le_of_ble_eq_true rfl, Nat.le_of_ble_eq_true rfl⟩ (mw0x (a := a) (r := r) (f := f) (q := q) (T := tb a) (w := w) rfl) rfl rfl rfl hl.1 rfl (Nat.le_of_ble_eq_true rfl) dX10_rank_27 (fun o w' H locs hp hB => ?_)
        obtain ⟨x11, t12, rfl, hf13, hw9⟩ := hp
        replace hB : Bd κ A s (mw κ a r f (va_up q 3 t12) (tb a) w) H locs := by exact Bd_eq (mwQ3x rfl _) (by rw [hw9] at hB; exact hB)
        obtain rfl : x11 = 1 := hf13.trans (by decide)
        refine W.eq (g2 := F0 m 30 ls [.int 1]) rfl ?_
        refine lv_if_eq (tgt := 35) hx hb dX10_rank_30 (by decide) (fun c14 => False.elim (by revert c14; decide)) (fun _ => ?_)
        refine lv_iconst (v := 0) hx hb dX10_rank_33 (by decide) ?_
        rw [← hQ]
        exact end_i hX hB hA3 rfl rfl ⟨0, (va_up q 3 t12), rfl, rfl, rfl⟩ (Nat.le_of_ble_eq_true rfl) (Nat.le_of_ble_eq_true rfl) dX10_rank_34
      · refine lv_iconst (v := 1) hx hb dX10_rank_22 (by decide) ?_
        refine lv_goto (tgt := 27) hx hb dX10_rank_23 (by decide) ?_
        refine call_V (n := 2) (k0 := 0) (As := [.int 1, .int 1]) (rest := []) hX hB (k_X10_isThrown_ κ l (mw κ a r f q (tb a) w) 0 (a 0) (a 1) (q 0) (q 1) (q 2) (q 3) 1 1 (mw0x (a := a) (r := r) (f := f) (q := q) (T := tb a) (w := w) rfl)) ⟨rfl, by decide, by decide, by decide +kernel⟩ wm_5_188 wm_5_190 wp_27 wm_1_6 wm_5_191 ⟨Nat.le_of_ble_eq_true rfl, Nat.le_of_ble_eq_true rfl⟩ ⟨Nat.le_of_ble_eq_true rfl, Nat.le_of_ble_eq_true rfl⟩ (mw0x (a := a) (r := r) (f := f) (q := q) (T := tb a) (w := w) rfl) rfl rfl rfl hl.1 rfl (Nat.le_of_ble_eq_true rfl) dX10_rank_27 (fun o w' H locs hp hB => ?_)
        obtain ⟨x15, t16, rfl, hf17, hw9⟩ := hp
        replace hB : Bd κ A s (mw κ a r f (va_up q 3 t16) (tb a) w) H locs := by exact Bd_eq (mwQ3x rfl _) (by rw [hw9] at hB; exact hB)
        obtain rfl : x15 = 1 := hf17.trans (by decide)
        refine W.eq (g2 := F0 m 30 ls [.int 1]) rfl ?_
        refine lv_if_eq (tgt := 35) hx hb dX10_rank_30 (by decide) (fun c18 => False.elim (by revert c18; decide)) (fun _ => ?_)
        refine lv_iconst (v := 0) hx hb dX10_rank_33 (by decide) ?_
        rw [← hQ]
        exact end_i hX hB hA3 rfl rfl ⟨0, (va_up q 3 t16), rfl, rfl, rfl⟩ (Nat.le_of_ble_eq_true rfl) (Nat.le_of_ble_eq_true rfl) dX10_rank_34
  · refine W.eq (g2 := F0 m 5 ls [.int 1, .ref (a 0)]) rfl ?_
    refine lv_if_ne (tgt := 12) hx hb dX10_rank_5 (by decide) (fun _ => ?_) (fun c19 => False.elim (by revert c19; decide))
    refine lv_iconst (v := 0) hx hb dX10_rank_12 (by decide) ?_
    refine lv_iload_n hx hb dX10_rank_13 rfl (lv_at hl 2 rfl) ?_
    refine lv_if_lt (tgt := 22) hx hb dX10_rank_14 (by decide) (fun c20 => ?_) (fun c20 => ?_)
    · refine lv_iconst (v := 1) hx hb dX10_rank_22 (by decide) ?_
      refine lv_goto (tgt := 27) hx hb dX10_rank_23 (by decide) ?_
      refine call_V (n := 2) (k0 := 0) (As := [.int 0, .int 1]) (rest := []) hX hB (k_X10_isThrown_ κ l (mw κ a r f q (tb a) w) 0 (a 0) (a 1) (q 0) (q 1) (q 2) (q 3) 0 1 (mw0x (a := a) (r := r) (f := f) (q := q) (T := tb a) (w := w) rfl)) ⟨rfl, by decide, by decide, by decide +kernel⟩ wm_5_188 wm_5_190 wp_27 wm_1_6 wm_5_191 ⟨Nat.le_of_ble_eq_true rfl, Nat.le_of_ble_eq_true rfl⟩ ⟨Nat.le_of_ble_eq_true rfl, Nat.le_of_ble_eq_true rfl⟩ (mw0x (a := a) (r := r) (f := f) (q := q) (T := tb a) (w := w) rfl) rfl rfl rfl hl.1 rfl (Nat.le_of_ble_eq_true rfl) dX10_rank_27 (fun o w' H locs hp hB => ?_)
      obtain ⟨x21, t22, rfl, hf23, hw9⟩ := hp
      replace hB : Bd κ A s (mw κ a r f (va_up q 3 t22) (tb a) w) H locs := by exact Bd_eq (mwQ3x rfl _) (by rw [hw9] at hB; exact hB)
      obtain rfl : x21 = 1 := hf23.trans (by decide)
      refine W.eq (g2 := F0 m 30 ls [.int 1]) rfl ?_
      refine lv_if_eq (tgt := 35) hx hb dX10_rank_30 (by decide) (fun c24 => False.elim (by revert c24; decide)) (fun _ => ?_)
      refine lv_iconst (v := 0) hx hb dX10_rank_33 (by decide) ?_
      rw [← hQ]
      exact end_i hX hB hA3 rfl rfl ⟨0, (va_up q 3 t22), rfl, rfl, rfl⟩ (Nat.le_of_ble_eq_true rfl) (Nat.le_of_ble_eq_true rfl) dX10_rank_34
    · refine lv_iload_n hx hb dX10_rank_17 rfl (lv_at hl 2 rfl) ?_
      refine lv_iconst (v := 1) hx hb dX10_rank_18 (by decide) ?_
      refine lv_icmp_le (tgt := 26) hx hb dX10_rank_19 (by decide) (fun c25 => ?_) (fun c25 => ?_)
      · refine lv_iconst (v := 0) hx hb dX10_rank_26 (by decide) ?_
        refine call_V (n := 2) (k0 := 0) (As := [.int 0, .int 0]) (rest := []) hX hB (k_X10_isThrown_ κ l (mw κ a r f q (tb a) w) 0 (a 0) (a 1) (q 0) (q 1) (q 2) (q 3) 0 0 (mw0x (a := a) (r := r) (f := f) (q := q) (T := tb a) (w := w) rfl)) ⟨rfl, by decide, by decide, by decide +kernel⟩ wm_5_188 wm_5_190 wp_27 wm_1_6 wm_5_191 ⟨Nat.le_of_ble_eq_true rfl, Nat.le_of_ble_eq_true rfl⟩ ⟨Nat.le_of_ble_eq_true rfl, Nat.le_of_ble_eq_true rfl⟩ (mw0x (a := a) (r := r) (f := f) (q := q) (T := tb a) (w := w) rfl) rfl rfl rfl hl.1 rfl (Nat.le_of_ble_eq_true rfl) dX10_rank_27 (fun o w' H locs hp hB => ?_)
        obtain ⟨x26, t27, rfl, hf28, hw9⟩ := hp
        replace hB : Bd κ A s (mw κ a r f (va_up q 3 t27) (tb a) w) H locs := by exact Bd_eq (mwQ3x rfl _) (by rw [hw9] at hB; exact hB)
        obtain rfl : x26 = 0 := hf28.trans (by decide)
        refine W.eq (g2 := F0 m 30 ls [.int 0]) rfl ?_
        refine lv_if_eq (tgt := 35) hx hb dX10_rank_30 (by decide) (fun _ => ?_) (fun c29 => False.elim (by revert c29; decide))
        refine lv_iload_n hx hb dX10_rank_35 rfl (lv_at hl 2 rfl) ?_
        refine lv_if_ne (tgt := 49) hx hb dX10_rank_36 (by decide) (fun c30 => ?_) (fun c30 => ?_)
        · refine newO (fs := [.null, .null, .int 0, .int 0]) hX hB (ci := 9) rfl in8 tyX8_ok wm_6_123 wm_6_124 wm_1_15 df9 (Nat.le_of_ble_eq_true rfl) (Nat.le_of_ble_eq_true rfl) dX10_rank_49 (fun q31 H hB => ?_)
          refine lv_dup hx hb dX10_rank_52 rfl ?_
          refine lv_aload_n hx hb dX10_rank_53 rfl (lv_at hl 0 rfl) ?_
          refine gf (k0 := 1) hX hB (mw0x (a := a) (r := r) (f := f) (q := (va_up q 3 t27)) (T := tb a) (w := w) rfl) rfl in10 0 (by decide) wm_5_162 rfl rfl dX10_rank_54 ?_
          refine lv_iload_n hx hb dX10_rank_57 rfl (lv_at hl 1 rfl) ?_
          refine aaldM (k0 := 2) hX hB (mw1 (a := a) (r := r) (f := f) (q := (va_up q 3 t27)) (T := tb a) (w := w)) (vp_in_mk (by assumption) (by assumption)) rfl dX10_rank_58 ?_
          have hb32 := mok_r hm y.toNatClampNeg (by omega)
          refine call_I (n := 1) (As := [.ref (a (2 + 2 * y.toNatClampNeg))]) (rest := [.ref q31]) hX hB (k_X8_init κ l (mw κ a r f (va_up q 3 t27) (tb a) w) q31 (2 + 2 * y.toNatClampNeg) (3 + 2 * y.toNatClampNeg) (a (2 + 2 * y.toNatClampNeg)) (a (3 + 2 * y.toNatClampNeg)) (r (2 * y.toNatClampNeg)) (r (2 * y.toNatClampNeg + 1)) (f y.toNatClampNeg) (mwG (i := y.toNatClampNeg) (a := a) (r := r) (f := f) (q := (va_up q 3 t27)) (T := tb a) (w := w) (by omega)) (mwA (i := y.toNatClampNeg) (a := a) (r := r) (f := f) (q := (va_up q 3 t27)) (T := tb a) (w := w) (by omega)) (mok_shp (i := y.toNatClampNeg) hm (by omega)) (fun k hk => sm_ng ((hm _ (by omega)).2 k hk))) ⟨by decide, by decide, by decide +kernel⟩ rfl wm_6_125 wm_6_126 wm_1_15 wm_6_127 ⟨Nat.le_of_ble_eq_true rfl, Nat.le_of_ble_eq_true rfl⟩ ⟨Nat.le_of_ble_eq_true rfl, Nat.le_of_ble_eq_true rfl⟩ rfl hl.1 rfl (Nat.le_of_ble_eq_true rfl) dX10_rank_59 (fun o w' H locs hp hB => ?_)
          obtain ⟨g33, b34, g35, b36, F37, F38, S39, G40, rfl, hf41, hw9⟩ := hp
          replace hB : Bd κ A s (lA κ b34 ((r (2 * y.toNatClampNeg)) * 5) F37 :: gO g33 (r (2 * y.toNatClampNeg)) (r (2 * y.toNatClampNeg)) b34 :: lA κ b36 ((r (2 * y.toNatClampNeg)) * 5) F38 :: gO g35 (r (2 * y.toNatClampNeg)) (r (2 * y.toNatClampNeg + 1)) b36 :: (q31, .inr (9, [.ref g35, .ref g33, .int S39, .int G40])) :: mw κ a r f (va_up q 3 t27) (tb a) w) H locs := by rw [hw9] at hB; exact hB
          refine W.eq (g2 := F0 m 62 ls [.ref q31]) rfl ?_
          refine lv_astore_n (lv' := [(3, .ref q31), (0, .ref (a 0)), (1, .int y), (2, .int z)]) hx hb dX10_rank_62 rfl hl (by decide) rfl (fun ls hl => ?_)
          refine lv_aload_n hx hb dX10_rank_63 rfl (lv_at hl 1 rfl) ?_
          refine lv_iconst (v := 0) hx hb dX10_rank_64 (by decide) ?_
          refine lv_iconst (v := 0) hx hb dX10_rank_65 (by decide) ?_
          refine lv_aload_n hx hb dX10_rank_66 rfl (lv_at hl 0 rfl) ?_
          refine gf (k0 := 4) hX hB rfl rfl in8 3 (by decide) wm_6_162 rfl rfl dX10_rank_67 ?_
          refine call_V (n := 3) (k0 := 5) (As := [.int 0, .int 0, .int G40]) (rest := []) hX hB (k_X10_isThrown κ l (lA κ b34 ((r (2 * y.toNatClampNeg)) * 5) F37 :: gO g33 (r (2 * y.toNatClampNeg)) (r (2 * y.toNatClampNeg)) b34 :: lA κ b36 ((r (2 * y.toNatClampNeg)) * 5) F38 :: gO g35 (r (2 * y.toNatClampNeg)) (r (2 * y.toNatClampNeg + 1)) b36 :: (q31, .inr (9, [.ref g35, .ref g33, .int S39, .int G40])) :: mw κ a r f (va_up q 3 t27) (tb a) w) 5 (a 0) (a 1) ((va_up q 3 t27) 0) ((va_up q 3 t27) 1) ((va_up q 3 t27) 2) ((va_up q 3 t27) 3) 0 0 G40 (mw0x (a := a) (r := r) (f := f) (q := (va_up q 3 t27)) (T := tb a) (w := w) rfl)) ⟨rfl, by decide, by decide, by decide +kernel⟩ wm_5_192 wm_5_194 wp_28 wm_1_6 wm_5_195 ⟨Nat.le_of_ble_eq_true rfl, Nat.le_of_ble_eq_true rfl⟩ ⟨Nat.le_of_ble_eq_true rfl, Nat.le_of_ble_eq_true rfl⟩ (mw0x (a := a) (r := r) (f := f) (q := (va_up q 3 t27)) (T := tb a) (w := w) rfl) rfl rfl rfl hl.1 rfl (Nat.le_of_ble_eq_true rfl) dX10_rank_70 (fun o w' H locs hp hB => ?_)
          obtain ⟨x42, t43, rfl, hf44, hw9⟩ := hp
          replace hB : Bd κ A s (lA κ b34 ((r (2 * y.toNatClampNeg)) * 5) F37 :: gO g33 (r (2 * y.toNatClampNeg)) (r (2 * y.toNatClampNeg)) b34 :: lA κ b36 ((r (2 * y.toNatClampNeg)) * 5) F38 :: gO g35 (r (2 * y.toNatClampNeg)) (r (2 * y.toNatClampNeg + 1)) b36 :: (q31, .inr (9, [.ref g35, .ref g33, .int S39, .int G40])) :: mw κ a r f (va_up (va_up q 3 t27) 3 t43) (tb a) w) H locs := by exact Bd_eq (congrArg (List.cons _) (congrArg (List.cons _) (congrArg (List.cons _) (congrArg (List.cons _) (congrArg (List.cons _) (mwQ3x rfl _)))))) (by rw [hw9] at hB; exact hB)
          rcases thr_cases hf44 with ⟨rfl, hz45a, hz45b, hz45c⟩ | ⟨rfl, hz45⟩
          · refine W.eq (g2 := F0 m 73 ls [.int 0]) rfl ?_
            refine lv_if_eq (tgt := 80) hx hb dX10_rank_73 (by decide) (fun _ => ?_) (fun c46 => False.elim (by revert c46; decide))
            refine lv_aload_n hx hb dX10_rank_80 rfl (lv_at hl 0 rfl) ?_
            refine call_V (n := 0) (k0 := 4) (As := []) (rest := []) hX hB (k_X8_rank κ l (mw κ a r f (va_up (va_up q 3 t27) 3 t43) (tb a) w) q31 g33 b34 g35 b36 (r (2 * y.toNatClampNeg)) (r (2 * y.toNatClampNeg + 1)) F37 F38 S39 G40 (mok_shp (i := y.toNatClampNeg) hm (by omega))) ⟨rfl, by decide, by decide, by decide +kernel⟩ wm_7_117 wm_7_118 wm_7_119 wm_1_15 wm_7_120 ⟨Nat.le_of_ble_eq_true rfl, Nat.le_of_ble_eq_true rfl⟩ ⟨Nat.le_of_ble_eq_true rfl, Nat.le_of_ble_eq_true rfl⟩ rfl rfl rfl rfl hl.1 rfl (Nat.le_of_ble_eq_true rfl) dX10_rank_81 (fun o w' H locs hp hB => ?_)
            obtain ⟨x47, rfl, hw9⟩ := hp
            replace hB : Bd κ A s (lA κ b34 ((r (2 * y.toNatClampNeg)) * 5) F37 :: gO g33 (r (2 * y.toNatClampNeg)) (r (2 * y.toNatClampNeg)) b34 :: lA κ b36 ((r (2 * y.toNatClampNeg)) * 5) F38 :: gO g35 (r (2 * y.toNatClampNeg)) (r (2 * y.toNatClampNeg + 1)) b36 :: (q31, .inr (9, [.ref g35, .ref g33, .int S39, .int G40])) :: mw κ a r f (va_up (va_up q 3 t27) 3 t43) (tb a) w) H locs := by rw [hw9] at hB; exact hB
            refine W.eq (g2 := F0 m 84 ls [.int x47]) rfl ?_
            replace hB : Bd κ A s (lA κ b34 ((r (2 * y.toNatClampNeg)) * 5) F37 :: gO g33 (r (2 * y.toNatClampNeg)) (r (2 * y.toNatClampNeg)) b34 :: lA κ b36 ((r (2 * y.toNatClampNeg)) * 5) F38 :: gO g35 (r (2 * y.toNatClampNeg)) (r (2 * y.toNatClampNeg + 1)) b36 :: mw κ a r f (va_up (va_up q 3 t27) 3 t43) (tb a) w) H locs := Bd_del 4 hB
            replace hB : Bd κ A s (lA κ b34 ((r (2 * y.toNatClampNeg)) * 5) F37 :: gO g33 (r (2 * y.toNatClampNeg)) (r (2 * y.toNatClampNeg)) b34 :: lA κ b36 ((r (2 * y.toNatClampNeg)) * 5) F38 :: mw κ a r f (va_up (va_up q 3 t27) 3 t43) (tb a) w) H locs := Bd_del 3 hB
            replace hB : Bd κ A s (lA κ b34 ((r (2 * y.toNatClampNeg)) * 5) F37 :: gO g33 (r (2 * y.toNatClampNeg)) (r (2 * y.toNatClampNeg)) b34 :: mw κ a r f (va_up (va_up q 3 t27) 3 t43) (tb a) w) H locs := Bd_del 2 hB
            replace hB : Bd κ A s (lA κ b34 ((r (2 * y.toNatClampNeg)) * 5) F37 :: mw κ a r f (va_up (va_up q 3 t27) 3 t43) (tb a) w) H locs := Bd_del 1 hB
            replace hB : Bd κ A s (mw κ a r f (va_up (va_up q 3 t27) 3 t43) (tb a) w) H locs := Bd_del 0 hB
            rw [← hQ]
            exact end_i hX hB hA3 rfl rfl ⟨x47, (va_up (va_up q 3 t27) 3 t43), rfl, rfl, rfl⟩ (Nat.le_of_ble_eq_true rfl) (Nat.le_of_ble_eq_true rfl) dX10_rank_84
          · refine W.eq (g2 := F0 m 73 ls [.int 1]) rfl ?_
            refine lv_if_eq (tgt := 80) hx hb dX10_rank_73 (by decide) (fun c48 => False.elim (by revert c48; decide)) (fun _ => ?_)
            refine lv_iconst (v := 0) hx hb dX10_rank_76 (by decide) ?_
            refine lv_goto (tgt := 84) hx hb dX10_rank_77 (by decide) ?_
            replace hB : Bd κ A s (lA κ b34 ((r (2 * y.toNatClampNeg)) * 5) F37 :: gO g33 (r (2 * y.toNatClampNeg)) (r (2 * y.toNatClampNeg)) b34 :: lA κ b36 ((r (2 * y.toNatClampNeg)) * 5) F38 :: gO g35 (r (2 * y.toNatClampNeg)) (r (2 * y.toNatClampNeg + 1)) b36 :: mw κ a r f (va_up (va_up q 3 t27) 3 t43) (tb a) w) H locs := Bd_del 4 hB
            replace hB : Bd κ A s (lA κ b34 ((r (2 * y.toNatClampNeg)) * 5) F37 :: gO g33 (r (2 * y.toNatClampNeg)) (r (2 * y.toNatClampNeg)) b34 :: lA κ b36 ((r (2 * y.toNatClampNeg)) * 5) F38 :: mw κ a r f (va_up (va_up q 3 t27) 3 t43) (tb a) w) H locs := Bd_del 3 hB
            replace hB : Bd κ A s (lA κ b34 ((r (2 * y.toNatClampNeg)) * 5) F37 :: gO g33 (r (2 * y.toNatClampNeg)) (r (2 * y.toNatClampNeg)) b34 :: mw κ a r f (va_up (va_up q 3 t27) 3 t43) (tb a) w) H locs := Bd_del 2 hB
            replace hB : Bd κ A s (lA κ b34 ((r (2 * y.toNatClampNeg)) * 5) F37 :: mw κ a r f (va_up (va_up q 3 t27) 3 t43) (tb a) w) H locs := Bd_del 1 hB
            replace hB : Bd κ A s (mw κ a r f (va_up (va_up q 3 t27) 3 t43) (tb a) w) H locs := Bd_del 0 hB
            rw [← hQ]
            exact end_i hX hB hA3 rfl rfl ⟨0, (va_up (va_up q 3 t27) 3 t43), rfl, rfl, rfl⟩ (Nat.le_of_ble_eq_true rfl) (Nat.le_of_ble_eq_true rfl) dX10_rank_84
        · refine lv_aload_n hx hb dX10_rank_39 rfl (lv_at hl 0 rfl) ?_
          refine gf (k0 := 0) hX hB (mw0x (a := a) (r := r) (f := f) (q := (va_up q 3 t27)) (T := tb a) (w := w) rfl) rfl in10 0 (by decide) wm_5_162 rfl rfl dX10_rank_40 ?_
          refine lv_iload_n hx hb dX10_rank_43 rfl (lv_at hl 1 rfl) ?_
          refine aaldM (k0 := 1) hX hB (mw1 (a := a) (r := r) (f := f) (q := (va_up q 3 t27)) (T := tb a) (w := w)) (vp_in_mk (by assumption) (by assumption)) rfl dX10_rank_44 ?_
          have hb49 := mok_r hm y.toNatClampNeg (by omega)
          refine call_V (n := 0) (k0 := (2 + 2 * y.toNatClampNeg)) (As := []) (rest := []) hX hB (k_X7_rank κ l (mw κ a r f (va_up q 3 t27) (tb a) w) (2 + 2 * y.toNatClampNeg) (3 + 2 * y.toNatClampNeg) (a (2 + 2 * y.toNatClampNeg)) (a (3 + 2 * y.toNatClampNeg)) (r (2 * y.toNatClampNeg)) (r (2 * y.toNatClampNeg + 1)) (f y.toNatClampNeg) (mwG (i := y.toNatClampNeg) (a := a) (r := r) (f := f) (q := (va_up q 3 t27)) (T := tb a) (w := w) (by omega)) (mwA (i := y.toNatClampNeg) (a := a) (r := r) (f := f) (q := (va_up q 3 t27)) (T := tb a) (w := w) (by omega)) (mok_shp (i := y.toNatClampNeg) hm (by omega))) ⟨rfl, by decide, by decide, by decide +kernel⟩ wm_7_111 wm_7_112 wm_7_113 wm_1_7 wm_7_114 ⟨Nat.le_of_ble_eq_true rfl, Nat.le_of_ble_eq_true rfl⟩ ⟨Nat.le_of_ble_eq_true rfl, Nat.le_of_ble_eq_true rfl⟩ (mwG (i := y.toNatClampNeg) (a := a) (r := r) (f := f) (q := (va_up q 3 t27)) (T := tb a) (w := w) (by omega)) rfl rfl rfl hl.1 rfl (Nat.le_of_ble_eq_true rfl) dX10_rank_45 (fun o w' H locs hp hB => ?_)
          obtain ⟨x50, rfl, hw9⟩ := hp
          replace hB : Bd κ A s (mw κ a r f (va_up q 3 t27) (tb a) w) H locs := by rw [hw9] at hB; exact hB
          refine W.eq (g2 := F0 m 48 ls [.int x50]) rfl ?_
          rw [← hQ]
          exact end_i hX hB hA3 rfl rfl ⟨x50, (va_up q 3 t27), rfl, rfl, rfl⟩ (Nat.le_of_ble_eq_true rfl) (Nat.le_of_ble_eq_true rfl) dX10_rank_48
      · refine lv_iconst (v := 1) hx hb dX10_rank_22 (by decide) ?_
        refine lv_goto (tgt := 27) hx hb dX10_rank_23 (by decide) ?_
        refine call_V (n := 2) (k0 := 0) (As := [.int 0, .int 1]) (rest := []) hX hB (k_X10_isThrown_ κ l (mw κ a r f q (tb a) w) 0 (a 0) (a 1) (q 0) (q 1) (q 2) (q 3) 0 1 (mw0x (a := a) (r := r) (f := f) (q := q) (T := tb a) (w := w) rfl)) ⟨rfl, by decide, by decide, by decide +kernel⟩ wm_5_188 wm_5_190 wp_27 wm_1_6 wm_5_191 ⟨Nat.le_of_ble_eq_true rfl, Nat.le_of_ble_eq_true rfl⟩ ⟨Nat.le_of_ble_eq_true rfl, Nat.le_of_ble_eq_true rfl⟩ (mw0x (a := a) (r := r) (f := f) (q := q) (T := tb a) (w := w) rfl) rfl rfl rfl hl.1 rfl (Nat.le_of_ble_eq_true rfl) dX10_rank_27 (fun o w' H locs hp hB => ?_)
        obtain ⟨x51, t52, rfl, hf53, hw9⟩ := hp
        replace hB : Bd κ A s (mw κ a r f (va_up q 3 t52) (tb a) w) H locs := by exact Bd_eq (mwQ3x rfl _) (by rw [hw9] at hB; exact hB)
        obtain rfl : x51 = 1 := hf53.trans (by decide)
        refine W.eq (g2 := F0 m 30 ls [.int 1]) rfl ?_
        refine lv_if_eq (tgt := 35) hx hb dX10_rank_30 (by decide) (fun c54 => False.elim (by revert c54; decide)) (fun _ => ?_)
        refine lv_iconst (v := 0) hx hb dX10_rank_33 (by decide) ?_
        rw [← hQ]
        exact end_i hX hB hA3 rfl rfl ⟨0, (va_up q 3 t52), rfl, rfl, rfl⟩ (Nat.le_of_ble_eq_true rfl) (Nat.le_of_ble_eq_true rfl) dX10_rank_34
set_option maxHeartbeats 4000000 in
set_option maxRecDepth 100000 in
theorem k_X10_told_ (κ : Kt) (l : Launch) (w : va_W) (a r : Nat → Nat) (f : Nat → Nat → Int64) (q : Nat → Int32) (y : Int32) (z : Int32) (u : Int32) (v : Int32) (hm : mok r f) : CM κ l yX10_told_ cX10_told_ 9 (some .int) 6 144 7 76 [.ref (a 0), .int y, .int z, .int u, .int v] (mw κ a r f q (tb a) w) (fun o w' => ∃ (x : Int32) (q' : Nat → Int32), o = some (.int x) ∧ (q' 2 = q 2) ∧ w' = mw κ a r f q' (tb a) w) := by
  refine CM_begin (plainFor_of_name (by decide)) (Nat.le_of_ble_eq_true rfl) ?_
  intro p e s m args below meth c A Q hX hnm hA3 hQ hB ls hl
  have hx := hX.1.1
  have hb := hX.1.2.1
  have hl : lv_has ls 9 [(0, .ref (a 0)), (1, .int y), (2, .int z), (3, .int u), (4, .int v)] := hl
  refine lv_aload_n hx hb dX10_told__0 rfl (lv_at hl 0 rfl) ?_
  refine lv_iload_n hx hb dX10_told__1 rfl (lv_at hl 1 rfl) ?_
  refine call_S (n := 1) (As := [.int y]) (rest := [.ref (a 0)]) hX hB (k_X10_isTable κ l (mw κ a r f q (tb a) w) y) ⟨by decide, by decide, by decide +kernel⟩ wm_5_182 wm_5_183 wm_1_6 wm_5_184 ⟨Nat.le_of_ble_eq_true rfl, Nat.le_of_ble_eq_true rfl⟩ ⟨Nat.le_of_ble_eq_true rfl, Nat.le_of_ble_eq_true rfl⟩ rfl hl.1 rfl (Nat.le_of_ble_eq_true rfl) dX10_told__2 (fun o w' H locs hp hB => ?_)
  obtain ⟨z1, rfl, hf2, hw9⟩ := hp
  replace hB : Bd κ A s (mw κ a r f q (tb a) w) H locs := by rw [hw9] at hB; exact hB
  rcases hf2 with rfl | ⟨rfl, hz3a, hz3b⟩
  · refine W.eq (g2 := F0 m 5 ls [.int 0, .ref (a 0)]) rfl ?_
    refine lv_if_ne (tgt := 12) hx hb dX10_told__5 (by decide) (fun c4 => False.elim (by revert c4; decide)) (fun _ => ?_)
    refine lv_iconst (v := 1) hx hb dX10_told__8 (by decide) ?_
    refine lv_goto (tgt := 13) hx hb dX10_told__9 (by decide) ?_
    refine call_V (n := 1) (k0 := 0) (As := [.int 1]) (rest := []) hX hB (k_X10_isThrown__ κ l (mw κ a r f q (tb a) w) 0 (a 0) (a 1) (q 0) (q 1) (q 2) (q 3) 1 (mw0x (a := a) (r := r) (f := f) (q := q) (T := tb a) (w := w) rfl)) ⟨rfl, by decide, by decide, by decide +kernel⟩ wm_6_11 wm_6_13 wp_33 wm_1_6 wm_6_14 ⟨Nat.le_of_ble_eq_true rfl, Nat.le_of_ble_eq_true rfl⟩ ⟨Nat.le_of_ble_eq_true rfl, Nat.le_of_ble_eq_true rfl⟩ (mw0x (a := a) (r := r) (f := f) (q := q) (T := tb a) (w := w) rfl) rfl rfl rfl hl.1 rfl (Nat.le_of_ble_eq_true rfl) dX10_told__13 (fun o w' H locs hp hB => ?_)
    obtain ⟨x5, t6, rfl, hf7, hw9⟩ := hp
    replace hB : Bd κ A s (mw κ a r f (va_up q 3 t6) (tb a) w) H locs := by exact Bd_eq (mwQ3x rfl _) (by rw [hw9] at hB; exact hB)
    obtain rfl : x5 = 1 := hf7.trans (by decide)
    refine W.eq (g2 := F0 m 16 ls [.int 1]) rfl ?_
    refine lv_if_eq (tgt := 21) hx hb dX10_told__16 (by decide) (fun c8 => False.elim (by revert c8; decide)) (fun _ => ?_)
    refine lv_iconst (v := 0) hx hb dX10_told__19 (by decide) ?_
    rw [← hQ]
    exact end_i hX hB hA3 rfl rfl ⟨0, (va_up q 3 t6), rfl, rfl, rfl⟩ (Nat.le_of_ble_eq_true rfl) (Nat.le_of_ble_eq_true rfl) dX10_told__20
  · refine W.eq (g2 := F0 m 5 ls [.int 1, .ref (a 0)]) rfl ?_
    refine lv_if_ne (tgt := 12) hx hb dX10_told__5 (by decide) (fun _ => ?_) (fun c9 => False.elim (by revert c9; decide))
    refine lv_iconst (v := 0) hx hb dX10_told__12 (by decide) ?_
    refine call_V (n := 1) (k0 := 0) (As := [.int 0]) (rest := []) hX hB (k_X10_isThrown__ κ l (mw κ a r f q (tb a) w) 0 (a 0) (a 1) (q 0) (q 1) (q 2) (q 3) 0 (mw0x (a := a) (r := r) (f := f) (q := q) (T := tb a) (w := w) rfl)) ⟨rfl, by decide, by decide, by decide +kernel⟩ wm_6_11 wm_6_13 wp_33 wm_1_6 wm_6_14 ⟨Nat.le_of_ble_eq_true rfl, Nat.le_of_ble_eq_true rfl⟩ ⟨Nat.le_of_ble_eq_true rfl, Nat.le_of_ble_eq_true rfl⟩ (mw0x (a := a) (r := r) (f := f) (q := q) (T := tb a) (w := w) rfl) rfl rfl rfl hl.1 rfl (Nat.le_of_ble_eq_true rfl) dX10_told__13 (fun o w' H locs hp hB => ?_)
    obtain ⟨x10, t11, rfl, hf12, hw9⟩ := hp
    replace hB : Bd κ A s (mw κ a r f (va_up q 3 t11) (tb a) w) H locs := by exact Bd_eq (mwQ3x rfl _) (by rw [hw9] at hB; exact hB)
    obtain rfl : x10 = 0 := hf12.trans (by decide)
    refine W.eq (g2 := F0 m 16 ls [.int 0]) rfl ?_
    refine lv_if_eq (tgt := 21) hx hb dX10_told__16 (by decide) (fun _ => ?_) (fun c13 => False.elim (by revert c13; decide))
    refine lv_aload_n hx hb dX10_told__21 rfl (lv_at hl 0 rfl) ?_
    refine gf (k0 := 0) hX hB (mw0x (a := a) (r := r) (f := f) (q := (va_up q 3 t11)) (T := tb a) (w := w) rfl) rfl in10 0 (by decide) wm_5_162 rfl rfl dX10_told__22 ?_
    refine lv_iload_n hx hb dX10_told__25 rfl (lv_at hl 1 rfl) ?_
    refine aaldM (k0 := 1) hX hB (mw1 (a := a) (r := r) (f := f) (q := (va_up q 3 t11)) (T := tb a) (w := w)) (vp_in_mk (by assumption) (by assumption)) rfl dX10_told__26 ?_
    have hb14 := mok_r hm y.toNatClampNeg (by omega)
    refine lv_astore (lv' := [(5, .ref (a (2 + 2 * y.toNatClampNeg))), (0, .ref (a 0)), (1, .int y), (2, .int z), (3, .int u), (4, .int v)]) hx hb dX10_told__27 hl (by decide) rfl (fun ls hl => ?_)
    refine lv_iload_n hx hb dX10_told__29 rfl (lv_at hl 3 rfl) ?_
    refine lv_iconst (v := 4) hx hb dX10_told__30 (by decide) ?_
    refine lv_icmp_ne (tgt := 42) hx hb dX10_told__31 (by decide) (fun c15 => ?_) (fun c15 => ?_)
    · refine lv_aload hx hb dX10_told__42 (lv_at hl 0 rfl) ?_
      refine gf (k0 := 2 + 2 * y.toNatClampNeg) hX hB (mwG (i := y.toNatClampNeg) (a := a) (r := r) (f := f) (q := (va_up q 3 t11)) (T := tb a) (w := w) (by omega)) rfl in7 0 (by decide) wm_5_148 rfl rfl dX10_told__44 ?_
      refine lv_istore (lv' := [(6, .int (nI (r (2 * y.toNatClampNeg)))), (5, .ref (a (2 + 2 * y.toNatClampNeg))), (0, .ref (a 0)), (1, .int y), (2, .int z), (3, .int u), (4, .int v)]) hx hb dX10_told__47 hl (by decide) rfl (fun ls hl => ?_)
      refine lv_iload_n hx hb dX10_told__49 rfl (lv_at hl 4 rfl) ?_
      refine lv_iconst (v := 1) hx hb dX10_told__50 (by decide) ?_
      refine lv_icmp_eq (tgt := 59) hx hb dX10_told__51 (by decide) (fun c16 => ?_) (fun c16 => ?_)
      · refine lv_aload hx hb dX10_told__59 (lv_at hl 1 rfl) ?_
        refine gf (k0 := 2 + 2 * y.toNatClampNeg) hX hB (mwG (i := y.toNatClampNeg) (a := a) (r := r) (f := f) (q := (va_up q 3 t11)) (T := tb a) (w := w) (by omega)) rfl in7 0 (by decide) wm_5_148 rfl rfl dX10_told__61 ?_
        refine lv_goto (tgt := 72) hx hb dX10_told__64 (by decide) ?_
        refine lv_istore (lv' := [(7, .int (nI (r (2 * y.toNatClampNeg)))), (6, .int (nI (r (2 * y.toNatClampNeg)))), (5, .ref (a (2 + 2 * y.toNatClampNeg))), (0, .ref (a 0)), (1, .int y), (2, .int z), (3, .int u), (4, .int v)]) hx hb dX10_told__72 hl (by decide) rfl (fun ls hl => ?_)
        refine lv_aload_n hx hb dX10_told__74 rfl (lv_at hl 3 rfl) ?_
        refine lv_iconst (v := 0) hx hb dX10_told__75 (by decide) ?_
        refine lv_iload_n hx hb dX10_told__76 rfl (lv_at hl 5 rfl) ?_
        refine lv_if_lt (tgt := 107) hx hb dX10_told__77 (by decide) (fun c17 => ?_) (fun c17 => ?_)
        · refine lv_iconst (v := 1) hx hb dX10_told__107 (by decide) ?_
          refine lv_goto (tgt := 112) hx hb dX10_told__108 (by decide) ?_
          refine call_V (n := 2) (k0 := 0) (As := [.int 0, .int 1]) (rest := []) hX hB (k_X10_isThrown_ κ l (mw κ a r f (va_up q 3 t11) (tb a) w) 0 (a 0) (a 1) ((va_up q 3 t11) 0) ((va_up q 3 t11) 1) ((va_up q 3 t11) 2) ((va_up q 3 t11) 3) 0 1 (mw0x (a := a) (r := r) (f := f) (q := (va_up q 3 t11)) (T := tb a) (w := w) rfl)) ⟨rfl, by decide, by decide, by decide +kernel⟩ wm_5_188 wm_5_190 wp_27 wm_1_6 wm_5_191 ⟨Nat.le_of_ble_eq_true rfl, Nat.le_of_ble_eq_true rfl⟩ ⟨Nat.le_of_ble_eq_true rfl, Nat.le_of_ble_eq_true rfl⟩ (mw0x (a := a) (r := r) (f := f) (q := (va_up q 3 t11)) (T := tb a) (w := w) rfl) rfl rfl rfl hl.1 rfl (Nat.le_of_ble_eq_true rfl) dX10_told__112 (fun o w' H locs hp hB => ?_)
          obtain ⟨x18, t19, rfl, hf20, hw9⟩ := hp
          replace hB : Bd κ A s (mw κ a r f (va_up (va_up q 3 t11) 3 t19) (tb a) w) H locs := by exact Bd_eq (mwQ3x rfl _) (by rw [hw9] at hB; exact hB)
          obtain rfl : x18 = 1 := hf20.trans (by decide)
          refine W.eq (g2 := F0 m 115 ls [.int 1]) rfl ?_
          refine lv_if_eq (tgt := 120) hx hb dX10_told__115 (by decide) (fun c21 => False.elim (by revert c21; decide)) (fun _ => ?_)
          refine lv_iconst (v := 0) hx hb dX10_told__118 (by decide) ?_
          rw [← hQ]
          exact end_i hX hB hA3 rfl rfl ⟨0, (va_up (va_up q 3 t11) 3 t19), rfl, rfl, rfl⟩ (Nat.le_of_ble_eq_true rfl) (Nat.le_of_ble_eq_true rfl) dX10_told__119
        · refine lv_iload_n hx hb dX10_told__80 rfl (lv_at hl 5 rfl) ?_
          refine lv_iconst (v := 4) hx hb dX10_told__81 (by decide) ?_
          refine lv_icmp_gt (tgt := 107) hx hb dX10_told__82 (by decide) (fun c22 => ?_) (fun c22 => ?_)
          · refine lv_iconst (v := 1) hx hb dX10_told__107 (by decide) ?_
            refine lv_goto (tgt := 112) hx hb dX10_told__108 (by decide) ?_
            refine call_V (n := 2) (k0 := 0) (As := [.int 0, .int 1]) (rest := []) hX hB (k_X10_isThrown_ κ l (mw κ a r f (va_up q 3 t11) (tb a) w) 0 (a 0) (a 1) ((va_up q 3 t11) 0) ((va_up q 3 t11) 1) ((va_up q 3 t11) 2) ((va_up q 3 t11) 3) 0 1 (mw0x (a := a) (r := r) (f := f) (q := (va_up q 3 t11)) (T := tb a) (w := w) rfl)) ⟨rfl, by decide, by decide, by decide +kernel⟩ wm_5_188 wm_5_190 wp_27 wm_1_6 wm_5_191 ⟨Nat.le_of_ble_eq_true rfl, Nat.le_of_ble_eq_true rfl⟩ ⟨Nat.le_of_ble_eq_true rfl, Nat.le_of_ble_eq_true rfl⟩ (mw0x (a := a) (r := r) (f := f) (q := (va_up q 3 t11)) (T := tb a) (w := w) rfl) rfl rfl rfl hl.1 rfl (Nat.le_of_ble_eq_true rfl) dX10_told__112 (fun o w' H locs hp hB => ?_)
            obtain ⟨x23, t24, rfl, hf25, hw9⟩ := hp
            replace hB : Bd κ A s (mw κ a r f (va_up (va_up q 3 t11) 3 t24) (tb a) w) H locs := by exact Bd_eq (mwQ3x rfl _) (by rw [hw9] at hB; exact hB)
            obtain rfl : x23 = 1 := hf25.trans (by decide)
            refine W.eq (g2 := F0 m 115 ls [.int 1]) rfl ?_
            refine lv_if_eq (tgt := 120) hx hb dX10_told__115 (by decide) (fun c26 => False.elim (by revert c26; decide)) (fun _ => ?_)
            refine lv_iconst (v := 0) hx hb dX10_told__118 (by decide) ?_
            rw [← hQ]
            exact end_i hX hB hA3 rfl rfl ⟨0, (va_up (va_up q 3 t11) 3 t24), rfl, rfl, rfl⟩ (Nat.le_of_ble_eq_true rfl) (Nat.le_of_ble_eq_true rfl) dX10_told__119
          · refine lv_iload_n hx hb dX10_told__85 rfl (lv_at hl 6 rfl) ?_
            refine lv_if_lt (tgt := 107) hx hb dX10_told__86 (by decide) (fun c27 => ?_) (fun c27 => ?_)
            · refine lv_iconst (v := 1) hx hb dX10_told__107 (by decide) ?_
              refine lv_goto (tgt := 112) hx hb dX10_told__108 (by decide) ?_
              refine call_V (n := 2) (k0 := 0) (As := [.int 0, .int 1]) (rest := []) hX hB (k_X10_isThrown_ κ l (mw κ a r f (va_up q 3 t11) (tb a) w) 0 (a 0) (a 1) ((va_up q 3 t11) 0) ((va_up q 3 t11) 1) ((va_up q 3 t11) 2) ((va_up q 3 t11) 3) 0 1 (mw0x (a := a) (r := r) (f := f) (q := (va_up q 3 t11)) (T := tb a) (w := w) rfl)) ⟨rfl, by decide, by decide, by decide +kernel⟩ wm_5_188 wm_5_190 wp_27 wm_1_6 wm_5_191 ⟨Nat.le_of_ble_eq_true rfl, Nat.le_of_ble_eq_true rfl⟩ ⟨Nat.le_of_ble_eq_true rfl, Nat.le_of_ble_eq_true rfl⟩ (mw0x (a := a) (r := r) (f := f) (q := (va_up q 3 t11)) (T := tb a) (w := w) rfl) rfl rfl rfl hl.1 rfl (Nat.le_of_ble_eq_true rfl) dX10_told__112 (fun o w' H locs hp hB => ?_)
              obtain ⟨x28, t29, rfl, hf30, hw9⟩ := hp
              replace hB : Bd κ A s (mw κ a r f (va_up (va_up q 3 t11) 3 t29) (tb a) w) H locs := by exact Bd_eq (mwQ3x rfl _) (by rw [hw9] at hB; exact hB)
              obtain rfl : x28 = 1 := hf30.trans (by decide)
              refine W.eq (g2 := F0 m 115 ls [.int 1]) rfl ?_
              refine lv_if_eq (tgt := 120) hx hb dX10_told__115 (by decide) (fun c31 => False.elim (by revert c31; decide)) (fun _ => ?_)
              refine lv_iconst (v := 0) hx hb dX10_told__118 (by decide) ?_
              rw [← hQ]
              exact end_i hX hB hA3 rfl rfl ⟨0, (va_up (va_up q 3 t11) 3 t29), rfl, rfl, rfl⟩ (Nat.le_of_ble_eq_true rfl) (Nat.le_of_ble_eq_true rfl) dX10_told__119
            · refine lv_iload_n hx hb dX10_told__89 rfl (lv_at hl 6 rfl) ?_
              refine lv_iload hx hb dX10_told__90 (lv_at hl 1 rfl) ?_
              refine lv_icmp_ge (tgt := 107) hx hb dX10_told__92 (by decide) (fun c33 => ?_) (fun c33 => ?_)
              · refine lv_iconst (v := 1) hx hb dX10_told__107 (by decide) ?_
                refine lv_goto (tgt := 112) hx hb dX10_told__108 (by decide) ?_
                refine call_V (n := 2) (k0 := 0) (As := [.int 0, .int 1]) (rest := []) hX hB (k_X10_isThrown_ κ l (mw κ a r f (va_up q 3 t11) (tb a) w) 0 (a 0) (a 1) ((va_up q 3 t11) 0) ((va_up q 3 t11) 1) ((va_up q 3 t11) 2) ((va_up q 3 t11) 3) 0 1 (mw0x (a := a) (r := r) (f := f) (q := (va_up q 3 t11)) (T := tb a) (w := w) rfl)) ⟨rfl, by decide, by decide, by decide +kernel⟩ wm_5_188 wm_5_190 wp_27 wm_1_6 wm_5_191 ⟨Nat.le_of_ble_eq_true rfl, Nat.le_of_ble_eq_true rfl⟩ ⟨Nat.le_of_ble_eq_true rfl, Nat.le_of_ble_eq_true rfl⟩ (mw0x (a := a) (r := r) (f := f) (q := (va_up q 3 t11)) (T := tb a) (w := w) rfl) rfl rfl rfl hl.1 rfl (Nat.le_of_ble_eq_true rfl) dX10_told__112 (fun o w' H locs hp hB => ?_)
                obtain ⟨x34, t35, rfl, hf36, hw9⟩ := hp
                replace hB : Bd κ A s (mw κ a r f (va_up (va_up q 3 t11) 3 t35) (tb a) w) H locs := by exact Bd_eq (mwQ3x rfl _) (by rw [hw9] at hB; exact hB)
                obtain rfl : x34 = 1 := hf36.trans (by decide)
                refine W.eq (g2 := F0 m 115 ls [.int 1]) rfl ?_
                refine lv_if_eq (tgt := 120) hx hb dX10_told__115 (by decide) (fun c37 => False.elim (by revert c37; decide)) (fun _ => ?_)
                refine lv_iconst (v := 0) hx hb dX10_told__118 (by decide) ?_
                rw [← hQ]
                exact end_i hX hB hA3 rfl rfl ⟨0, (va_up (va_up q 3 t11) 3 t35), rfl, rfl, rfl⟩ (Nat.le_of_ble_eq_true rfl) (Nat.le_of_ble_eq_true rfl) dX10_told__119
              · have hq32 := nlt_of (x := u) (n := r (2 * y.toNatClampNeg)) c27 (by omega) c33
                refine lv_iload hx hb dX10_told__95 (lv_at hl 7 rfl) ?_
                refine lv_if_lt (tgt := 107) hx hb dX10_told__97 (by decide) (fun c38 => ?_) (fun c38 => ?_)
                · refine lv_iconst (v := 1) hx hb dX10_told__107 (by decide) ?_
                  refine lv_goto (tgt := 112) hx hb dX10_told__108 (by decide) ?_
                  refine call_V (n := 2) (k0 := 0) (As := [.int 0, .int 1]) (rest := []) hX hB (k_X10_isThrown_ κ l (mw κ a r f (va_up q 3 t11) (tb a) w) 0 (a 0) (a 1) ((va_up q 3 t11) 0) ((va_up q 3 t11) 1) ((va_up q 3 t11) 2) ((va_up q 3 t11) 3) 0 1 (mw0x (a := a) (r := r) (f := f) (q := (va_up q 3 t11)) (T := tb a) (w := w) rfl)) ⟨rfl, by decide, by decide, by decide +kernel⟩ wm_5_188 wm_5_190 wp_27 wm_1_6 wm_5_191 ⟨Nat.le_of_ble_eq_true rfl, Nat.le_of_ble_eq_true rfl⟩ ⟨Nat.le_of_ble_eq_true rfl, Nat.le_of_ble_eq_true rfl⟩ (mw0x (a := a) (r := r) (f := f) (q := (va_up q 3 t11)) (T := tb a) (w := w) rfl) rfl rfl rfl hl.1 rfl (Nat.le_of_ble_eq_true rfl) dX10_told__112 (fun o w' H locs hp hB => ?_)
                  obtain ⟨x39, t40, rfl, hf41, hw9⟩ := hp
                  replace hB : Bd κ A s (mw κ a r f (va_up (va_up q 3 t11) 3 t40) (tb a) w) H locs := by exact Bd_eq (mwQ3x rfl _) (by rw [hw9] at hB; exact hB)
                  obtain rfl : x39 = 1 := hf41.trans (by decide)
                  refine W.eq (g2 := F0 m 115 ls [.int 1]) rfl ?_
                  refine lv_if_eq (tgt := 120) hx hb dX10_told__115 (by decide) (fun c42 => False.elim (by revert c42; decide)) (fun _ => ?_)
                  refine lv_iconst (v := 0) hx hb dX10_told__118 (by decide) ?_
                  rw [← hQ]
                  exact end_i hX hB hA3 rfl rfl ⟨0, (va_up (va_up q 3 t11) 3 t40), rfl, rfl, rfl⟩ (Nat.le_of_ble_eq_true rfl) (Nat.le_of_ble_eq_true rfl) dX10_told__119
                · refine lv_iload hx hb dX10_told__100 (lv_at hl 7 rfl) ?_
                  refine lv_iload hx hb dX10_told__102 (lv_at hl 0 rfl) ?_
                  refine lv_icmp_lt (tgt := 111) hx hb dX10_told__104 (by decide) (fun c44 => ?_) (fun c44 => ?_)
                  · have hq43 := nlt_of (x := v) (n := r (2 * y.toNatClampNeg)) c38 (by omega) (Int32.not_le.mpr c44)
                    refine lv_iconst (v := 0) hx hb dX10_told__111 (by decide) ?_
                    refine call_V (n := 2) (k0 := 0) (As := [.int 0, .int 0]) (rest := []) hX hB (k_X10_isThrown_ κ l (mw κ a r f (va_up q 3 t11) (tb a) w) 0 (a 0) (a 1) ((va_up q 3 t11) 0) ((va_up q 3 t11) 1) ((va_up q 3 t11) 2) ((va_up q 3 t11) 3) 0 0 (mw0x (a := a) (r := r) (f := f) (q := (va_up q 3 t11)) (T := tb a) (w := w) rfl)) ⟨rfl, by decide, by decide, by decide +kernel⟩ wm_5_188 wm_5_190 wp_27 wm_1_6 wm_5_191 ⟨Nat.le_of_ble_eq_true rfl, Nat.le_of_ble_eq_true rfl⟩ ⟨Nat.le_of_ble_eq_true rfl, Nat.le_of_ble_eq_true rfl⟩ (mw0x (a := a) (r := r) (f := f) (q := (va_up q 3 t11)) (T := tb a) (w := w) rfl) rfl rfl rfl hl.1 rfl (Nat.le_of_ble_eq_true rfl) dX10_told__112 (fun o w' H locs hp hB => ?_)
                    obtain ⟨x45, t46, rfl, hf47, hw9⟩ := hp
                    replace hB : Bd κ A s (mw κ a r f (va_up (va_up q 3 t11) 3 t46) (tb a) w) H locs := by exact Bd_eq (mwQ3x rfl _) (by rw [hw9] at hB; exact hB)
                    obtain rfl : x45 = 0 := hf47.trans (by decide)
                    refine W.eq (g2 := F0 m 115 ls [.int 0]) rfl ?_
                    refine lv_if_eq (tgt := 120) hx hb dX10_told__115 (by decide) (fun _ => ?_) (fun c48 => False.elim (by revert c48; decide))
                    refine lv_aload hx hb dX10_told__120 (lv_at hl 2 rfl) ?_
                    refine lv_iload_n hx hb dX10_told__122 rfl (lv_at hl 5 rfl) ?_
                    refine call_S (n := 2) (As := [.ref (a (2 + 2 * y.toNatClampNeg)), .int z]) (rest := []) hX hB (k_X10_toldOf κ l (mw κ a r f (va_up (va_up q 3 t11) 3 t46) (tb a) w) (2 + 2 * y.toNatClampNeg) (3 + 2 * y.toNatClampNeg) (a (2 + 2 * y.toNatClampNeg)) (a (3 + 2 * y.toNatClampNeg)) (r (2 * y.toNatClampNeg)) (r (2 * y.toNatClampNeg + 1)) (f y.toNatClampNeg) z (mwG (i := y.toNatClampNeg) (a := a) (r := r) (f := f) (q := (va_up (va_up q 3 t11) 3 t46)) (T := tb a) (w := w) (by omega)) (mwA (i := y.toNatClampNeg) (a := a) (r := r) (f := f) (q := (va_up (va_up q 3 t11) 3 t46)) (T := tb a) (w := w) (by omega)) (mok_shp (i := y.toNatClampNeg) hm (by omega)) (by omega) (fun k hk => sm_ng ((hm _ (by omega)).2 k hk)) ⟨by assumption, by first | assumption | exact Int32.not_lt.mp (by assumption)⟩) ⟨by decide, by decide, by decide +kernel⟩ wm_6_120 wm_6_121 wm_1_6 wm_6_122 ⟨Nat.le_of_ble_eq_true rfl, Nat.le_of_ble_eq_true rfl⟩ ⟨Nat.le_of_ble_eq_true rfl, Nat.le_of_ble_eq_true rfl⟩ rfl hl.1 rfl (Nat.le_of_ble_eq_true rfl) dX10_told__123 (fun o w' H locs hp hB => ?_)
                    rcases hp with ⟨rfl, hw9⟩ | ⟨q49, q50, R51, C52, F53, rfl, ⟨⟨hd54a, hd54b, hd54c, hd54d⟩, hd54t⟩, hw9⟩
                    · replace hB : Bd κ A s (mw κ a r f (va_up (va_up q 3 t11) 3 t46) (tb a) w) H locs := by rw [hw9] at hB; exact hB
                      refine W.eq (g2 := F0 m 126 ls [.null]) rfl ?_
                      refine lv_astoreN (lv' := [(8, .null), (7, .int (nI (r (2 * y.toNatClampNeg)))), (6, .int (nI (r (2 * y.toNatClampNeg)))), (5, .ref (a (2 + 2 * y.toNatClampNeg))), (0, .ref (a 0)), (1, .int y), (2, .int z), (3, .int u), (4, .int v)]) hx hb dX10_told__126 hl (by decide) rfl (fun ls hl => ?_)
                      refine lv_aload_n hx hb dX10_told__128 rfl (lv_at hl 4 rfl) ?_
                      refine lv_iconst (v := 0) hx hb dX10_told__129 (by decide) ?_
                      refine lv_iconst (v := 0) hx hb dX10_told__130 (by decide) ?_
                      refine lv_aloadN hx hb dX10_told__131 (lv_at hl 0 rfl) ?_
                      refine lv_ifnonnullN hx hb dX10_told__133 ?_
                      refine lv_iconst (v := 1) hx hb dX10_told__136 (by decide) ?_
                      refine lv_goto (tgt := 141) hx hb dX10_told__137 (by decide) ?_
                      refine call_V (n := 3) (k0 := 0) (As := [.int 0, .int 0, .int 1]) (rest := []) hX hB (k_X10_isThrown κ l (mw κ a r f (va_up (va_up q 3 t11) 3 t46) (tb a) w) 0 (a 0) (a 1) ((va_up (va_up q 3 t11) 3 t46) 0) ((va_up (va_up q 3 t11) 3 t46) 1) ((va_up (va_up q 3 t11) 3 t46) 2) ((va_up (va_up q 3 t11) 3 t46) 3) 0 0 1 (mw0x (a := a) (r := r) (f := f) (q := (va_up (va_up q 3 t11) 3 t46)) (T := tb a) (w := w) rfl)) ⟨rfl, by decide, by decide, by decide +kernel⟩ wm_5_192 wm_5_194 wp_28 wm_1_6 wm_5_195 ⟨Nat.le_of_ble_eq_true rfl, Nat.le_of_ble_eq_true rfl⟩ ⟨Nat.le_of_ble_eq_true rfl, Nat.le_of_ble_eq_true rfl⟩ (mw0x (a := a) (r := r) (f := f) (q := (va_up (va_up q 3 t11) 3 t46)) (T := tb a) (w := w) rfl) rfl rfl rfl hl.1 rfl (Nat.le_of_ble_eq_true rfl) dX10_told__141 (fun o w' H locs hp hB => ?_)
                      obtain ⟨x55, t56, rfl, hf57, hw9⟩ := hp
                      replace hB : Bd κ A s (mw κ a r f (va_up (va_up (va_up q 3 t11) 3 t46) 3 t56) (tb a) w) H locs := by exact Bd_eq (mwQ3x rfl _) (by rw [hw9] at hB; exact hB)
                      obtain rfl : x55 = 1 := hf57.trans (by decide)
                      refine W.eq (g2 := F0 m 144 ls [.int 1]) rfl ?_
                      refine lv_if_eq (tgt := 151) hx hb dX10_told__144 (by decide) (fun c58 => False.elim (by revert c58; decide)) (fun _ => ?_)
                      refine lv_iconst (v := 0) hx hb dX10_told__147 (by decide) ?_
                      refine lv_goto (tgt := 160) hx hb dX10_told__148 (by decide) ?_
                      rw [← hQ]
                      exact end_i hX hB hA3 rfl rfl ⟨0, (va_up (va_up (va_up q 3 t11) 3 t46) 3 t56), rfl, rfl, rfl⟩ (Nat.le_of_ble_eq_true rfl) (Nat.le_of_ble_eq_true rfl) dX10_told__160
                    · replace hB : Bd κ A s (lA κ q50 (R51 * 5) F53 :: gO q49 R51 C52 q50 :: mw κ a r f (va_up (va_up q 3 t11) 3 t46) (tb a) w) H locs := by rw [hw9] at hB; exact hB
                      refine W.eq (g2 := F0 m 126 ls [.ref q49]) rfl ?_
                      refine lv_astore (lv' := [(8, .ref q49), (7, .int (nI (r (2 * y.toNatClampNeg)))), (6, .int (nI (r (2 * y.toNatClampNeg)))), (5, .ref (a (2 + 2 * y.toNatClampNeg))), (0, .ref (a 0)), (1, .int y), (2, .int z), (3, .int u), (4, .int v)]) hx hb dX10_told__126 hl (by decide) rfl (fun ls hl => ?_)
                      refine lv_aload_n hx hb dX10_told__128 rfl (lv_at hl 4 rfl) ?_
                      refine lv_iconst (v := 0) hx hb dX10_told__129 (by decide) ?_
                      refine lv_iconst (v := 0) hx hb dX10_told__130 (by decide) ?_
                      refine lv_aload hx hb dX10_told__131 (lv_at hl 0 rfl) ?_
                      refine lv_ifnonnull (tgt := 140) hx hb dX10_told__133 (by decide) ?_
                      refine lv_iconst (v := 0) hx hb dX10_told__140 (by decide) ?_
                      refine call_V (n := 3) (k0 := 2) (As := [.int 0, .int 0, .int 0]) (rest := []) hX hB (k_X10_isThrown κ l (lA κ q50 (R51 * 5) F53 :: gO q49 R51 C52 q50 :: mw κ a r f (va_up (va_up q 3 t11) 3 t46) (tb a) w) 2 (a 0) (a 1) ((va_up (va_up q 3 t11) 3 t46) 0) ((va_up (va_up q 3 t11) 3 t46) 1) ((va_up (va_up q 3 t11) 3 t46) 2) ((va_up (va_up q 3 t11) 3 t46) 3) 0 0 0 (mw0x (a := a) (r := r) (f := f) (q := (va_up (va_up q 3 t11) 3 t46)) (T := tb a) (w := w) rfl)) ⟨rfl, by decide, by decide, by decide +kernel⟩ wm_5_192 wm_5_194 wp_28 wm_1_6 wm_5_195 ⟨Nat.le_of_ble_eq_true rfl, Nat.le_of_ble_eq_true rfl⟩ ⟨Nat.le_of_ble_eq_true rfl, Nat.le_of_ble_eq_true rfl⟩ (mw0x (a := a) (r := r) (f := f) (q := (va_up (va_up q 3 t11) 3 t46)) (T := tb a) (w := w) rfl) rfl rfl rfl hl.1 rfl (Nat.le_of_ble_eq_true rfl) dX10_told__141 (fun o w' H locs hp hB => ?_)
                      obtain ⟨x59, t60, rfl, hf61, hw9⟩ := hp
                      replace hB : Bd κ A s (lA κ q50 (R51 * 5) F53 :: gO q49 R51 C52 q50 :: mw κ a r f (va_up (va_up (va_up q 3 t11) 3 t46) 3 t60) (tb a) w) H locs := by exact Bd_eq (congrArg (List.cons _) (congrArg (List.cons _) (mwQ3x rfl _))) (by rw [hw9] at hB; exact hB)
                      obtain rfl : x59 = 0 := hf61.trans (by decide)
                      refine W.eq (g2 := F0 m 144 ls [.int 0]) rfl ?_
                      refine lv_if_eq (tgt := 151) hx hb dX10_told__144 (by decide) (fun _ => ?_) (fun c62 => False.elim (by revert c62; decide))
                      have hT1 : R51 = r (2 * y.toNatClampNeg) := by first | exact hd54t.1 (by assumption) | exact hd54t.2.1 (by assumption)
                      have hT2 : C52 = r (2 * y.toNatClampNeg) := by first | exact hd54t.2.2.1 (by assumption) | exact hd54t.2.2.2.1 (by assumption) | exact hd54t.2.2.2.2 (by assumption) (by assumption)
                      refine lv_aload hx hb dX10_told__151 (lv_at hl 0 rfl) ?_
                      refine lv_iload_n hx hb dX10_told__153 rfl (lv_at hl 7 rfl) ?_
                      refine lv_iload hx hb dX10_told__154 (lv_at hl 8 rfl) ?_
                      refine call_V (n := 2) (k0 := 1) (As := [.int u, .int v]) (rest := []) hX hB (k_X7_at κ l (lA κ q50 (R51 * 5) F53 :: gO q49 R51 C52 q50 :: mw κ a r f (va_up (va_up (va_up q 3 t11) 3 t46) 3 t60) (tb a) w) 1 0 q49 q50 R51 C52 F53 u ((u).toNatClampNeg) v ((v).toNatClampNeg) rfl rfl ⟨by omega, by omega, by omega, by omega⟩ (nI_rep (Int32.not_lt.mp (by assumption))) (nI_rep (Int32.not_lt.mp (by assumption))) (by omega)) ⟨rfl, by decide, by decide, by decide +kernel⟩ wm_5_233 wm_5_234 wm_5_235 wm_1_7 wm_5_236 ⟨Nat.le_of_ble_eq_true rfl, Nat.le_of_ble_eq_true rfl⟩ ⟨Nat.le_of_ble_eq_true rfl, Nat.le_of_ble_eq_true rfl⟩ rfl rfl rfl rfl hl.1 rfl (Nat.le_of_ble_eq_true rfl) dX10_told__156 (fun o w' H locs hp hB => ?_)
                      obtain ⟨rfl, hw9⟩ := hp
                      replace hB : Bd κ A s (lA κ q50 (R51 * 5) F53 :: gO q49 R51 C52 q50 :: mw κ a r f (va_up (va_up (va_up q 3 t11) 3 t46) 3 t60) (tb a) w) H locs := by rw [hw9] at hB; exact hB
                      refine W.eq (g2 := F0 m 159 ls [.long (F53 (((u).toNatClampNeg) * 5 + ((v).toNatClampNeg)))]) rfl ?_
                      refine lv_l2i hx hb dX10_told__159 rfl ?_
                      replace hB : Bd κ A s (lA κ q50 (R51 * 5) F53 :: mw κ a r f (va_up (va_up (va_up q 3 t11) 3 t46) 3 t60) (tb a) w) H locs := Bd_del 1 hB
                      replace hB : Bd κ A s (mw κ a r f (va_up (va_up (va_up q 3 t11) 3 t46) 3 t60) (tb a) w) H locs := Bd_del 0 hB
                      rw [← hQ]
                      exact end_i hX hB hA3 rfl rfl ⟨(((F53 (((u).toNatClampNeg) * 5 + ((v).toNatClampNeg)))).toInt32), (va_up (va_up (va_up q 3 t11) 3 t46) 3 t60), rfl, rfl, rfl⟩ (Nat.le_of_ble_eq_true rfl) (Nat.le_of_ble_eq_true rfl) dX10_told__160
                  · refine lv_iconst (v := 1) hx hb dX10_told__107 (by decide) ?_
                    refine lv_goto (tgt := 112) hx hb dX10_told__108 (by decide) ?_
                    refine call_V (n := 2) (k0 := 0) (As := [.int 0, .int 1]) (rest := []) hX hB (k_X10_isThrown_ κ l (mw κ a r f (va_up q 3 t11) (tb a) w) 0 (a 0) (a 1) ((va_up q 3 t11) 0) ((va_up q 3 t11) 1) ((va_up q 3 t11) 2) ((va_up q 3 t11) 3) 0 1 (mw0x (a := a) (r := r) (f := f) (q := (va_up q 3 t11)) (T := tb a) (w := w) rfl)) ⟨rfl, by decide, by decide, by decide +kernel⟩ wm_5_188 wm_5_190 wp_27 wm_1_6 wm_5_191 ⟨Nat.le_of_ble_eq_true rfl, Nat.le_of_ble_eq_true rfl⟩ ⟨Nat.le_of_ble_eq_true rfl, Nat.le_of_ble_eq_true rfl⟩ (mw0x (a := a) (r := r) (f := f) (q := (va_up q 3 t11)) (T := tb a) (w := w) rfl) rfl rfl rfl hl.1 rfl (Nat.le_of_ble_eq_true rfl) dX10_told__112 (fun o w' H locs hp hB => ?_)
                    obtain ⟨x63, t64, rfl, hf65, hw9⟩ := hp
                    replace hB : Bd κ A s (mw κ a r f (va_up (va_up q 3 t11) 3 t64) (tb a) w) H locs := by exact Bd_eq (mwQ3x rfl _) (by rw [hw9] at hB; exact hB)
                    obtain rfl : x63 = 1 := hf65.trans (by decide)
                    refine W.eq (g2 := F0 m 115 ls [.int 1]) rfl ?_
                    refine lv_if_eq (tgt := 120) hx hb dX10_told__115 (by decide) (fun c66 => False.elim (by revert c66; decide)) (fun _ => ?_)
                    refine lv_iconst (v := 0) hx hb dX10_told__118 (by decide) ?_
                    rw [← hQ]
                    exact end_i hX hB hA3 rfl rfl ⟨0, (va_up (va_up q 3 t11) 3 t64), rfl, rfl, rfl⟩ (Nat.le_of_ble_eq_true rfl) (Nat.le_of_ble_eq_true rfl) dX10_told__119
      · refine lv_iload_n hx hb dX10_told__54 rfl (lv_at hl 4 rfl) ?_
        refine lv_iconst (v := 3) hx hb dX10_told__55 (by decide) ?_
        refine lv_icmp_ne (tgt := 67) hx hb dX10_told__56 (by decide) (fun c67 => ?_) (fun c67 => ?_)
        · refine lv_aload hx hb dX10_told__67 (lv_at hl 1 rfl) ?_
          refine gf (k0 := 2 + 2 * y.toNatClampNeg) hX hB (mwG (i := y.toNatClampNeg) (a := a) (r := r) (f := f) (q := (va_up q 3 t11)) (T := tb a) (w := w) (by omega)) rfl in7 1 (by decide) wm_5_152 rfl rfl dX10_told__69 ?_
          refine lv_istore (lv' := [(7, .int (nI (r (2 * y.toNatClampNeg + 1)))), (6, .int (nI (r (2 * y.toNatClampNeg)))), (5, .ref (a (2 + 2 * y.toNatClampNeg))), (0, .ref (a 0)), (1, .int y), (2, .int z), (3, .int u), (4, .int v)]) hx hb dX10_told__72 hl (by decide) rfl (fun ls hl => ?_)
          refine lv_aload_n hx hb dX10_told__74 rfl (lv_at hl 3 rfl) ?_
          refine lv_iconst (v := 0) hx hb dX10_told__75 (by decide) ?_
          refine lv_iload_n hx hb dX10_told__76 rfl (lv_at hl 5 rfl) ?_
          refine lv_if_lt (tgt := 107) hx hb dX10_told__77 (by decide) (fun c68 => ?_) (fun c68 => ?_)
          · refine lv_iconst (v := 1) hx hb dX10_told__107 (by decide) ?_
            refine lv_goto (tgt := 112) hx hb dX10_told__108 (by decide) ?_
            refine call_V (n := 2) (k0 := 0) (As := [.int 0, .int 1]) (rest := []) hX hB (k_X10_isThrown_ κ l (mw κ a r f (va_up q 3 t11) (tb a) w) 0 (a 0) (a 1) ((va_up q 3 t11) 0) ((va_up q 3 t11) 1) ((va_up q 3 t11) 2) ((va_up q 3 t11) 3) 0 1 (mw0x (a := a) (r := r) (f := f) (q := (va_up q 3 t11)) (T := tb a) (w := w) rfl)) ⟨rfl, by decide, by decide, by decide +kernel⟩ wm_5_188 wm_5_190 wp_27 wm_1_6 wm_5_191 ⟨Nat.le_of_ble_eq_true rfl, Nat.le_of_ble_eq_true rfl⟩ ⟨Nat.le_of_ble_eq_true rfl, Nat.le_of_ble_eq_true rfl⟩ (mw0x (a := a) (r := r) (f := f) (q := (va_up q 3 t11)) (T := tb a) (w := w) rfl) rfl rfl rfl hl.1 rfl (Nat.le_of_ble_eq_true rfl) dX10_told__112 (fun o w' H locs hp hB => ?_)
            obtain ⟨x69, t70, rfl, hf71, hw9⟩ := hp
            replace hB : Bd κ A s (mw κ a r f (va_up (va_up q 3 t11) 3 t70) (tb a) w) H locs := by exact Bd_eq (mwQ3x rfl _) (by rw [hw9] at hB; exact hB)
            obtain rfl : x69 = 1 := hf71.trans (by decide)
            refine W.eq (g2 := F0 m 115 ls [.int 1]) rfl ?_
            refine lv_if_eq (tgt := 120) hx hb dX10_told__115 (by decide) (fun c72 => False.elim (by revert c72; decide)) (fun _ => ?_)
            refine lv_iconst (v := 0) hx hb dX10_told__118 (by decide) ?_
            rw [← hQ]
            exact end_i hX hB hA3 rfl rfl ⟨0, (va_up (va_up q 3 t11) 3 t70), rfl, rfl, rfl⟩ (Nat.le_of_ble_eq_true rfl) (Nat.le_of_ble_eq_true rfl) dX10_told__119
          · refine lv_iload_n hx hb dX10_told__80 rfl (lv_at hl 5 rfl) ?_
            refine lv_iconst (v := 4) hx hb dX10_told__81 (by decide) ?_
            refine lv_icmp_gt (tgt := 107) hx hb dX10_told__82 (by decide) (fun c73 => ?_) (fun c73 => ?_)
            · refine lv_iconst (v := 1) hx hb dX10_told__107 (by decide) ?_
              refine lv_goto (tgt := 112) hx hb dX10_told__108 (by decide) ?_
              refine call_V (n := 2) (k0 := 0) (As := [.int 0, .int 1]) (rest := []) hX hB (k_X10_isThrown_ κ l (mw κ a r f (va_up q 3 t11) (tb a) w) 0 (a 0) (a 1) ((va_up q 3 t11) 0) ((va_up q 3 t11) 1) ((va_up q 3 t11) 2) ((va_up q 3 t11) 3) 0 1 (mw0x (a := a) (r := r) (f := f) (q := (va_up q 3 t11)) (T := tb a) (w := w) rfl)) ⟨rfl, by decide, by decide, by decide +kernel⟩ wm_5_188 wm_5_190 wp_27 wm_1_6 wm_5_191 ⟨Nat.le_of_ble_eq_true rfl, Nat.le_of_ble_eq_true rfl⟩ ⟨Nat.le_of_ble_eq_true rfl, Nat.le_of_ble_eq_true rfl⟩ (mw0x (a := a) (r := r) (f := f) (q := (va_up q 3 t11)) (T := tb a) (w := w) rfl) rfl rfl rfl hl.1 rfl (Nat.le_of_ble_eq_true rfl) dX10_told__112 (fun o w' H locs hp hB => ?_)
              obtain ⟨x74, t75, rfl, hf76, hw9⟩ := hp
              replace hB : Bd κ A s (mw κ a r f (va_up (va_up q 3 t11) 3 t75) (tb a) w) H locs := by exact Bd_eq (mwQ3x rfl _) (by rw [hw9] at hB; exact hB)
              obtain rfl : x74 = 1 := hf76.trans (by decide)
              refine W.eq (g2 := F0 m 115 ls [.int 1]) rfl ?_
              refine lv_if_eq (tgt := 120) hx hb dX10_told__115 (by decide) (fun c77 => False.elim (by revert c77; decide)) (fun _ => ?_)
              refine lv_iconst (v := 0) hx hb dX10_told__118 (by decide) ?_
              rw [← hQ]
              exact end_i hX hB hA3 rfl rfl ⟨0, (va_up (va_up q 3 t11) 3 t75), rfl, rfl, rfl⟩ (Nat.le_of_ble_eq_true rfl) (Nat.le_of_ble_eq_true rfl) dX10_told__119
            · refine lv_iload_n hx hb dX10_told__85 rfl (lv_at hl 6 rfl) ?_
              refine lv_if_lt (tgt := 107) hx hb dX10_told__86 (by decide) (fun c78 => ?_) (fun c78 => ?_)
              · refine lv_iconst (v := 1) hx hb dX10_told__107 (by decide) ?_
                refine lv_goto (tgt := 112) hx hb dX10_told__108 (by decide) ?_
                refine call_V (n := 2) (k0 := 0) (As := [.int 0, .int 1]) (rest := []) hX hB (k_X10_isThrown_ κ l (mw κ a r f (va_up q 3 t11) (tb a) w) 0 (a 0) (a 1) ((va_up q 3 t11) 0) ((va_up q 3 t11) 1) ((va_up q 3 t11) 2) ((va_up q 3 t11) 3) 0 1 (mw0x (a := a) (r := r) (f := f) (q := (va_up q 3 t11)) (T := tb a) (w := w) rfl)) ⟨rfl, by decide, by decide, by decide +kernel⟩ wm_5_188 wm_5_190 wp_27 wm_1_6 wm_5_191 ⟨Nat.le_of_ble_eq_true rfl, Nat.le_of_ble_eq_true rfl⟩ ⟨Nat.le_of_ble_eq_true rfl, Nat.le_of_ble_eq_true rfl⟩ (mw0x (a := a) (r := r) (f := f) (q := (va_up q 3 t11)) (T := tb a) (w := w) rfl) rfl rfl rfl hl.1 rfl (Nat.le_of_ble_eq_true rfl) dX10_told__112 (fun o w' H locs hp hB => ?_)
                obtain ⟨x79, t80, rfl, hf81, hw9⟩ := hp
                replace hB : Bd κ A s (mw κ a r f (va_up (va_up q 3 t11) 3 t80) (tb a) w) H locs := by exact Bd_eq (mwQ3x rfl _) (by rw [hw9] at hB; exact hB)
                obtain rfl : x79 = 1 := hf81.trans (by decide)
                refine W.eq (g2 := F0 m 115 ls [.int 1]) rfl ?_
                refine lv_if_eq (tgt := 120) hx hb dX10_told__115 (by decide) (fun c82 => False.elim (by revert c82; decide)) (fun _ => ?_)
                refine lv_iconst (v := 0) hx hb dX10_told__118 (by decide) ?_
                rw [← hQ]
                exact end_i hX hB hA3 rfl rfl ⟨0, (va_up (va_up q 3 t11) 3 t80), rfl, rfl, rfl⟩ (Nat.le_of_ble_eq_true rfl) (Nat.le_of_ble_eq_true rfl) dX10_told__119
              · refine lv_iload_n hx hb dX10_told__89 rfl (lv_at hl 6 rfl) ?_
                refine lv_iload hx hb dX10_told__90 (lv_at hl 1 rfl) ?_
                refine lv_icmp_ge (tgt := 107) hx hb dX10_told__92 (by decide) (fun c84 => ?_) (fun c84 => ?_)
                · refine lv_iconst (v := 1) hx hb dX10_told__107 (by decide) ?_
                  refine lv_goto (tgt := 112) hx hb dX10_told__108 (by decide) ?_
                  refine call_V (n := 2) (k0 := 0) (As := [.int 0, .int 1]) (rest := []) hX hB (k_X10_isThrown_ κ l (mw κ a r f (va_up q 3 t11) (tb a) w) 0 (a 0) (a 1) ((va_up q 3 t11) 0) ((va_up q 3 t11) 1) ((va_up q 3 t11) 2) ((va_up q 3 t11) 3) 0 1 (mw0x (a := a) (r := r) (f := f) (q := (va_up q 3 t11)) (T := tb a) (w := w) rfl)) ⟨rfl, by decide, by decide, by decide +kernel⟩ wm_5_188 wm_5_190 wp_27 wm_1_6 wm_5_191 ⟨Nat.le_of_ble_eq_true rfl, Nat.le_of_ble_eq_true rfl⟩ ⟨Nat.le_of_ble_eq_true rfl, Nat.le_of_ble_eq_true rfl⟩ (mw0x (a := a) (r := r) (f := f) (q := (va_up q 3 t11)) (T := tb a) (w := w) rfl) rfl rfl rfl hl.1 rfl (Nat.le_of_ble_eq_true rfl) dX10_told__112 (fun o w' H locs hp hB => ?_)
                  obtain ⟨x85, t86, rfl, hf87, hw9⟩ := hp
                  replace hB : Bd κ A s (mw κ a r f (va_up (va_up q 3 t11) 3 t86) (tb a) w) H locs := by exact Bd_eq (mwQ3x rfl _) (by rw [hw9] at hB; exact hB)
                  obtain rfl : x85 = 1 := hf87.trans (by decide)
                  refine W.eq (g2 := F0 m 115 ls [.int 1]) rfl ?_
                  refine lv_if_eq (tgt := 120) hx hb dX10_told__115 (by decide) (fun c88 => False.elim (by revert c88; decide)) (fun _ => ?_)
                  refine lv_iconst (v := 0) hx hb dX10_told__118 (by decide) ?_
                  rw [← hQ]
                  exact end_i hX hB hA3 rfl rfl ⟨0, (va_up (va_up q 3 t11) 3 t86), rfl, rfl, rfl⟩ (Nat.le_of_ble_eq_true rfl) (Nat.le_of_ble_eq_true rfl) dX10_told__119
                · have hq83 := nlt_of (x := u) (n := r (2 * y.toNatClampNeg)) c78 (by omega) c84
                  refine lv_iload hx hb dX10_told__95 (lv_at hl 7 rfl) ?_
                  refine lv_if_lt (tgt := 107) hx hb dX10_told__97 (by decide) (fun c89 => ?_) (fun c89 => ?_)
                  · refine lv_iconst (v := 1) hx hb dX10_told__107 (by decide) ?_
                    refine lv_goto (tgt := 112) hx hb dX10_told__108 (by decide) ?_
                    refine call_V (n := 2) (k0 := 0) (As := [.int 0, .int 1]) (rest := []) hX hB (k_X10_isThrown_ κ l (mw κ a r f (va_up q 3 t11) (tb a) w) 0 (a 0) (a 1) ((va_up q 3 t11) 0) ((va_up q 3 t11) 1) ((va_up q 3 t11) 2) ((va_up q 3 t11) 3) 0 1 (mw0x (a := a) (r := r) (f := f) (q := (va_up q 3 t11)) (T := tb a) (w := w) rfl)) ⟨rfl, by decide, by decide, by decide +kernel⟩ wm_5_188 wm_5_190 wp_27 wm_1_6 wm_5_191 ⟨Nat.le_of_ble_eq_true rfl, Nat.le_of_ble_eq_true rfl⟩ ⟨Nat.le_of_ble_eq_true rfl, Nat.le_of_ble_eq_true rfl⟩ (mw0x (a := a) (r := r) (f := f) (q := (va_up q 3 t11)) (T := tb a) (w := w) rfl) rfl rfl rfl hl.1 rfl (Nat.le_of_ble_eq_true rfl) dX10_told__112 (fun o w' H locs hp hB => ?_)
                    obtain ⟨x90, t91, rfl, hf92, hw9⟩ := hp
                    replace hB : Bd κ A s (mw κ a r f (va_up (va_up q 3 t11) 3 t91) (tb a) w) H locs := by exact Bd_eq (mwQ3x rfl _) (by rw [hw9] at hB; exact hB)
                    obtain rfl : x90 = 1 := hf92.trans (by decide)
                    refine W.eq (g2 := F0 m 115 ls [.int 1]) rfl ?_
                    refine lv_if_eq (tgt := 120) hx hb dX10_told__115 (by decide) (fun c93 => False.elim (by revert c93; decide)) (fun _ => ?_)
                    refine lv_iconst (v := 0) hx hb dX10_told__118 (by decide) ?_
                    rw [← hQ]
                    exact end_i hX hB hA3 rfl rfl ⟨0, (va_up (va_up q 3 t11) 3 t91), rfl, rfl, rfl⟩ (Nat.le_of_ble_eq_true rfl) (Nat.le_of_ble_eq_true rfl) dX10_told__119
                  · refine lv_iload hx hb dX10_told__100 (lv_at hl 7 rfl) ?_
                    refine lv_iload hx hb dX10_told__102 (lv_at hl 0 rfl) ?_
                    refine lv_icmp_lt (tgt := 111) hx hb dX10_told__104 (by decide) (fun c95 => ?_) (fun c95 => ?_)
                    · have hq94 := nlt_of (x := v) (n := r (2 * y.toNatClampNeg + 1)) c89 (by omega) (Int32.not_le.mpr c95)
                      refine lv_iconst (v := 0) hx hb dX10_told__111 (by decide) ?_
                      refine call_V (n := 2) (k0 := 0) (As := [.int 0, .int 0]) (rest := []) hX hB (k_X10_isThrown_ κ l (mw κ a r f (va_up q 3 t11) (tb a) w) 0 (a 0) (a 1) ((va_up q 3 t11) 0) ((va_up q 3 t11) 1) ((va_up q 3 t11) 2) ((va_up q 3 t11) 3) 0 0 (mw0x (a := a) (r := r) (f := f) (q := (va_up q 3 t11)) (T := tb a) (w := w) rfl)) ⟨rfl, by decide, by decide, by decide +kernel⟩ wm_5_188 wm_5_190 wp_27 wm_1_6 wm_5_191 ⟨Nat.le_of_ble_eq_true rfl, Nat.le_of_ble_eq_true rfl⟩ ⟨Nat.le_of_ble_eq_true rfl, Nat.le_of_ble_eq_true rfl⟩ (mw0x (a := a) (r := r) (f := f) (q := (va_up q 3 t11)) (T := tb a) (w := w) rfl) rfl rfl rfl hl.1 rfl (Nat.le_of_ble_eq_true rfl) dX10_told__112 (fun o w' H locs hp hB => ?_)
                      obtain ⟨x96, t97, rfl, hf98, hw9⟩ := hp
                      replace hB : Bd κ A s (mw κ a r f (va_up (va_up q 3 t11) 3 t97) (tb a) w) H locs := by exact Bd_eq (mwQ3x rfl _) (by rw [hw9] at hB; exact hB)
                      obtain rfl : x96 = 0 := hf98.trans (by decide)
                      refine W.eq (g2 := F0 m 115 ls [.int 0]) rfl ?_
                      refine lv_if_eq (tgt := 120) hx hb dX10_told__115 (by decide) (fun _ => ?_) (fun c99 => False.elim (by revert c99; decide))
                      refine lv_aload hx hb dX10_told__120 (lv_at hl 2 rfl) ?_
                      refine lv_iload_n hx hb dX10_told__122 rfl (lv_at hl 5 rfl) ?_
                      refine call_S (n := 2) (As := [.ref (a (2 + 2 * y.toNatClampNeg)), .int z]) (rest := []) hX hB (k_X10_toldOf κ l (mw κ a r f (va_up (va_up q 3 t11) 3 t97) (tb a) w) (2 + 2 * y.toNatClampNeg) (3 + 2 * y.toNatClampNeg) (a (2 + 2 * y.toNatClampNeg)) (a (3 + 2 * y.toNatClampNeg)) (r (2 * y.toNatClampNeg)) (r (2 * y.toNatClampNeg + 1)) (f y.toNatClampNeg) z (mwG (i := y.toNatClampNeg) (a := a) (r := r) (f := f) (q := (va_up (va_up q 3 t11) 3 t97)) (T := tb a) (w := w) (by omega)) (mwA (i := y.toNatClampNeg) (a := a) (r := r) (f := f) (q := (va_up (va_up q 3 t11) 3 t97)) (T := tb a) (w := w) (by omega)) (mok_shp (i := y.toNatClampNeg) hm (by omega)) (by omega) (fun k hk => sm_ng ((hm _ (by omega)).2 k hk)) ⟨by assumption, by first | assumption | exact Int32.not_lt.mp (by assumption)⟩) ⟨by decide, by decide, by decide +kernel⟩ wm_6_120 wm_6_121 wm_1_6 wm_6_122 ⟨Nat.le_of_ble_eq_true rfl, Nat.le_of_ble_eq_true rfl⟩ ⟨Nat.le_of_ble_eq_true rfl, Nat.le_of_ble_eq_true rfl⟩ rfl hl.1 rfl (Nat.le_of_ble_eq_true rfl) dX10_told__123 (fun o w' H locs hp hB => ?_)
                      rcases hp with ⟨rfl, hw9⟩ | ⟨q100, q101, R102, C103, F104, rfl, ⟨⟨hd105a, hd105b, hd105c, hd105d⟩, hd105t⟩, hw9⟩
                      · replace hB : Bd κ A s (mw κ a r f (va_up (va_up q 3 t11) 3 t97) (tb a) w) H locs := by rw [hw9] at hB; exact hB
                        refine W.eq (g2 := F0 m 126 ls [.null]) rfl ?_
                        refine lv_astoreN (lv' := [(8, .null), (7, .int (nI (r (2 * y.toNatClampNeg + 1)))), (6, .int (nI (r (2 * y.toNatClampNeg)))), (5, .ref (a (2 + 2 * y.toNatClampNeg))), (0, .ref (a 0)), (1, .int y), (2, .int z), (3, .int u), (4, .int v)]) hx hb dX10_told__126 hl (by decide) rfl (fun ls hl => ?_)
                        refine lv_aload_n hx hb dX10_told__128 rfl (lv_at hl 4 rfl) ?_
                        refine lv_iconst (v := 0) hx hb dX10_told__129 (by decide) ?_
                        refine lv_iconst (v := 0) hx hb dX10_told__130 (by decide) ?_
                        refine lv_aloadN hx hb dX10_told__131 (lv_at hl 0 rfl) ?_
                        refine lv_ifnonnullN hx hb dX10_told__133 ?_
                        refine lv_iconst (v := 1) hx hb dX10_told__136 (by decide) ?_
                        refine lv_goto (tgt := 141) hx hb dX10_told__137 (by decide) ?_
                        refine call_V (n := 3) (k0 := 0) (As := [.int 0, .int 0, .int 1]) (rest := []) hX hB (k_X10_isThrown κ l (mw κ a r f (va_up (va_up q 3 t11) 3 t97) (tb a) w) 0 (a 0) (a 1) ((va_up (va_up q 3 t11) 3 t97) 0) ((va_up (va_up q 3 t11) 3 t97) 1) ((va_up (va_up q 3 t11) 3 t97) 2) ((va_up (va_up q 3 t11) 3 t97) 3) 0 0 1 (mw0x (a := a) (r := r) (f := f) (q := (va_up (va_up q 3 t11) 3 t97)) (T := tb a) (w := w) rfl)) ⟨rfl, by decide, by decide, by decide +kernel⟩ wm_5_192 wm_5_194 wp_28 wm_1_6 wm_5_195 ⟨Nat.le_of_ble_eq_true rfl, Nat.le_of_ble_eq_true rfl⟩ ⟨Nat.le_of_ble_eq_true rfl, Nat.le_of_ble_eq_true rfl⟩ (mw0x (a := a) (r := r) (f := f) (q := (va_up (va_up q 3 t11) 3 t97)) (T := tb a) (w := w) rfl) rfl rfl rfl hl.1 rfl (Nat.le_of_ble_eq_true rfl) dX10_told__141 (fun o w' H locs hp hB => ?_)
                        obtain ⟨x106, t107, rfl, hf108, hw9⟩ := hp
                        replace hB : Bd κ A s (mw κ a r f (va_up (va_up (va_up q 3 t11) 3 t97) 3 t107) (tb a) w) H locs := by exact Bd_eq (mwQ3x rfl _) (by rw [hw9] at hB; exact hB)
                        obtain rfl : x106 = 1 := hf108.trans (by decide)
                        refine W.eq (g2 := F0 m 144 ls [.int 1]) rfl ?_
                        refine lv_if_eq (tgt := 151) hx hb dX10_told__144 (by decide) (fun c109 => False.elim (by revert c109; decide)) (fun _ => ?_)
                        refine lv_iconst (v := 0) hx hb dX10_told__147 (by decide) ?_
                        refine lv_goto (tgt := 160) hx hb dX10_told__148 (by decide) ?_
                        rw [← hQ]
                        exact end_i hX hB hA3 rfl rfl ⟨0, (va_up (va_up (va_up q 3 t11) 3 t97) 3 t107), rfl, rfl, rfl⟩ (Nat.le_of_ble_eq_true rfl) (Nat.le_of_ble_eq_true rfl) dX10_told__160
                      · replace hB : Bd κ A s (lA κ q101 (R102 * 5) F104 :: gO q100 R102 C103 q101 :: mw κ a r f (va_up (va_up q 3 t11) 3 t97) (tb a) w) H locs := by rw [hw9] at hB; exact hB
                        refine W.eq (g2 := F0 m 126 ls [.ref q100]) rfl ?_
                        refine lv_astore (lv' := [(8, .ref q100), (7, .int (nI (r (2 * y.toNatClampNeg + 1)))), (6, .int (nI (r (2 * y.toNatClampNeg)))), (5, .ref (a (2 + 2 * y.toNatClampNeg))), (0, .ref (a 0)), (1, .int y), (2, .int z), (3, .int u), (4, .int v)]) hx hb dX10_told__126 hl (by decide) rfl (fun ls hl => ?_)
                        refine lv_aload_n hx hb dX10_told__128 rfl (lv_at hl 4 rfl) ?_
                        refine lv_iconst (v := 0) hx hb dX10_told__129 (by decide) ?_
                        refine lv_iconst (v := 0) hx hb dX10_told__130 (by decide) ?_
                        refine lv_aload hx hb dX10_told__131 (lv_at hl 0 rfl) ?_
                        refine lv_ifnonnull (tgt := 140) hx hb dX10_told__133 (by decide) ?_
                        refine lv_iconst (v := 0) hx hb dX10_told__140 (by decide) ?_
                        refine call_V (n := 3) (k0 := 2) (As := [.int 0, .int 0, .int 0]) (rest := []) hX hB (k_X10_isThrown κ l (lA κ q101 (R102 * 5) F104 :: gO q100 R102 C103 q101 :: mw κ a r f (va_up (va_up q 3 t11) 3 t97) (tb a) w) 2 (a 0) (a 1) ((va_up (va_up q 3 t11) 3 t97) 0) ((va_up (va_up q 3 t11) 3 t97) 1) ((va_up (va_up q 3 t11) 3 t97) 2) ((va_up (va_up q 3 t11) 3 t97) 3) 0 0 0 (mw0x (a := a) (r := r) (f := f) (q := (va_up (va_up q 3 t11) 3 t97)) (T := tb a) (w := w) rfl)) ⟨rfl, by decide, by decide, by decide +kernel⟩ wm_5_192 wm_5_194 wp_28 wm_1_6 wm_5_195 ⟨Nat.le_of_ble_eq_true rfl, Nat.le_of_ble_eq_true rfl⟩ ⟨Nat.le_of_ble_eq_true rfl, Nat.le_of_ble_eq_true rfl⟩ (mw0x (a := a) (r := r) (f := f) (q := (va_up (va_up q 3 t11) 3 t97)) (T := tb a) (w := w) rfl) rfl rfl rfl hl.1 rfl (Nat.le_of_ble_eq_true rfl) dX10_told__141 (fun o w' H locs hp hB => ?_)
                        obtain ⟨x110, t111, rfl, hf112, hw9⟩ := hp
                        replace hB : Bd κ A s (lA κ q101 (R102 * 5) F104 :: gO q100 R102 C103 q101 :: mw κ a r f (va_up (va_up (va_up q 3 t11) 3 t97) 3 t111) (tb a) w) H locs := by exact Bd_eq (congrArg (List.cons _) (congrArg (List.cons _) (mwQ3x rfl _))) (by rw [hw9] at hB; exact hB)
                        obtain rfl : x110 = 0 := hf112.trans (by decide)
                        refine W.eq (g2 := F0 m 144 ls [.int 0]) rfl ?_
                        refine lv_if_eq (tgt := 151) hx hb dX10_told__144 (by decide) (fun _ => ?_) (fun c113 => False.elim (by revert c113; decide))
                        have hT1 : R102 = r (2 * y.toNatClampNeg) := by first | exact hd105t.1 (by assumption) | exact hd105t.2.1 (by assumption)
                        have hT2 : C103 = r (2 * y.toNatClampNeg + 1) := by first | exact hd105t.2.2.1 (by assumption) | exact hd105t.2.2.2.1 (by assumption) | exact hd105t.2.2.2.2 (by assumption) (by assumption)
                        refine lv_aload hx hb dX10_told__151 (lv_at hl 0 rfl) ?_
                        refine lv_iload_n hx hb dX10_told__153 rfl (lv_at hl 7 rfl) ?_
                        refine lv_iload hx hb dX10_told__154 (lv_at hl 8 rfl) ?_
                        refine call_V (n := 2) (k0 := 1) (As := [.int u, .int v]) (rest := []) hX hB (k_X7_at κ l (lA κ q101 (R102 * 5) F104 :: gO q100 R102 C103 q101 :: mw κ a r f (va_up (va_up (va_up q 3 t11) 3 t97) 3 t111) (tb a) w) 1 0 q100 q101 R102 C103 F104 u ((u).toNatClampNeg) v ((v).toNatClampNeg) rfl rfl ⟨by omega, by omega, by omega, by omega⟩ (nI_rep (Int32.not_lt.mp (by assumption))) (nI_rep (Int32.not_lt.mp (by assumption))) (by omega)) ⟨rfl, by decide, by decide, by decide +kernel⟩ wm_5_233 wm_5_234 wm_5_235 wm_1_7 wm_5_236 ⟨Nat.le_of_ble_eq_true rfl, Nat.le_of_ble_eq_true rfl⟩ ⟨Nat.le_of_ble_eq_true rfl, Nat.le_of_ble_eq_true rfl⟩ rfl rfl rfl rfl hl.1 rfl (Nat.le_of_ble_eq_true rfl) dX10_told__156 (fun o w' H locs hp hB => ?_)
                        obtain ⟨rfl, hw9⟩ := hp
                        replace hB : Bd κ A s (lA κ q101 (R102 * 5) F104 :: gO q100 R102 C103 q101 :: mw κ a r f (va_up (va_up (va_up q 3 t11) 3 t97) 3 t111) (tb a) w) H locs := by rw [hw9] at hB; exact hB
                        refine W.eq (g2 := F0 m 159 ls [.long (F104 (((u).toNatClampNeg) * 5 + ((v).toNatClampNeg)))]) rfl ?_
                        refine lv_l2i hx hb dX10_told__159 rfl ?_
                        replace hB : Bd κ A s (lA κ q101 (R102 * 5) F104 :: mw κ a r f (va_up (va_up (va_up q 3 t11) 3 t97) 3 t111) (tb a) w) H locs := Bd_del 1 hB
                        replace hB : Bd κ A s (mw κ a r f (va_up (va_up (va_up q 3 t11) 3 t97) 3 t111) (tb a) w) H locs := Bd_del 0 hB
                        rw [← hQ]
                        exact end_i hX hB hA3 rfl rfl ⟨(((F104 (((u).toNatClampNeg) * 5 + ((v).toNatClampNeg)))).toInt32), (va_up (va_up (va_up q 3 t11) 3 t97) 3 t111), rfl, rfl, rfl⟩ (Nat.le_of_ble_eq_true rfl) (Nat.le_of_ble_eq_true rfl) dX10_told__160
                    · refine lv_iconst (v := 1) hx hb dX10_told__107 (by decide) ?_
                      refine lv_goto (tgt := 112) hx hb dX10_told__108 (by decide) ?_
                      refine call_V (n := 2) (k0 := 0) (As := [.int 0, .int 1]) (rest := []) hX hB (k_X10_isThrown_ κ l (mw κ a r f (va_up q 3 t11) (tb a) w) 0 (a 0) (a 1) ((va_up q 3 t11) 0) ((va_up q 3 t11) 1) ((va_up q 3 t11) 2) ((va_up q 3 t11) 3) 0 1 (mw0x (a := a) (r := r) (f := f) (q := (va_up q 3 t11)) (T := tb a) (w := w) rfl)) ⟨rfl, by decide, by decide, by decide +kernel⟩ wm_5_188 wm_5_190 wp_27 wm_1_6 wm_5_191 ⟨Nat.le_of_ble_eq_true rfl, Nat.le_of_ble_eq_true rfl⟩ ⟨Nat.le_of_ble_eq_true rfl, Nat.le_of_ble_eq_true rfl⟩ (mw0x (a := a) (r := r) (f := f) (q := (va_up q 3 t11)) (T := tb a) (w := w) rfl) rfl rfl rfl hl.1 rfl (Nat.le_of_ble_eq_true rfl) dX10_told__112 (fun o w' H locs hp hB => ?_)
                      obtain ⟨x114, t115, rfl, hf116, hw9⟩ := hp
                      replace hB : Bd κ A s (mw κ a r f (va_up (va_up q 3 t11) 3 t115) (tb a) w) H locs := by exact Bd_eq (mwQ3x rfl _) (by rw [hw9] at hB; exact hB)
                      obtain rfl : x114 = 1 := hf116.trans (by decide)
                      refine W.eq (g2 := F0 m 115 ls [.int 1]) rfl ?_
                      refine lv_if_eq (tgt := 120) hx hb dX10_told__115 (by decide) (fun c117 => False.elim (by revert c117; decide)) (fun _ => ?_)
                      refine lv_iconst (v := 0) hx hb dX10_told__118 (by decide) ?_
                      rw [← hQ]
                      exact end_i hX hB hA3 rfl rfl ⟨0, (va_up (va_up q 3 t11) 3 t115), rfl, rfl, rfl⟩ (Nat.le_of_ble_eq_true rfl) (Nat.le_of_ble_eq_true rfl) dX10_told__119
        · refine lv_aload hx hb dX10_told__59 (lv_at hl 1 rfl) ?_
          refine gf (k0 := 2 + 2 * y.toNatClampNeg) hX hB (mwG (i := y.toNatClampNeg) (a := a) (r := r) (f := f) (q := (va_up q 3 t11)) (T := tb a) (w := w) (by omega)) rfl in7 0 (by decide) wm_5_148 rfl rfl dX10_told__61 ?_
          refine lv_goto (tgt := 72) hx hb dX10_told__64 (by decide) ?_
          refine lv_istore (lv' := [(7, .int (nI (r (2 * y.toNatClampNeg)))), (6, .int (nI (r (2 * y.toNatClampNeg)))), (5, .ref (a (2 + 2 * y.toNatClampNeg))), (0, .ref (a 0)), (1, .int y), (2, .int z), (3, .int u), (4, .int v)]) hx hb dX10_told__72 hl (by decide) rfl (fun ls hl => ?_)
          refine lv_aload_n hx hb dX10_told__74 rfl (lv_at hl 3 rfl) ?_
          refine lv_iconst (v := 0) hx hb dX10_told__75 (by decide) ?_
          refine lv_iload_n hx hb dX10_told__76 rfl (lv_at hl 5 rfl) ?_
          refine lv_if_lt (tgt := 107) hx hb dX10_told__77 (by decide) (fun c118 => ?_) (fun c118 => ?_)
          · refine lv_iconst (v := 1) hx hb dX10_told__107 (by decide) ?_
            refine lv_goto (tgt := 112) hx hb dX10_told__108 (by decide) ?_
            refine call_V (n := 2) (k0 := 0) (As := [.int 0, .int 1]) (rest := []) hX hB (k_X10_isThrown_ κ l (mw κ a r f (va_up q 3 t11) (tb a) w) 0 (a 0) (a 1) ((va_up q 3 t11) 0) ((va_up q 3 t11) 1) ((va_up q 3 t11) 2) ((va_up q 3 t11) 3) 0 1 (mw0x (a := a) (r := r) (f := f) (q := (va_up q 3 t11)) (T := tb a) (w := w) rfl)) ⟨rfl, by decide, by decide, by decide +kernel⟩ wm_5_188 wm_5_190 wp_27 wm_1_6 wm_5_191 ⟨Nat.le_of_ble_eq_true rfl, Nat.le_of_ble_eq_true rfl⟩ ⟨Nat.le_of_ble_eq_true rfl, Nat.le_of_ble_eq_true rfl⟩ (mw0x (a := a) (r := r) (f := f) (q := (va_up q 3 t11)) (T := tb a) (w := w) rfl) rfl rfl rfl hl.1 rfl (Nat.le_of_ble_eq_true rfl) dX10_told__112 (fun o w' H locs hp hB => ?_)
            obtain ⟨x119, t120, rfl, hf121, hw9⟩ := hp
            replace hB : Bd κ A s (mw κ a r f (va_up (va_up q 3 t11) 3 t120) (tb a) w) H locs := by exact Bd_eq (mwQ3x rfl _) (by rw [hw9] at hB; exact hB)
            obtain rfl : x119 = 1 := hf121.trans (by decide)
            refine W.eq (g2 := F0 m 115 ls [.int 1]) rfl ?_
            refine lv_if_eq (tgt := 120) hx hb dX10_told__115 (by decide) (fun c122 => False.elim (by revert c122; decide)) (fun _ => ?_)
            refine lv_iconst (v := 0) hx hb dX10_told__118 (by decide) ?_
            rw [← hQ]
            exact end_i hX hB hA3 rfl rfl ⟨0, (va_up (va_up q 3 t11) 3 t120), rfl, rfl, rfl⟩ (Nat.le_of_ble_eq_true rfl) (Nat.le_of_ble_eq_true rfl) dX10_told__119
          · refine lv_iload_n hx hb dX10_told__80 rfl (lv_at hl 5 rfl) ?_
            refine lv_iconst (v := 4) hx hb dX10_told__81 (by decide) ?_
            refine lv_icmp_gt (tgt := 107) hx hb dX10_told__82 (by decide) (fun c123 => ?_) (fun c123 => ?_)
            · refine lv_iconst (v := 1) hx hb dX10_told__107 (by decide) ?_
              refine lv_goto (tgt := 112) hx hb dX10_told__108 (by decide) ?_
              refine call_V (n := 2) (k0 := 0) (As := [.int 0, .int 1]) (rest := []) hX hB (k_X10_isThrown_ κ l (mw κ a r f (va_up q 3 t11) (tb a) w) 0 (a 0) (a 1) ((va_up q 3 t11) 0) ((va_up q 3 t11) 1) ((va_up q 3 t11) 2) ((va_up q 3 t11) 3) 0 1 (mw0x (a := a) (r := r) (f := f) (q := (va_up q 3 t11)) (T := tb a) (w := w) rfl)) ⟨rfl, by decide, by decide, by decide +kernel⟩ wm_5_188 wm_5_190 wp_27 wm_1_6 wm_5_191 ⟨Nat.le_of_ble_eq_true rfl, Nat.le_of_ble_eq_true rfl⟩ ⟨Nat.le_of_ble_eq_true rfl, Nat.le_of_ble_eq_true rfl⟩ (mw0x (a := a) (r := r) (f := f) (q := (va_up q 3 t11)) (T := tb a) (w := w) rfl) rfl rfl rfl hl.1 rfl (Nat.le_of_ble_eq_true rfl) dX10_told__112 (fun o w' H locs hp hB => ?_)
              obtain ⟨x124, t125, rfl, hf126, hw9⟩ := hp
              replace hB : Bd κ A s (mw κ a r f (va_up (va_up q 3 t11) 3 t125) (tb a) w) H locs := by exact Bd_eq (mwQ3x rfl _) (by rw [hw9] at hB; exact hB)
              obtain rfl : x124 = 1 := hf126.trans (by decide)
              refine W.eq (g2 := F0 m 115 ls [.int 1]) rfl ?_
              refine lv_if_eq (tgt := 120) hx hb dX10_told__115 (by decide) (fun c127 => False.elim (by revert c127; decide)) (fun _ => ?_)
              refine lv_iconst (v := 0) hx hb dX10_told__118 (by decide) ?_
              rw [← hQ]
              exact end_i hX hB hA3 rfl rfl ⟨0, (va_up (va_up q 3 t11) 3 t125), rfl, rfl, rfl⟩ (Nat.le_of_ble_eq_true rfl) (Nat.le_of_ble_eq_true rfl) dX10_told__119
            · refine lv_iload_n hx hb dX10_told__85 rfl (lv_at hl 6 rfl) ?_
              refine lv_if_lt (tgt := 107) hx hb dX10_told__86 (by decide) (fun c128 => ?_) (fun c128 => ?_)
              · refine lv_iconst (v := 1) hx hb dX10_told__107 (by decide) ?_
                refine lv_goto (tgt := 112) hx hb dX10_told__108 (by decide) ?_
                refine call_V (n := 2) (k0 := 0) (As := [.int 0, .int 1]) (rest := []) hX hB (k_X10_isThrown_ κ l (mw κ a r f (va_up q 3 t11) (tb a) w) 0 (a 0) (a 1) ((va_up q 3 t11) 0) ((va_up q 3 t11) 1) ((va_up q 3 t11) 2) ((va_up q 3 t11) 3) 0 1 (mw0x (a := a) (r := r) (f := f) (q := (va_up q 3 t11)) (T := tb a) (w := w) rfl)) ⟨rfl, by decide, by decide, by decide +kernel⟩ wm_5_188 wm_5_190 wp_27 wm_1_6 wm_5_191 ⟨Nat.le_of_ble_eq_true rfl, Nat.le_of_ble_eq_true rfl⟩ ⟨Nat.le_of_ble_eq_true rfl, Nat.le_of_ble_eq_true rfl⟩ (mw0x (a := a) (r := r) (f := f) (q := (va_up q 3 t11)) (T := tb a) (w := w) rfl) rfl rfl rfl hl.1 rfl (Nat.le_of_ble_eq_true rfl) dX10_told__112 (fun o w' H locs hp hB => ?_)
                obtain ⟨x129, t130, rfl, hf131, hw9⟩ := hp
                replace hB : Bd κ A s (mw κ a r f (va_up (va_up q 3 t11) 3 t130) (tb a) w) H locs := by exact Bd_eq (mwQ3x rfl _) (by rw [hw9] at hB; exact hB)
                obtain rfl : x129 = 1 := hf131.trans (by decide)
                refine W.eq (g2 := F0 m 115 ls [.int 1]) rfl ?_
                refine lv_if_eq (tgt := 120) hx hb dX10_told__115 (by decide) (fun c132 => False.elim (by revert c132; decide)) (fun _ => ?_)
                refine lv_iconst (v := 0) hx hb dX10_told__118 (by decide) ?_
                rw [← hQ]
                exact end_i hX hB hA3 rfl rfl ⟨0, (va_up (va_up q 3 t11) 3 t130), rfl, rfl, rfl⟩ (Nat.le_of_ble_eq_true rfl) (Nat.le_of_ble_eq_true rfl) dX10_told__119
              · refine lv_iload_n hx hb dX10_told__89 rfl (lv_at hl 6 rfl) ?_
                refine lv_iload hx hb dX10_told__90 (lv_at hl 1 rfl) ?_
                refine lv_icmp_ge (tgt := 107) hx hb dX10_told__92 (by decide) (fun c134 => ?_) (fun c134 => ?_)
                · refine lv_iconst (v := 1) hx hb dX10_told__107 (by decide) ?_
                  refine lv_goto (tgt := 112) hx hb dX10_told__108 (by decide) ?_
                  refine call_V (n := 2) (k0 := 0) (As := [.int 0, .int 1]) (rest := []) hX hB (k_X10_isThrown_ κ l (mw κ a r f (va_up q 3 t11) (tb a) w) 0 (a 0) (a 1) ((va_up q 3 t11) 0) ((va_up q 3 t11) 1) ((va_up q 3 t11) 2) ((va_up q 3 t11) 3) 0 1 (mw0x (a := a) (r := r) (f := f) (q := (va_up q 3 t11)) (T := tb a) (w := w) rfl)) ⟨rfl, by decide, by decide, by decide +kernel⟩ wm_5_188 wm_5_190 wp_27 wm_1_6 wm_5_191 ⟨Nat.le_of_ble_eq_true rfl, Nat.le_of_ble_eq_true rfl⟩ ⟨Nat.le_of_ble_eq_true rfl, Nat.le_of_ble_eq_true rfl⟩ (mw0x (a := a) (r := r) (f := f) (q := (va_up q 3 t11)) (T := tb a) (w := w) rfl) rfl rfl rfl hl.1 rfl (Nat.le_of_ble_eq_true rfl) dX10_told__112 (fun o w' H locs hp hB => ?_)
                  obtain ⟨x135, t136, rfl, hf137, hw9⟩ := hp
                  replace hB : Bd κ A s (mw κ a r f (va_up (va_up q 3 t11) 3 t136) (tb a) w) H locs := by exact Bd_eq (mwQ3x rfl _) (by rw [hw9] at hB; exact hB)
                  obtain rfl : x135 = 1 := hf137.trans (by decide)
                  refine W.eq (g2 := F0 m 115 ls [.int 1]) rfl ?_
                  refine lv_if_eq (tgt := 120) hx hb dX10_told__115 (by decide) (fun c138 => False.elim (by revert c138; decide)) (fun _ => ?_)
                  refine lv_iconst (v := 0) hx hb dX10_told__118 (by decide) ?_
                  rw [← hQ]
                  exact end_i hX hB hA3 rfl rfl ⟨0, (va_up (va_up q 3 t11) 3 t136), rfl, rfl, rfl⟩ (Nat.le_of_ble_eq_true rfl) (Nat.le_of_ble_eq_true rfl) dX10_told__119
                · have hq133 := nlt_of (x := u) (n := r (2 * y.toNatClampNeg)) c128 (by omega) c134
                  refine lv_iload hx hb dX10_told__95 (lv_at hl 7 rfl) ?_
                  refine lv_if_lt (tgt := 107) hx hb dX10_told__97 (by decide) (fun c139 => ?_) (fun c139 => ?_)
                  · refine lv_iconst (v := 1) hx hb dX10_told__107 (by decide) ?_
                    refine lv_goto (tgt := 112) hx hb dX10_told__108 (by decide) ?_
                    refine call_V (n := 2) (k0 := 0) (As := [.int 0, .int 1]) (rest := []) hX hB (k_X10_isThrown_ κ l (mw κ a r f (va_up q 3 t11) (tb a) w) 0 (a 0) (a 1) ((va_up q 3 t11) 0) ((va_up q 3 t11) 1) ((va_up q 3 t11) 2) ((va_up q 3 t11) 3) 0 1 (mw0x (a := a) (r := r) (f := f) (q := (va_up q 3 t11)) (T := tb a) (w := w) rfl)) ⟨rfl, by decide, by decide, by decide +kernel⟩ wm_5_188 wm_5_190 wp_27 wm_1_6 wm_5_191 ⟨Nat.le_of_ble_eq_true rfl, Nat.le_of_ble_eq_true rfl⟩ ⟨Nat.le_of_ble_eq_true rfl, Nat.le_of_ble_eq_true rfl⟩ (mw0x (a := a) (r := r) (f := f) (q := (va_up q 3 t11)) (T := tb a) (w := w) rfl) rfl rfl rfl hl.1 rfl (Nat.le_of_ble_eq_true rfl) dX10_told__112 (fun o w' H locs hp hB => ?_)
                    obtain ⟨x140, t141, rfl, hf142, hw9⟩ := hp
                    replace hB : Bd κ A s (mw κ a r f (va_up (va_up q 3 t11) 3 t141) (tb a) w) H locs := by exact Bd_eq (mwQ3x rfl _) (by rw [hw9] at hB; exact hB)
                    obtain rfl : x140 = 1 := hf142.trans (by decide)
                    refine W.eq (g2 := F0 m 115 ls [.int 1]) rfl ?_
                    refine lv_if_eq (tgt := 120) hx hb dX10_told__115 (by decide) (fun c143 => False.elim (by revert c143; decide)) (fun _ => ?_)
                    refine lv_iconst (v := 0) hx hb dX10_told__118 (by decide) ?_
                    rw [← hQ]
                    exact end_i hX hB hA3 rfl rfl ⟨0, (va_up (va_up q 3 t11) 3 t141), rfl, rfl, rfl⟩ (Nat.le_of_ble_eq_true rfl) (Nat.le_of_ble_eq_true rfl) dX10_told__119
                  · refine lv_iload hx hb dX10_told__100 (lv_at hl 7 rfl) ?_
                    refine lv_iload hx hb dX10_told__102 (lv_at hl 0 rfl) ?_
                    refine lv_icmp_lt (tgt := 111) hx hb dX10_told__104 (by decide) (fun c145 => ?_) (fun c145 => ?_)
                    · have hq144 := nlt_of (x := v) (n := r (2 * y.toNatClampNeg)) c139 (by omega) (Int32.not_le.mpr c145)
                      refine lv_iconst (v := 0) hx hb dX10_told__111 (by decide) ?_
                      refine call_V (n := 2) (k0 := 0) (As := [.int 0, .int 0]) (rest := []) hX hB (k_X10_isThrown_ κ l (mw κ a r f (va_up q 3 t11) (tb a) w) 0 (a 0) (a 1) ((va_up q 3 t11) 0) ((va_up q 3 t11) 1) ((va_up q 3 t11) 2) ((va_up q 3 t11) 3) 0 0 (mw0x (a := a) (r := r) (f := f) (q := (va_up q 3 t11)) (T := tb a) (w := w) rfl)) ⟨rfl, by decide, by decide, by decide +kernel⟩ wm_5_188 wm_5_190 wp_27 wm_1_6 wm_5_191 ⟨Nat.le_of_ble_eq_true rfl, Nat.le_of_ble_eq_true rfl⟩ ⟨Nat.le_of_ble_eq_true rfl, Nat.le_of_ble_eq_true rfl⟩ (mw0x (a := a) (r := r) (f := f) (q := (va_up q 3 t11)) (T := tb a) (w := w) rfl) rfl rfl rfl hl.1 rfl (Nat.le_of_ble_eq_true rfl) dX10_told__112 (fun o w' H locs hp hB => ?_)
                      obtain ⟨x146, t147, rfl, hf148, hw9⟩ := hp
                      replace hB : Bd κ A s (mw κ a r f (va_up (va_up q 3 t11) 3 t147) (tb a) w) H locs := by exact Bd_eq (mwQ3x rfl _) (by rw [hw9] at hB; exact hB)
                      obtain rfl : x146 = 0 := hf148.trans (by decide)
                      refine W.eq (g2 := F0 m 115 ls [.int 0]) rfl ?_
                      refine lv_if_eq (tgt := 120) hx hb dX10_told__115 (by decide) (fun _ => ?_) (fun c149 => False.elim (by revert c149; decide))
                      refine lv_aload hx hb dX10_told__120 (lv_at hl 2 rfl) ?_
                      refine lv_iload_n hx hb dX10_told__122 rfl (lv_at hl 5 rfl) ?_
                      refine call_S (n := 2) (As := [.ref (a (2 + 2 * y.toNatClampNeg)), .int z]) (rest := []) hX hB (k_X10_toldOf κ l (mw κ a r f (va_up (va_up q 3 t11) 3 t147) (tb a) w) (2 + 2 * y.toNatClampNeg) (3 + 2 * y.toNatClampNeg) (a (2 + 2 * y.toNatClampNeg)) (a (3 + 2 * y.toNatClampNeg)) (r (2 * y.toNatClampNeg)) (r (2 * y.toNatClampNeg + 1)) (f y.toNatClampNeg) z (mwG (i := y.toNatClampNeg) (a := a) (r := r) (f := f) (q := (va_up (va_up q 3 t11) 3 t147)) (T := tb a) (w := w) (by omega)) (mwA (i := y.toNatClampNeg) (a := a) (r := r) (f := f) (q := (va_up (va_up q 3 t11) 3 t147)) (T := tb a) (w := w) (by omega)) (mok_shp (i := y.toNatClampNeg) hm (by omega)) (by omega) (fun k hk => sm_ng ((hm _ (by omega)).2 k hk)) ⟨by assumption, by first | assumption | exact Int32.not_lt.mp (by assumption)⟩) ⟨by decide, by decide, by decide +kernel⟩ wm_6_120 wm_6_121 wm_1_6 wm_6_122 ⟨Nat.le_of_ble_eq_true rfl, Nat.le_of_ble_eq_true rfl⟩ ⟨Nat.le_of_ble_eq_true rfl, Nat.le_of_ble_eq_true rfl⟩ rfl hl.1 rfl (Nat.le_of_ble_eq_true rfl) dX10_told__123 (fun o w' H locs hp hB => ?_)
                      rcases hp with ⟨rfl, hw9⟩ | ⟨q150, q151, R152, C153, F154, rfl, ⟨⟨hd155a, hd155b, hd155c, hd155d⟩, hd155t⟩, hw9⟩
                      · replace hB : Bd κ A s (mw κ a r f (va_up (va_up q 3 t11) 3 t147) (tb a) w) H locs := by rw [hw9] at hB; exact hB
                        refine W.eq (g2 := F0 m 126 ls [.null]) rfl ?_
                        refine lv_astoreN (lv' := [(8, .null), (7, .int (nI (r (2 * y.toNatClampNeg)))), (6, .int (nI (r (2 * y.toNatClampNeg)))), (5, .ref (a (2 + 2 * y.toNatClampNeg))), (0, .ref (a 0)), (1, .int y), (2, .int z), (3, .int u), (4, .int v)]) hx hb dX10_told__126 hl (by decide) rfl (fun ls hl => ?_)
                        refine lv_aload_n hx hb dX10_told__128 rfl (lv_at hl 4 rfl) ?_
                        refine lv_iconst (v := 0) hx hb dX10_told__129 (by decide) ?_
                        refine lv_iconst (v := 0) hx hb dX10_told__130 (by decide) ?_
                        refine lv_aloadN hx hb dX10_told__131 (lv_at hl 0 rfl) ?_
                        refine lv_ifnonnullN hx hb dX10_told__133 ?_
                        refine lv_iconst (v := 1) hx hb dX10_told__136 (by decide) ?_
                        refine lv_goto (tgt := 141) hx hb dX10_told__137 (by decide) ?_
                        refine call_V (n := 3) (k0 := 0) (As := [.int 0, .int 0, .int 1]) (rest := []) hX hB (k_X10_isThrown κ l (mw κ a r f (va_up (va_up q 3 t11) 3 t147) (tb a) w) 0 (a 0) (a 1) ((va_up (va_up q 3 t11) 3 t147) 0) ((va_up (va_up q 3 t11) 3 t147) 1) ((va_up (va_up q 3 t11) 3 t147) 2) ((va_up (va_up q 3 t11) 3 t147) 3) 0 0 1 (mw0x (a := a) (r := r) (f := f) (q := (va_up (va_up q 3 t11) 3 t147)) (T := tb a) (w := w) rfl)) ⟨rfl, by decide, by decide, by decide +kernel⟩ wm_5_192 wm_5_194 wp_28 wm_1_6 wm_5_195 ⟨Nat.le_of_ble_eq_true rfl, Nat.le_of_ble_eq_true rfl⟩ ⟨Nat.le_of_ble_eq_true rfl, Nat.le_of_ble_eq_true rfl⟩ (mw0x (a := a) (r := r) (f := f) (q := (va_up (va_up q 3 t11) 3 t147)) (T := tb a) (w := w) rfl) rfl rfl rfl hl.1 rfl (Nat.le_of_ble_eq_true rfl) dX10_told__141 (fun o w' H locs hp hB => ?_)
                        obtain ⟨x156, t157, rfl, hf158, hw9⟩ := hp
                        replace hB : Bd κ A s (mw κ a r f (va_up (va_up (va_up q 3 t11) 3 t147) 3 t157) (tb a) w) H locs := by exact Bd_eq (mwQ3x rfl _) (by rw [hw9] at hB; exact hB)
                        obtain rfl : x156 = 1 := hf158.trans (by decide)
                        refine W.eq (g2 := F0 m 144 ls [.int 1]) rfl ?_
                        refine lv_if_eq (tgt := 151) hx hb dX10_told__144 (by decide) (fun c159 => False.elim (by revert c159; decide)) (fun _ => ?_)
                        refine lv_iconst (v := 0) hx hb dX10_told__147 (by decide) ?_
                        refine lv_goto (tgt := 160) hx hb dX10_told__148 (by decide) ?_
                        rw [← hQ]
                        exact end_i hX hB hA3 rfl rfl ⟨0, (va_up (va_up (va_up q 3 t11) 3 t147) 3 t157), rfl, rfl, rfl⟩ (Nat.le_of_ble_eq_true rfl) (Nat.le_of_ble_eq_true rfl) dX10_told__160
                      · replace hB : Bd κ A s (lA κ q151 (R152 * 5) F154 :: gO q150 R152 C153 q151 :: mw κ a r f (va_up (va_up q 3 t11) 3 t147) (tb a) w) H locs := by rw [hw9] at hB; exact hB
                        refine W.eq (g2 := F0 m 126 ls [.ref q150]) rfl ?_
                        refine lv_astore (lv' := [(8, .ref q150), (7, .int (nI (r (2 * y.toNatClampNeg)))), (6, .int (nI (r (2 * y.toNatClampNeg)))), (5, .ref (a (2 + 2 * y.toNatClampNeg))), (0, .ref (a 0)), (1, .int y), (2, .int z), (3, .int u), (4, .int v)]) hx hb dX10_told__126 hl (by decide) rfl (fun ls hl => ?_)
                        refine lv_aload_n hx hb dX10_told__128 rfl (lv_at hl 4 rfl) ?_
                        refine lv_iconst (v := 0) hx hb dX10_told__129 (by decide) ?_
                        refine lv_iconst (v := 0) hx hb dX10_told__130 (by decide) ?_
                        refine lv_aload hx hb dX10_told__131 (lv_at hl 0 rfl) ?_
                        refine lv_ifnonnull (tgt := 140) hx hb dX10_told__133 (by decide) ?_
                        refine lv_iconst (v := 0) hx hb dX10_told__140 (by decide) ?_
                        refine call_V (n := 3) (k0 := 2) (As := [.int 0, .int 0, .int 0]) (rest := []) hX hB (k_X10_isThrown κ l (lA κ q151 (R152 * 5) F154 :: gO q150 R152 C153 q151 :: mw κ a r f (va_up (va_up q 3 t11) 3 t147) (tb a) w) 2 (a 0) (a 1) ((va_up (va_up q 3 t11) 3 t147) 0) ((va_up (va_up q 3 t11) 3 t147) 1) ((va_up (va_up q 3 t11) 3 t147) 2) ((va_up (va_up q 3 t11) 3 t147) 3) 0 0 0 (mw0x (a := a) (r := r) (f := f) (q := (va_up (va_up q 3 t11) 3 t147)) (T := tb a) (w := w) rfl)) ⟨rfl, by decide, by decide, by decide +kernel⟩ wm_5_192 wm_5_194 wp_28 wm_1_6 wm_5_195 ⟨Nat.le_of_ble_eq_true rfl, Nat.le_of_ble_eq_true rfl⟩ ⟨Nat.le_of_ble_eq_true rfl, Nat.le_of_ble_eq_true rfl⟩ (mw0x (a := a) (r := r) (f := f) (q := (va_up (va_up q 3 t11) 3 t147)) (T := tb a) (w := w) rfl) rfl rfl rfl hl.1 rfl (Nat.le_of_ble_eq_true rfl) dX10_told__141 (fun o w' H locs hp hB => ?_)
                        obtain ⟨x160, t161, rfl, hf162, hw9⟩ := hp
                        replace hB : Bd κ A s (lA κ q151 (R152 * 5) F154 :: gO q150 R152 C153 q151 :: mw κ a r f (va_up (va_up (va_up q 3 t11) 3 t147) 3 t161) (tb a) w) H locs := by exact Bd_eq (congrArg (List.cons _) (congrArg (List.cons _) (mwQ3x rfl _))) (by rw [hw9] at hB; exact hB)
                        obtain rfl : x160 = 0 := hf162.trans (by decide)
                        refine W.eq (g2 := F0 m 144 ls [.int 0]) rfl ?_
                        refine lv_if_eq (tgt := 151) hx hb dX10_told__144 (by decide) (fun _ => ?_) (fun c163 => False.elim (by revert c163; decide))
                        have hT1 : R152 = r (2 * y.toNatClampNeg) := by first | exact hd155t.1 (by assumption) | exact hd155t.2.1 (by assumption)
                        have hT2 : C153 = r (2 * y.toNatClampNeg) := by first | exact hd155t.2.2.1 (by assumption) | exact hd155t.2.2.2.1 (by assumption) | exact hd155t.2.2.2.2 (by assumption) (by assumption)
                        refine lv_aload hx hb dX10_told__151 (lv_at hl 0 rfl) ?_
                        refine lv_iload_n hx hb dX10_told__153 rfl (lv_at hl 7 rfl) ?_
                        refine lv_iload hx hb dX10_told__154 (lv_at hl 8 rfl) ?_
                        refine call_V (n := 2) (k0 := 1) (As := [.int u, .int v]) (rest := []) hX hB (k_X7_at κ l (lA κ q151 (R152 * 5) F154 :: gO q150 R152 C153 q151 :: mw κ a r f (va_up (va_up (va_up q 3 t11) 3 t147) 3 t161) (tb a) w) 1 0 q150 q151 R152 C153 F154 u ((u).toNatClampNeg) v ((v).toNatClampNeg) rfl rfl ⟨by omega, by omega, by omega, by omega⟩ (nI_rep (Int32.not_lt.mp (by assumption))) (nI_rep (Int32.not_lt.mp (by assumption))) (by omega)) ⟨rfl, by decide, by decide, by decide +kernel⟩ wm_5_233 wm_5_234 wm_5_235 wm_1_7 wm_5_236 ⟨Nat.le_of_ble_eq_true rfl, Nat.le_of_ble_eq_true rfl⟩ ⟨Nat.le_of_ble_eq_true rfl, Nat.le_of_ble_eq_true rfl⟩ rfl rfl rfl rfl hl.1 rfl (Nat.le_of_ble_eq_true rfl) dX10_told__156 (fun o w' H locs hp hB => ?_)
                        obtain ⟨rfl, hw9⟩ := hp
                        replace hB : Bd κ A s (lA κ q151 (R152 * 5) F154 :: gO q150 R152 C153 q151 :: mw κ a r f (va_up (va_up (va_up q 3 t11) 3 t147) 3 t161) (tb a) w) H locs := by rw [hw9] at hB; exact hB
                        refine W.eq (g2 := F0 m 159 ls [.long (F154 (((u).toNatClampNeg) * 5 + ((v).toNatClampNeg)))]) rfl ?_
                        refine lv_l2i hx hb dX10_told__159 rfl ?_
                        replace hB : Bd κ A s (lA κ q151 (R152 * 5) F154 :: mw κ a r f (va_up (va_up (va_up q 3 t11) 3 t147) 3 t161) (tb a) w) H locs := Bd_del 1 hB
                        replace hB : Bd κ A s (mw κ a r f (va_up (va_up (va_up q 3 t11) 3 t147) 3 t161) (tb a) w) H locs := Bd_del 0 hB
                        rw [← hQ]
                        exact end_i hX hB hA3 rfl rfl ⟨(((F154 (((u).toNatClampNeg) * 5 + ((v).toNatClampNeg)))).toInt32), (va_up (va_up (va_up q 3 t11) 3 t147) 3 t161), rfl, rfl, rfl⟩ (Nat.le_of_ble_eq_true rfl) (Nat.le_of_ble_eq_true rfl) dX10_told__160
                    · refine lv_iconst (v := 1) hx hb dX10_told__107 (by decide) ?_
                      refine lv_goto (tgt := 112) hx hb dX10_told__108 (by decide) ?_
                      refine call_V (n := 2) (k0 := 0) (As := [.int 0, .int 1]) (rest := []) hX hB (k_X10_isThrown_ κ l (mw κ a r f (va_up q 3 t11) (tb a) w) 0 (a 0) (a 1) ((va_up q 3 t11) 0) ((va_up q 3 t11) 1) ((va_up q 3 t11) 2) ((va_up q 3 t11) 3) 0 1 (mw0x (a := a) (r := r) (f := f) (q := (va_up q 3 t11)) (T := tb a) (w := w) rfl)) ⟨rfl, by decide, by decide, by decide +kernel⟩ wm_5_188 wm_5_190 wp_27 wm_1_6 wm_5_191 ⟨Nat.le_of_ble_eq_true rfl, Nat.le_of_ble_eq_true rfl⟩ ⟨Nat.le_of_ble_eq_true rfl, Nat.le_of_ble_eq_true rfl⟩ (mw0x (a := a) (r := r) (f := f) (q := (va_up q 3 t11)) (T := tb a) (w := w) rfl) rfl rfl rfl hl.1 rfl (Nat.le_of_ble_eq_true rfl) dX10_told__112 (fun o w' H locs hp hB => ?_)
                      obtain ⟨x164, t165, rfl, hf166, hw9⟩ := hp
                      replace hB : Bd κ A s (mw κ a r f (va_up (va_up q 3 t11) 3 t165) (tb a) w) H locs := by exact Bd_eq (mwQ3x rfl _) (by rw [hw9] at hB; exact hB)
                      obtain rfl : x164 = 1 := hf166.trans (by decide)
                      refine W.eq (g2 := F0 m 115 ls [.int 1]) rfl ?_
                      refine lv_if_eq (tgt := 120) hx hb dX10_told__115 (by decide) (fun c167 => False.elim (by revert c167; decide)) (fun _ => ?_)
                      refine lv_iconst (v := 0) hx hb dX10_told__118 (by decide) ?_
                      rw [← hQ]
                      exact end_i hX hB hA3 rfl rfl ⟨0, (va_up (va_up q 3 t11) 3 t165), rfl, rfl, rfl⟩ (Nat.le_of_ble_eq_true rfl) (Nat.le_of_ble_eq_true rfl) dX10_told__119
    · refine lv_aload hx hb dX10_told__34 (lv_at hl 0 rfl) ?_
      refine gf (k0 := 2 + 2 * y.toNatClampNeg) hX hB (mwG (i := y.toNatClampNeg) (a := a) (r := r) (f := f) (q := (va_up q 3 t11)) (T := tb a) (w := w) (by omega)) rfl in7 1 (by decide) wm_5_152 rfl rfl dX10_told__36 ?_
      refine lv_goto (tgt := 47) hx hb dX10_told__39 (by decide) ?_
      refine lv_istore (lv' := [(6, .int (nI (r (2 * y.toNatClampNeg + 1)))), (5, .ref (a (2 + 2 * y.toNatClampNeg))), (0, .ref (a 0)), (1, .int y), (2, .int z), (3, .int u), (4, .int v)]) hx hb dX10_told__47 hl (by decide) rfl (fun ls hl => ?_)
      refine lv_iload_n hx hb dX10_told__49 rfl (lv_at hl 4 rfl) ?_
      refine lv_iconst (v := 1) hx hb dX10_told__50 (by decide) ?_
      refine lv_icmp_eq (tgt := 59) hx hb dX10_told__51 (by decide) (fun c168 => ?_) (fun c168 => ?_)
      · refine lv_aload hx hb dX10_told__59 (lv_at hl 1 rfl) ?_
        refine gf (k0 := 2 + 2 * y.toNatClampNeg) hX hB (mwG (i := y.toNatClampNeg) (a := a) (r := r) (f := f) (q := (va_up q 3 t11)) (T := tb a) (w := w) (by omega)) rfl in7 0 (by decide) wm_5_148 rfl rfl dX10_told__61 ?_
        refine lv_goto (tgt := 72) hx hb dX10_told__64 (by decide) ?_
        refine lv_istore (lv' := [(7, .int (nI (r (2 * y.toNatClampNeg)))), (6, .int (nI (r (2 * y.toNatClampNeg + 1)))), (5, .ref (a (2 + 2 * y.toNatClampNeg))), (0, .ref (a 0)), (1, .int y), (2, .int z), (3, .int u), (4, .int v)]) hx hb dX10_told__72 hl (by decide) rfl (fun ls hl => ?_)
        refine lv_aload_n hx hb dX10_told__74 rfl (lv_at hl 3 rfl) ?_
        refine lv_iconst (v := 0) hx hb dX10_told__75 (by decide) ?_
        refine lv_iload_n hx hb dX10_told__76 rfl (lv_at hl 5 rfl) ?_
        refine lv_if_lt (tgt := 107) hx hb dX10_told__77 (by decide) (fun c169 => ?_) (fun c169 => ?_)
        · refine lv_iconst (v := 1) hx hb dX10_told__107 (by decide) ?_
          refine lv_goto (tgt := 112) hx hb dX10_told__108 (by decide) ?_
          refine call_V (n := 2) (k0 := 0) (As := [.int 0, .int 1]) (rest := []) hX hB (k_X10_isThrown_ κ l (mw κ a r f (va_up q 3 t11) (tb a) w) 0 (a 0) (a 1) ((va_up q 3 t11) 0) ((va_up q 3 t11) 1) ((va_up q 3 t11) 2) ((va_up q 3 t11) 3) 0 1 (mw0x (a := a) (r := r) (f := f) (q := (va_up q 3 t11)) (T := tb a) (w := w) rfl)) ⟨rfl, by decide, by decide, by decide +kernel⟩ wm_5_188 wm_5_190 wp_27 wm_1_6 wm_5_191 ⟨Nat.le_of_ble_eq_true rfl, Nat.le_of_ble_eq_true rfl⟩ ⟨Nat.le_of_ble_eq_true rfl, Nat.le_of_ble_eq_true rfl⟩ (mw0x (a := a) (r := r) (f := f) (q := (va_up q 3 t11)) (T := tb a) (w := w) rfl) rfl rfl rfl hl.1 rfl (Nat.le_of_ble_eq_true rfl) dX10_told__112 (fun o w' H locs hp hB => ?_)
          obtain ⟨x170, t171, rfl, hf172, hw9⟩ := hp
          replace hB : Bd κ A s (mw κ a r f (va_up (va_up q 3 t11) 3 t171) (tb a) w) H locs := by exact Bd_eq (mwQ3x rfl _) (by rw [hw9] at hB; exact hB)
          obtain rfl : x170 = 1 := hf172.trans (by decide)
          refine W.eq (g2 := F0 m 115 ls [.int 1]) rfl ?_
          refine lv_if_eq (tgt := 120) hx hb dX10_told__115 (by decide) (fun c173 => False.elim (by revert c173; decide)) (fun _ => ?_)
          refine lv_iconst (v := 0) hx hb dX10_told__118 (by decide) ?_
          rw [← hQ]
          exact end_i hX hB hA3 rfl rfl ⟨0, (va_up (va_up q 3 t11) 3 t171), rfl, rfl, rfl⟩ (Nat.le_of_ble_eq_true rfl) (Nat.le_of_ble_eq_true rfl) dX10_told__119
        · refine lv_iload_n hx hb dX10_told__80 rfl (lv_at hl 5 rfl) ?_
          refine lv_iconst (v := 4) hx hb dX10_told__81 (by decide) ?_
          refine lv_icmp_gt (tgt := 107) hx hb dX10_told__82 (by decide) (fun c174 => ?_) (fun c174 => ?_)
          · refine lv_iconst (v := 1) hx hb dX10_told__107 (by decide) ?_
            refine lv_goto (tgt := 112) hx hb dX10_told__108 (by decide) ?_
            refine call_V (n := 2) (k0 := 0) (As := [.int 0, .int 1]) (rest := []) hX hB (k_X10_isThrown_ κ l (mw κ a r f (va_up q 3 t11) (tb a) w) 0 (a 0) (a 1) ((va_up q 3 t11) 0) ((va_up q 3 t11) 1) ((va_up q 3 t11) 2) ((va_up q 3 t11) 3) 0 1 (mw0x (a := a) (r := r) (f := f) (q := (va_up q 3 t11)) (T := tb a) (w := w) rfl)) ⟨rfl, by decide, by decide, by decide +kernel⟩ wm_5_188 wm_5_190 wp_27 wm_1_6 wm_5_191 ⟨Nat.le_of_ble_eq_true rfl, Nat.le_of_ble_eq_true rfl⟩ ⟨Nat.le_of_ble_eq_true rfl, Nat.le_of_ble_eq_true rfl⟩ (mw0x (a := a) (r := r) (f := f) (q := (va_up q 3 t11)) (T := tb a) (w := w) rfl) rfl rfl rfl hl.1 rfl (Nat.le_of_ble_eq_true rfl) dX10_told__112 (fun o w' H locs hp hB => ?_)
            obtain ⟨x175, t176, rfl, hf177, hw9⟩ := hp
            replace hB : Bd κ A s (mw κ a r f (va_up (va_up q 3 t11) 3 t176) (tb a) w) H locs := by exact Bd_eq (mwQ3x rfl _) (by rw [hw9] at hB; exact hB)
            obtain rfl : x175 = 1 := hf177.trans (by decide)
            refine W.eq (g2 := F0 m 115 ls [.int 1]) rfl ?_
            refine lv_if_eq (tgt := 120) hx hb dX10_told__115 (by decide) (fun c178 => False.elim (by revert c178; decide)) (fun _ => ?_)
            refine lv_iconst (v := 0) hx hb dX10_told__118 (by decide) ?_
            rw [← hQ]
            exact end_i hX hB hA3 rfl rfl ⟨0, (va_up (va_up q 3 t11) 3 t176), rfl, rfl, rfl⟩ (Nat.le_of_ble_eq_true rfl) (Nat.le_of_ble_eq_true rfl) dX10_told__119
          · refine lv_iload_n hx hb dX10_told__85 rfl (lv_at hl 6 rfl) ?_
            refine lv_if_lt (tgt := 107) hx hb dX10_told__86 (by decide) (fun c179 => ?_) (fun c179 => ?_)
            · refine lv_iconst (v := 1) hx hb dX10_told__107 (by decide) ?_
              refine lv_goto (tgt := 112) hx hb dX10_told__108 (by decide) ?_
              refine call_V (n := 2) (k0 := 0) (As := [.int 0, .int 1]) (rest := []) hX hB (k_X10_isThrown_ κ l (mw κ a r f (va_up q 3 t11) (tb a) w) 0 (a 0) (a 1) ((va_up q 3 t11) 0) ((va_up q 3 t11) 1) ((va_up q 3 t11) 2) ((va_up q 3 t11) 3) 0 1 (mw0x (a := a) (r := r) (f := f) (q := (va_up q 3 t11)) (T := tb a) (w := w) rfl)) ⟨rfl, by decide, by decide, by decide +kernel⟩ wm_5_188 wm_5_190 wp_27 wm_1_6 wm_5_191 ⟨Nat.le_of_ble_eq_true rfl, Nat.le_of_ble_eq_true rfl⟩ ⟨Nat.le_of_ble_eq_true rfl, Nat.le_of_ble_eq_true rfl⟩ (mw0x (a := a) (r := r) (f := f) (q := (va_up q 3 t11)) (T := tb a) (w := w) rfl) rfl rfl rfl hl.1 rfl (Nat.le_of_ble_eq_true rfl) dX10_told__112 (fun o w' H locs hp hB => ?_)
              obtain ⟨x180, t181, rfl, hf182, hw9⟩ := hp
              replace hB : Bd κ A s (mw κ a r f (va_up (va_up q 3 t11) 3 t181) (tb a) w) H locs := by exact Bd_eq (mwQ3x rfl _) (by rw [hw9] at hB; exact hB)
              obtain rfl : x180 = 1 := hf182.trans (by decide)
              refine W.eq (g2 := F0 m 115 ls [.int 1]) rfl ?_
              refine lv_if_eq (tgt := 120) hx hb dX10_told__115 (by decide) (fun c183 => False.elim (by revert c183; decide)) (fun _ => ?_)
              refine lv_iconst (v := 0) hx hb dX10_told__118 (by decide) ?_
              rw [← hQ]
              exact end_i hX hB hA3 rfl rfl ⟨0, (va_up (va_up q 3 t11) 3 t181), rfl, rfl, rfl⟩ (Nat.le_of_ble_eq_true rfl) (Nat.le_of_ble_eq_true rfl) dX10_told__119
            · refine lv_iload_n hx hb dX10_told__89 rfl (lv_at hl 6 rfl) ?_
              refine lv_iload hx hb dX10_told__90 (lv_at hl 1 rfl) ?_
              refine lv_icmp_ge (tgt := 107) hx hb dX10_told__92 (by decide) (fun c185 => ?_) (fun c185 => ?_)
              · refine lv_iconst (v := 1) hx hb dX10_told__107 (by decide) ?_
                refine lv_goto (tgt := 112) hx hb dX10_told__108 (by decide) ?_
                refine call_V (n := 2) (k0 := 0) (As := [.int 0, .int 1]) (rest := []) hX hB (k_X10_isThrown_ κ l (mw κ a r f (va_up q 3 t11) (tb a) w) 0 (a 0) (a 1) ((va_up q 3 t11) 0) ((va_up q 3 t11) 1) ((va_up q 3 t11) 2) ((va_up q 3 t11) 3) 0 1 (mw0x (a := a) (r := r) (f := f) (q := (va_up q 3 t11)) (T := tb a) (w := w) rfl)) ⟨rfl, by decide, by decide, by decide +kernel⟩ wm_5_188 wm_5_190 wp_27 wm_1_6 wm_5_191 ⟨Nat.le_of_ble_eq_true rfl, Nat.le_of_ble_eq_true rfl⟩ ⟨Nat.le_of_ble_eq_true rfl, Nat.le_of_ble_eq_true rfl⟩ (mw0x (a := a) (r := r) (f := f) (q := (va_up q 3 t11)) (T := tb a) (w := w) rfl) rfl rfl rfl hl.1 rfl (Nat.le_of_ble_eq_true rfl) dX10_told__112 (fun o w' H locs hp hB => ?_)
                obtain ⟨x186, t187, rfl, hf188, hw9⟩ := hp
                replace hB : Bd κ A s (mw κ a r f (va_up (va_up q 3 t11) 3 t187) (tb a) w) H locs := by exact Bd_eq (mwQ3x rfl _) (by rw [hw9] at hB; exact hB)
                obtain rfl : x186 = 1 := hf188.trans (by decide)
                refine W.eq (g2 := F0 m 115 ls [.int 1]) rfl ?_
                refine lv_if_eq (tgt := 120) hx hb dX10_told__115 (by decide) (fun c189 => False.elim (by revert c189; decide)) (fun _ => ?_)
                refine lv_iconst (v := 0) hx hb dX10_told__118 (by decide) ?_
                rw [← hQ]
                exact end_i hX hB hA3 rfl rfl ⟨0, (va_up (va_up q 3 t11) 3 t187), rfl, rfl, rfl⟩ (Nat.le_of_ble_eq_true rfl) (Nat.le_of_ble_eq_true rfl) dX10_told__119
              · have hq184 := nlt_of (x := u) (n := r (2 * y.toNatClampNeg + 1)) c179 (by omega) c185
                refine lv_iload hx hb dX10_told__95 (lv_at hl 7 rfl) ?_
                refine lv_if_lt (tgt := 107) hx hb dX10_told__97 (by decide) (fun c190 => ?_) (fun c190 => ?_)
                · refine lv_iconst (v := 1) hx hb dX10_told__107 (by decide) ?_
                  refine lv_goto (tgt := 112) hx hb dX10_told__108 (by decide) ?_
                  refine call_V (n := 2) (k0 := 0) (As := [.int 0, .int 1]) (rest := []) hX hB (k_X10_isThrown_ κ l (mw κ a r f (va_up q 3 t11) (tb a) w) 0 (a 0) (a 1) ((va_up q 3 t11) 0) ((va_up q 3 t11) 1) ((va_up q 3 t11) 2) ((va_up q 3 t11) 3) 0 1 (mw0x (a := a) (r := r) (f := f) (q := (va_up q 3 t11)) (T := tb a) (w := w) rfl)) ⟨rfl, by decide, by decide, by decide +kernel⟩ wm_5_188 wm_5_190 wp_27 wm_1_6 wm_5_191 ⟨Nat.le_of_ble_eq_true rfl, Nat.le_of_ble_eq_true rfl⟩ ⟨Nat.le_of_ble_eq_true rfl, Nat.le_of_ble_eq_true rfl⟩ (mw0x (a := a) (r := r) (f := f) (q := (va_up q 3 t11)) (T := tb a) (w := w) rfl) rfl rfl rfl hl.1 rfl (Nat.le_of_ble_eq_true rfl) dX10_told__112 (fun o w' H locs hp hB => ?_)
                  obtain ⟨x191, t192, rfl, hf193, hw9⟩ := hp
                  replace hB : Bd κ A s (mw κ a r f (va_up (va_up q 3 t11) 3 t192) (tb a) w) H locs := by exact Bd_eq (mwQ3x rfl _) (by rw [hw9] at hB; exact hB)
                  obtain rfl : x191 = 1 := hf193.trans (by decide)
                  refine W.eq (g2 := F0 m 115 ls [.int 1]) rfl ?_
                  refine lv_if_eq (tgt := 120) hx hb dX10_told__115 (by decide) (fun c194 => False.elim (by revert c194; decide)) (fun _ => ?_)
                  refine lv_iconst (v := 0) hx hb dX10_told__118 (by decide) ?_
                  rw [← hQ]
                  exact end_i hX hB hA3 rfl rfl ⟨0, (va_up (va_up q 3 t11) 3 t192), rfl, rfl, rfl⟩ (Nat.le_of_ble_eq_true rfl) (Nat.le_of_ble_eq_true rfl) dX10_told__119
                · refine lv_iload hx hb dX10_told__100 (lv_at hl 7 rfl) ?_
                  refine lv_iload hx hb dX10_told__102 (lv_at hl 0 rfl) ?_
                  refine lv_icmp_lt (tgt := 111) hx hb dX10_told__104 (by decide) (fun c196 => ?_) (fun c196 => ?_)
                  · have hq195 := nlt_of (x := v) (n := r (2 * y.toNatClampNeg)) c190 (by omega) (Int32.not_le.mpr c196)
                    refine lv_iconst (v := 0) hx hb dX10_told__111 (by decide) ?_
                    refine call_V (n := 2) (k0 := 0) (As := [.int 0, .int 0]) (rest := []) hX hB (k_X10_isThrown_ κ l (mw κ a r f (va_up q 3 t11) (tb a) w) 0 (a 0) (a 1) ((va_up q 3 t11) 0) ((va_up q 3 t11) 1) ((va_up q 3 t11) 2) ((va_up q 3 t11) 3) 0 0 (mw0x (a := a) (r := r) (f := f) (q := (va_up q 3 t11)) (T := tb a) (w := w) rfl)) ⟨rfl, by decide, by decide, by decide +kernel⟩ wm_5_188 wm_5_190 wp_27 wm_1_6 wm_5_191 ⟨Nat.le_of_ble_eq_true rfl, Nat.le_of_ble_eq_true rfl⟩ ⟨Nat.le_of_ble_eq_true rfl, Nat.le_of_ble_eq_true rfl⟩ (mw0x (a := a) (r := r) (f := f) (q := (va_up q 3 t11)) (T := tb a) (w := w) rfl) rfl rfl rfl hl.1 rfl (Nat.le_of_ble_eq_true rfl) dX10_told__112 (fun o w' H locs hp hB => ?_)
                    obtain ⟨x197, t198, rfl, hf199, hw9⟩ := hp
                    replace hB : Bd κ A s (mw κ a r f (va_up (va_up q 3 t11) 3 t198) (tb a) w) H locs := by exact Bd_eq (mwQ3x rfl _) (by rw [hw9] at hB; exact hB)
                    obtain rfl : x197 = 0 := hf199.trans (by decide)
                    refine W.eq (g2 := F0 m 115 ls [.int 0]) rfl ?_
                    refine lv_if_eq (tgt := 120) hx hb dX10_told__115 (by decide) (fun _ => ?_) (fun c200 => False.elim (by revert c200; decide))
                    refine lv_aload hx hb dX10_told__120 (lv_at hl 2 rfl) ?_
                    refine lv_iload_n hx hb dX10_told__122 rfl (lv_at hl 5 rfl) ?_
                    refine call_S (n := 2) (As := [.ref (a (2 + 2 * y.toNatClampNeg)), .int z]) (rest := []) hX hB (k_X10_toldOf κ l (mw κ a r f (va_up (va_up q 3 t11) 3 t198) (tb a) w) (2 + 2 * y.toNatClampNeg) (3 + 2 * y.toNatClampNeg) (a (2 + 2 * y.toNatClampNeg)) (a (3 + 2 * y.toNatClampNeg)) (r (2 * y.toNatClampNeg)) (r (2 * y.toNatClampNeg + 1)) (f y.toNatClampNeg) z (mwG (i := y.toNatClampNeg) (a := a) (r := r) (f := f) (q := (va_up (va_up q 3 t11) 3 t198)) (T := tb a) (w := w) (by omega)) (mwA (i := y.toNatClampNeg) (a := a) (r := r) (f := f) (q := (va_up (va_up q 3 t11) 3 t198)) (T := tb a) (w := w) (by omega)) (mok_shp (i := y.toNatClampNeg) hm (by omega)) (by omega) (fun k hk => sm_ng ((hm _ (by omega)).2 k hk)) ⟨by assumption, by first | assumption | exact Int32.not_lt.mp (by assumption)⟩) ⟨by decide, by decide, by decide +kernel⟩ wm_6_120 wm_6_121 wm_1_6 wm_6_122 ⟨Nat.le_of_ble_eq_true rfl, Nat.le_of_ble_eq_true rfl⟩ ⟨Nat.le_of_ble_eq_true rfl, Nat.le_of_ble_eq_true rfl⟩ rfl hl.1 rfl (Nat.le_of_ble_eq_true rfl) dX10_told__123 (fun o w' H locs hp hB => ?_)
                    rcases hp with ⟨rfl, hw9⟩ | ⟨q201, q202, R203, C204, F205, rfl, ⟨⟨hd206a, hd206b, hd206c, hd206d⟩, hd206t⟩, hw9⟩
                    · replace hB : Bd κ A s (mw κ a r f (va_up (va_up q 3 t11) 3 t198) (tb a) w) H locs := by rw [hw9] at hB; exact hB
                      refine W.eq (g2 := F0 m 126 ls [.null]) rfl ?_
                      refine lv_astoreN (lv' := [(8, .null), (7, .int (nI (r (2 * y.toNatClampNeg)))), (6, .int (nI (r (2 * y.toNatClampNeg + 1)))), (5, .ref (a (2 + 2 * y.toNatClampNeg))), (0, .ref (a 0)), (1, .int y), (2, .int z), (3, .int u), (4, .int v)]) hx hb dX10_told__126 hl (by decide) rfl (fun ls hl => ?_)
                      refine lv_aload_n hx hb dX10_told__128 rfl (lv_at hl 4 rfl) ?_
                      refine lv_iconst (v := 0) hx hb dX10_told__129 (by decide) ?_
                      refine lv_iconst (v := 0) hx hb dX10_told__130 (by decide) ?_
                      refine lv_aloadN hx hb dX10_told__131 (lv_at hl 0 rfl) ?_
                      refine lv_ifnonnullN hx hb dX10_told__133 ?_
                      refine lv_iconst (v := 1) hx hb dX10_told__136 (by decide) ?_
                      refine lv_goto (tgt := 141) hx hb dX10_told__137 (by decide) ?_
                      refine call_V (n := 3) (k0 := 0) (As := [.int 0, .int 0, .int 1]) (rest := []) hX hB (k_X10_isThrown κ l (mw κ a r f (va_up (va_up q 3 t11) 3 t198) (tb a) w) 0 (a 0) (a 1) ((va_up (va_up q 3 t11) 3 t198) 0) ((va_up (va_up q 3 t11) 3 t198) 1) ((va_up (va_up q 3 t11) 3 t198) 2) ((va_up (va_up q 3 t11) 3 t198) 3) 0 0 1 (mw0x (a := a) (r := r) (f := f) (q := (va_up (va_up q 3 t11) 3 t198)) (T := tb a) (w := w) rfl)) ⟨rfl, by decide, by decide, by decide +kernel⟩ wm_5_192 wm_5_194 wp_28 wm_1_6 wm_5_195 ⟨Nat.le_of_ble_eq_true rfl, Nat.le_of_ble_eq_true rfl⟩ ⟨Nat.le_of_ble_eq_true rfl, Nat.le_of_ble_eq_true rfl⟩ (mw0x (a := a) (r := r) (f := f) (q := (va_up (va_up q 3 t11) 3 t198)) (T := tb a) (w := w) rfl) rfl rfl rfl hl.1 rfl (Nat.le_of_ble_eq_true rfl) dX10_told__141 (fun o w' H locs hp hB => ?_)
                      obtain ⟨x207, t208, rfl, hf209, hw9⟩ := hp
                      replace hB : Bd κ A s (mw κ a r f (va_up (va_up (va_up q 3 t11) 3 t198) 3 t208) (tb a) w) H locs := by exact Bd_eq (mwQ3x rfl _) (by rw [hw9] at hB; exact hB)
                      obtain rfl : x207 = 1 := hf209.trans (by decide)
                      refine W.eq (g2 := F0 m 144 ls [.int 1]) rfl ?_
                      refine lv_if_eq (tgt := 151) hx hb dX10_told__144 (by decide) (fun c210 => False.elim (by revert c210; decide)) (fun _ => ?_)
                      refine lv_iconst (v := 0) hx hb dX10_told__147 (by decide) ?_
                      refine lv_goto (tgt := 160) hx hb dX10_told__148 (by decide) ?_
                      rw [← hQ]
                      exact end_i hX hB hA3 rfl rfl ⟨0, (va_up (va_up (va_up q 3 t11) 3 t198) 3 t208), rfl, rfl, rfl⟩ (Nat.le_of_ble_eq_true rfl) (Nat.le_of_ble_eq_true rfl) dX10_told__160
                    · replace hB : Bd κ A s (lA κ q202 (R203 * 5) F205 :: gO q201 R203 C204 q202 :: mw κ a r f (va_up (va_up q 3 t11) 3 t198) (tb a) w) H locs := by rw [hw9] at hB; exact hB
                      refine W.eq (g2 := F0 m 126 ls [.ref q201]) rfl ?_
                      refine lv_astore (lv' := [(8, .ref q201), (7, .int (nI (r (2 * y.toNatClampNeg)))), (6, .int (nI (r (2 * y.toNatClampNeg + 1)))), (5, .ref (a (2 + 2 * y.toNatClampNeg))), (0, .ref (a 0)), (1, .int y), (2, .int z), (3, .int u), (4, .int v)]) hx hb dX10_told__126 hl (by decide) rfl (fun ls hl => ?_)
                      refine lv_aload_n hx hb dX10_told__128 rfl (lv_at hl 4 rfl) ?_
                      refine lv_iconst (v := 0) hx hb dX10_told__129 (by decide) ?_
                      refine lv_iconst (v := 0) hx hb dX10_told__130 (by decide) ?_
                      refine lv_aload hx hb dX10_told__131 (lv_at hl 0 rfl) ?_
                      refine lv_ifnonnull (tgt := 140) hx hb dX10_told__133 (by decide) ?_
                      refine lv_iconst (v := 0) hx hb dX10_told__140 (by decide) ?_
                      refine call_V (n := 3) (k0 := 2) (As := [.int 0, .int 0, .int 0]) (rest := []) hX hB (k_X10_isThrown κ l (lA κ q202 (R203 * 5) F205 :: gO q201 R203 C204 q202 :: mw κ a r f (va_up (va_up q 3 t11) 3 t198) (tb a) w) 2 (a 0) (a 1) ((va_up (va_up q 3 t11) 3 t198) 0) ((va_up (va_up q 3 t11) 3 t198) 1) ((va_up (va_up q 3 t11) 3 t198) 2) ((va_up (va_up q 3 t11) 3 t198) 3) 0 0 0 (mw0x (a := a) (r := r) (f := f) (q := (va_up (va_up q 3 t11) 3 t198)) (T := tb a) (w := w) rfl)) ⟨rfl, by decide, by decide, by decide +kernel⟩ wm_5_192 wm_5_194 wp_28 wm_1_6 wm_5_195 ⟨Nat.le_of_ble_eq_true rfl, Nat.le_of_ble_eq_true rfl⟩ ⟨Nat.le_of_ble_eq_true rfl, Nat.le_of_ble_eq_true rfl⟩ (mw0x (a := a) (r := r) (f := f) (q := (va_up (va_up q 3 t11) 3 t198)) (T := tb a) (w := w) rfl) rfl rfl rfl hl.1 rfl (Nat.le_of_ble_eq_true rfl) dX10_told__141 (fun o w' H locs hp hB => ?_)
                      obtain ⟨x211, t212, rfl, hf213, hw9⟩ := hp
                      replace hB : Bd κ A s (lA κ q202 (R203 * 5) F205 :: gO q201 R203 C204 q202 :: mw κ a r f (va_up (va_up (va_up q 3 t11) 3 t198) 3 t212) (tb a) w) H locs := by exact Bd_eq (congrArg (List.cons _) (congrArg (List.cons _) (mwQ3x rfl _))) (by rw [hw9] at hB; exact hB)
                      obtain rfl : x211 = 0 := hf213.trans (by decide)
                      refine W.eq (g2 := F0 m 144 ls [.int 0]) rfl ?_
                      refine lv_if_eq (tgt := 151) hx hb dX10_told__144 (by decide) (fun _ => ?_) (fun c214 => False.elim (by revert c214; decide))
                      have hT1 : R203 = r (2 * y.toNatClampNeg + 1) := by first | exact hd206t.1 (by assumption) | exact hd206t.2.1 (by assumption)
                      have hT2 : C204 = r (2 * y.toNatClampNeg) := by first | exact hd206t.2.2.1 (by assumption) | exact hd206t.2.2.2.1 (by assumption) | exact hd206t.2.2.2.2 (by assumption) (by assumption)
                      refine lv_aload hx hb dX10_told__151 (lv_at hl 0 rfl) ?_
                      refine lv_iload_n hx hb dX10_told__153 rfl (lv_at hl 7 rfl) ?_
                      refine lv_iload hx hb dX10_told__154 (lv_at hl 8 rfl) ?_
                      refine call_V (n := 2) (k0 := 1) (As := [.int u, .int v]) (rest := []) hX hB (k_X7_at κ l (lA κ q202 (R203 * 5) F205 :: gO q201 R203 C204 q202 :: mw κ a r f (va_up (va_up (va_up q 3 t11) 3 t198) 3 t212) (tb a) w) 1 0 q201 q202 R203 C204 F205 u ((u).toNatClampNeg) v ((v).toNatClampNeg) rfl rfl ⟨by omega, by omega, by omega, by omega⟩ (nI_rep (Int32.not_lt.mp (by assumption))) (nI_rep (Int32.not_lt.mp (by assumption))) (by omega)) ⟨rfl, by decide, by decide, by decide +kernel⟩ wm_5_233 wm_5_234 wm_5_235 wm_1_7 wm_5_236 ⟨Nat.le_of_ble_eq_true rfl, Nat.le_of_ble_eq_true rfl⟩ ⟨Nat.le_of_ble_eq_true rfl, Nat.le_of_ble_eq_true rfl⟩ rfl rfl rfl rfl hl.1 rfl (Nat.le_of_ble_eq_true rfl) dX10_told__156 (fun o w' H locs hp hB => ?_)
                      obtain ⟨rfl, hw9⟩ := hp
                      replace hB : Bd κ A s (lA κ q202 (R203 * 5) F205 :: gO q201 R203 C204 q202 :: mw κ a r f (va_up (va_up (va_up q 3 t11) 3 t198) 3 t212) (tb a) w) H locs := by rw [hw9] at hB; exact hB
                      refine W.eq (g2 := F0 m 159 ls [.long (F205 (((u).toNatClampNeg) * 5 + ((v).toNatClampNeg)))]) rfl ?_
                      refine lv_l2i hx hb dX10_told__159 rfl ?_
                      replace hB : Bd κ A s (lA κ q202 (R203 * 5) F205 :: mw κ a r f (va_up (va_up (va_up q 3 t11) 3 t198) 3 t212) (tb a) w) H locs := Bd_del 1 hB
                      replace hB : Bd κ A s (mw κ a r f (va_up (va_up (va_up q 3 t11) 3 t198) 3 t212) (tb a) w) H locs := Bd_del 0 hB
                      rw [← hQ]
                      exact end_i hX hB hA3 rfl rfl ⟨(((F205 (((u).toNatClampNeg) * 5 + ((v).toNatClampNeg)))).toInt32), (va_up (va_up (va_up q 3 t11) 3 t198) 3 t212), rfl, rfl, rfl⟩ (Nat.le_of_ble_eq_true rfl) (Nat.le_of_ble_eq_true rfl) dX10_told__160
                  · refine lv_iconst (v := 1) hx hb dX10_told__107 (by decide) ?_
                    refine lv_goto (tgt := 112) hx hb dX10_told__108 (by decide) ?_
                    refine call_V (n := 2) (k0 := 0) (As := [.int 0, .int 1]) (rest := []) hX hB (k_X10_isThrown_ κ l (mw κ a r f (va_up q 3 t11) (tb a) w) 0 (a 0) (a 1) ((va_up q 3 t11) 0) ((va_up q 3 t11) 1) ((va_up q 3 t11) 2) ((va_up q 3 t11) 3) 0 1 (mw0x (a := a) (r := r) (f := f) (q := (va_up q 3 t11)) (T := tb a) (w := w) rfl)) ⟨rfl, by decide, by decide, by decide +kernel⟩ wm_5_188 wm_5_190 wp_27 wm_1_6 wm_5_191 ⟨Nat.le_of_ble_eq_true rfl, Nat.le_of_ble_eq_true rfl⟩ ⟨Nat.le_of_ble_eq_true rfl, Nat.le_of_ble_eq_true rfl⟩ (mw0x (a := a) (r := r) (f := f) (q := (va_up q 3 t11)) (T := tb a) (w := w) rfl) rfl rfl rfl hl.1 rfl (Nat.le_of_ble_eq_true rfl) dX10_told__112 (fun o w' H locs hp hB => ?_)
                    obtain ⟨x215, t216, rfl, hf217, hw9⟩ := hp
                    replace hB : Bd κ A s (mw κ a r f (va_up (va_up q 3 t11) 3 t216) (tb a) w) H locs := by exact Bd_eq (mwQ3x rfl _) (by rw [hw9] at hB; exact hB)
                    obtain rfl : x215 = 1 := hf217.trans (by decide)
                    refine W.eq (g2 := F0 m 115 ls [.int 1]) rfl ?_
                    refine lv_if_eq (tgt := 120) hx hb dX10_told__115 (by decide) (fun c218 => False.elim (by revert c218; decide)) (fun _ => ?_)
                    refine lv_iconst (v := 0) hx hb dX10_told__118 (by decide) ?_
                    rw [← hQ]
                    exact end_i hX hB hA3 rfl rfl ⟨0, (va_up (va_up q 3 t11) 3 t216), rfl, rfl, rfl⟩ (Nat.le_of_ble_eq_true rfl) (Nat.le_of_ble_eq_true rfl) dX10_told__119
      · refine lv_iload_n hx hb dX10_told__54 rfl (lv_at hl 4 rfl) ?_
        refine lv_iconst (v := 3) hx hb dX10_told__55 (by decide) ?_
        refine lv_icmp_ne (tgt := 67) hx hb dX10_told__56 (by decide) (fun c219 => ?_) (fun c219 => ?_)
        · refine lv_aload hx hb dX10_told__67 (lv_at hl 1 rfl) ?_
          refine gf (k0 := 2 + 2 * y.toNatClampNeg) hX hB (mwG (i := y.toNatClampNeg) (a := a) (r := r) (f := f) (q := (va_up q 3 t11)) (T := tb a) (w := w) (by omega)) rfl in7 1 (by decide) wm_5_152 rfl rfl dX10_told__69 ?_
          refine lv_istore (lv' := [(7, .int (nI (r (2 * y.toNatClampNeg + 1)))), (6, .int (nI (r (2 * y.toNatClampNeg + 1)))), (5, .ref (a (2 + 2 * y.toNatClampNeg))), (0, .ref (a 0)), (1, .int y), (2, .int z), (3, .int u), (4, .int v)]) hx hb dX10_told__72 hl (by decide) rfl (fun ls hl => ?_)
          refine lv_aload_n hx hb dX10_told__74 rfl (lv_at hl 3 rfl) ?_
          refine lv_iconst (v := 0) hx hb dX10_told__75 (by decide) ?_
          refine lv_iload_n hx hb dX10_told__76 rfl (lv_at hl 5 rfl) ?_
          refine lv_if_lt (tgt := 107) hx hb dX10_told__77 (by decide) (fun c220 => ?_) (fun c220 => ?_)
          · refine lv_iconst (v := 1) hx hb dX10_told__107 (by decide) ?_
            refine lv_goto (tgt := 112) hx hb dX10_told__108 (by decide) ?_
            refine call_V (n := 2) (k0 := 0) (As := [.int 0, .int 1]) (rest := []) hX hB (k_X10_isThrown_ κ l (mw κ a r f (va_up q 3 t11) (tb a) w) 0 (a 0) (a 1) ((va_up q 3 t11) 0) ((va_up q 3 t11) 1) ((va_up q 3 t11) 2) ((va_up q 3 t11) 3) 0 1 (mw0x (a := a) (r := r) (f := f) (q := (va_up q 3 t11)) (T := tb a) (w := w) rfl)) ⟨rfl, by decide, by decide, by decide +kernel⟩ wm_5_188 wm_5_190 wp_27 wm_1_6 wm_5_191 ⟨Nat.le_of_ble_eq_true rfl, Nat.le_of_ble_eq_true rfl⟩ ⟨Nat.le_of_ble_eq_true rfl, Nat.le_of_ble_eq_true rfl⟩ (mw0x (a := a) (r := r) (f := f) (q := (va_up q 3 t11)) (T := tb a) (w := w) rfl) rfl rfl rfl hl.1 rfl (Nat.le_of_ble_eq_true rfl) dX10_told__112 (fun o w' H locs hp hB => ?_)
            obtain ⟨x221, t222, rfl, hf223, hw9⟩ := hp
            replace hB : Bd κ A s (mw κ a r f (va_up (va_up q 3 t11) 3 t222) (tb a) w) H locs := by exact Bd_eq (mwQ3x rfl _) (by rw [hw9] at hB; exact hB)
            obtain rfl : x221 = 1 := hf223.trans (by decide)
            refine W.eq (g2 := F0 m 115 ls [.int 1]) rfl ?_
            refine lv_if_eq (tgt := 120) hx hb dX10_told__115 (by decide) (fun c224 => False.elim (by revert c224; decide)) (fun _ => ?_)
            refine lv_iconst (v := 0) hx hb dX10_told__118 (by decide) ?_
            rw [← hQ]
            exact end_i hX hB hA3 rfl rfl ⟨0, (va_up (va_up q 3 t11) 3 t222), rfl, rfl, rfl⟩ (Nat.le_of_ble_eq_true rfl) (Nat.le_of_ble_eq_true rfl) dX10_told__119
          · refine lv_iload_n hx hb dX10_told__80 rfl (lv_at hl 5 rfl) ?_
            refine lv_iconst (v := 4) hx hb dX10_told__81 (by decide) ?_
            refine lv_icmp_gt (tgt := 107) hx hb dX10_told__82 (by decide) (fun c225 => ?_) (fun c225 => ?_)
            · refine lv_iconst (v := 1) hx hb dX10_told__107 (by decide) ?_
              refine lv_goto (tgt := 112) hx hb dX10_told__108 (by decide) ?_
              refine call_V (n := 2) (k0 := 0) (As := [.int 0, .int 1]) (rest := []) hX hB (k_X10_isThrown_ κ l (mw κ a r f (va_up q 3 t11) (tb a) w) 0 (a 0) (a 1) ((va_up q 3 t11) 0) ((va_up q 3 t11) 1) ((va_up q 3 t11) 2) ((va_up q 3 t11) 3) 0 1 (mw0x (a := a) (r := r) (f := f) (q := (va_up q 3 t11)) (T := tb a) (w := w) rfl)) ⟨rfl, by decide, by decide, by decide +kernel⟩ wm_5_188 wm_5_190 wp_27 wm_1_6 wm_5_191 ⟨Nat.le_of_ble_eq_true rfl, Nat.le_of_ble_eq_true rfl⟩ ⟨Nat.le_of_ble_eq_true rfl, Nat.le_of_ble_eq_true rfl⟩ (mw0x (a := a) (r := r) (f := f) (q := (va_up q 3 t11)) (T := tb a) (w := w) rfl) rfl rfl rfl hl.1 rfl (Nat.le_of_ble_eq_true rfl) dX10_told__112 (fun o w' H locs hp hB => ?_)
              obtain ⟨x226, t227, rfl, hf228, hw9⟩ := hp
              replace hB : Bd κ A s (mw κ a r f (va_up (va_up q 3 t11) 3 t227) (tb a) w) H locs := by exact Bd_eq (mwQ3x rfl _) (by rw [hw9] at hB; exact hB)
              obtain rfl : x226 = 1 := hf228.trans (by decide)
              refine W.eq (g2 := F0 m 115 ls [.int 1]) rfl ?_
              refine lv_if_eq (tgt := 120) hx hb dX10_told__115 (by decide) (fun c229 => False.elim (by revert c229; decide)) (fun _ => ?_)
              refine lv_iconst (v := 0) hx hb dX10_told__118 (by decide) ?_
              rw [← hQ]
              exact end_i hX hB hA3 rfl rfl ⟨0, (va_up (va_up q 3 t11) 3 t227), rfl, rfl, rfl⟩ (Nat.le_of_ble_eq_true rfl) (Nat.le_of_ble_eq_true rfl) dX10_told__119
            · refine lv_iload_n hx hb dX10_told__85 rfl (lv_at hl 6 rfl) ?_
              refine lv_if_lt (tgt := 107) hx hb dX10_told__86 (by decide) (fun c230 => ?_) (fun c230 => ?_)
              · refine lv_iconst (v := 1) hx hb dX10_told__107 (by decide) ?_
                refine lv_goto (tgt := 112) hx hb dX10_told__108 (by decide) ?_
                refine call_V (n := 2) (k0 := 0) (As := [.int 0, .int 1]) (rest := []) hX hB (k_X10_isThrown_ κ l (mw κ a r f (va_up q 3 t11) (tb a) w) 0 (a 0) (a 1) ((va_up q 3 t11) 0) ((va_up q 3 t11) 1) ((va_up q 3 t11) 2) ((va_up q 3 t11) 3) 0 1 (mw0x (a := a) (r := r) (f := f) (q := (va_up q 3 t11)) (T := tb a) (w := w) rfl)) ⟨rfl, by decide, by decide, by decide +kernel⟩ wm_5_188 wm_5_190 wp_27 wm_1_6 wm_5_191 ⟨Nat.le_of_ble_eq_true rfl, Nat.le_of_ble_eq_true rfl⟩ ⟨Nat.le_of_ble_eq_true rfl, Nat.le_of_ble_eq_true rfl⟩ (mw0x (a := a) (r := r) (f := f) (q := (va_up q 3 t11)) (T := tb a) (w := w) rfl) rfl rfl rfl hl.1 rfl (Nat.le_of_ble_eq_true rfl) dX10_told__112 (fun o w' H locs hp hB => ?_)
                obtain ⟨x231, t232, rfl, hf233, hw9⟩ := hp
                replace hB : Bd κ A s (mw κ a r f (va_up (va_up q 3 t11) 3 t232) (tb a) w) H locs := by exact Bd_eq (mwQ3x rfl _) (by rw [hw9] at hB; exact hB)
                obtain rfl : x231 = 1 := hf233.trans (by decide)
                refine W.eq (g2 := F0 m 115 ls [.int 1]) rfl ?_
                refine lv_if_eq (tgt := 120) hx hb dX10_told__115 (by decide) (fun c234 => False.elim (by revert c234; decide)) (fun _ => ?_)
                refine lv_iconst (v := 0) hx hb dX10_told__118 (by decide) ?_
                rw [← hQ]
                exact end_i hX hB hA3 rfl rfl ⟨0, (va_up (va_up q 3 t11) 3 t232), rfl, rfl, rfl⟩ (Nat.le_of_ble_eq_true rfl) (Nat.le_of_ble_eq_true rfl) dX10_told__119
              · refine lv_iload_n hx hb dX10_told__89 rfl (lv_at hl 6 rfl) ?_
                refine lv_iload hx hb dX10_told__90 (lv_at hl 1 rfl) ?_
                refine lv_icmp_ge (tgt := 107) hx hb dX10_told__92 (by decide) (fun c236 => ?_) (fun c236 => ?_)
                · refine lv_iconst (v := 1) hx hb dX10_told__107 (by decide) ?_
                  refine lv_goto (tgt := 112) hx hb dX10_told__108 (by decide) ?_
                  refine call_V (n := 2) (k0 := 0) (As := [.int 0, .int 1]) (rest := []) hX hB (k_X10_isThrown_ κ l (mw κ a r f (va_up q 3 t11) (tb a) w) 0 (a 0) (a 1) ((va_up q 3 t11) 0) ((va_up q 3 t11) 1) ((va_up q 3 t11) 2) ((va_up q 3 t11) 3) 0 1 (mw0x (a := a) (r := r) (f := f) (q := (va_up q 3 t11)) (T := tb a) (w := w) rfl)) ⟨rfl, by decide, by decide, by decide +kernel⟩ wm_5_188 wm_5_190 wp_27 wm_1_6 wm_5_191 ⟨Nat.le_of_ble_eq_true rfl, Nat.le_of_ble_eq_true rfl⟩ ⟨Nat.le_of_ble_eq_true rfl, Nat.le_of_ble_eq_true rfl⟩ (mw0x (a := a) (r := r) (f := f) (q := (va_up q 3 t11)) (T := tb a) (w := w) rfl) rfl rfl rfl hl.1 rfl (Nat.le_of_ble_eq_true rfl) dX10_told__112 (fun o w' H locs hp hB => ?_)
                  obtain ⟨x237, t238, rfl, hf239, hw9⟩ := hp
                  replace hB : Bd κ A s (mw κ a r f (va_up (va_up q 3 t11) 3 t238) (tb a) w) H locs := by exact Bd_eq (mwQ3x rfl _) (by rw [hw9] at hB; exact hB)
                  obtain rfl : x237 = 1 := hf239.trans (by decide)
                  refine W.eq (g2 := F0 m 115 ls [.int 1]) rfl ?_
                  refine lv_if_eq (tgt := 120) hx hb dX10_told__115 (by decide) (fun c240 => False.elim (by revert c240; decide)) (fun _ => ?_)
                  refine lv_iconst (v := 0) hx hb dX10_told__118 (by decide) ?_
                  rw [← hQ]
                  exact end_i hX hB hA3 rfl rfl ⟨0, (va_up (va_up q 3 t11) 3 t238), rfl, rfl, rfl⟩ (Nat.le_of_ble_eq_true rfl) (Nat.le_of_ble_eq_true rfl) dX10_told__119
                · have hq235 := nlt_of (x := u) (n := r (2 * y.toNatClampNeg + 1)) c230 (by omega) c236
                  refine lv_iload hx hb dX10_told__95 (lv_at hl 7 rfl) ?_
                  refine lv_if_lt (tgt := 107) hx hb dX10_told__97 (by decide) (fun c241 => ?_) (fun c241 => ?_)
                  · refine lv_iconst (v := 1) hx hb dX10_told__107 (by decide) ?_
                    refine lv_goto (tgt := 112) hx hb dX10_told__108 (by decide) ?_
                    refine call_V (n := 2) (k0 := 0) (As := [.int 0, .int 1]) (rest := []) hX hB (k_X10_isThrown_ κ l (mw κ a r f (va_up q 3 t11) (tb a) w) 0 (a 0) (a 1) ((va_up q 3 t11) 0) ((va_up q 3 t11) 1) ((va_up q 3 t11) 2) ((va_up q 3 t11) 3) 0 1 (mw0x (a := a) (r := r) (f := f) (q := (va_up q 3 t11)) (T := tb a) (w := w) rfl)) ⟨rfl, by decide, by decide, by decide +kernel⟩ wm_5_188 wm_5_190 wp_27 wm_1_6 wm_5_191 ⟨Nat.le_of_ble_eq_true rfl, Nat.le_of_ble_eq_true rfl⟩ ⟨Nat.le_of_ble_eq_true rfl, Nat.le_of_ble_eq_true rfl⟩ (mw0x (a := a) (r := r) (f := f) (q := (va_up q 3 t11)) (T := tb a) (w := w) rfl) rfl rfl rfl hl.1 rfl (Nat.le_of_ble_eq_true rfl) dX10_told__112 (fun o w' H locs hp hB => ?_)
                    obtain ⟨x242, t243, rfl, hf244, hw9⟩ := hp
                    replace hB : Bd κ A s (mw κ a r f (va_up (va_up q 3 t11) 3 t243) (tb a) w) H locs := by exact Bd_eq (mwQ3x rfl _) (by rw [hw9] at hB; exact hB)
                    obtain rfl : x242 = 1 := hf244.trans (by decide)
                    refine W.eq (g2 := F0 m 115 ls [.int 1]) rfl ?_
                    refine lv_if_eq (tgt := 120) hx hb dX10_told__115 (by decide) (fun c245 => False.elim (by revert c245; decide)) (fun _ => ?_)
                    refine lv_iconst (v := 0) hx hb dX10_told__118 (by decide) ?_
                    rw [← hQ]
                    exact end_i hX hB hA3 rfl rfl ⟨0, (va_up (va_up q 3 t11) 3 t243), rfl, rfl, rfl⟩ (Nat.le_of_ble_eq_true rfl) (Nat.le_of_ble_eq_true rfl) dX10_told__119
                  · refine lv_iload hx hb dX10_told__100 (lv_at hl 7 rfl) ?_
                    refine lv_iload hx hb dX10_told__102 (lv_at hl 0 rfl) ?_
                    refine lv_icmp_lt (tgt := 111) hx hb dX10_told__104 (by decide) (fun c247 => ?_) (fun c247 => ?_)
                    · have hq246 := nlt_of (x := v) (n := r (2 * y.toNatClampNeg + 1)) c241 (by omega) (Int32.not_le.mpr c247)
                      refine lv_iconst (v := 0) hx hb dX10_told__111 (by decide) ?_
                      refine call_V (n := 2) (k0 := 0) (As := [.int 0, .int 0]) (rest := []) hX hB (k_X10_isThrown_ κ l (mw κ a r f (va_up q 3 t11) (tb a) w) 0 (a 0) (a 1) ((va_up q 3 t11) 0) ((va_up q 3 t11) 1) ((va_up q 3 t11) 2) ((va_up q 3 t11) 3) 0 0 (mw0x (a := a) (r := r) (f := f) (q := (va_up q 3 t11)) (T := tb a) (w := w) rfl)) ⟨rfl, by decide, by decide, by decide +kernel⟩ wm_5_188 wm_5_190 wp_27 wm_1_6 wm_5_191 ⟨Nat.le_of_ble_eq_true rfl, Nat.le_of_ble_eq_true rfl⟩ ⟨Nat.le_of_ble_eq_true rfl, Nat.le_of_ble_eq_true rfl⟩ (mw0x (a := a) (r := r) (f := f) (q := (va_up q 3 t11)) (T := tb a) (w := w) rfl) rfl rfl rfl hl.1 rfl (Nat.le_of_ble_eq_true rfl) dX10_told__112 (fun o w' H locs hp hB => ?_)
                      obtain ⟨x248, t249, rfl, hf250, hw9⟩ := hp
                      replace hB : Bd κ A s (mw κ a r f (va_up (va_up q 3 t11) 3 t249) (tb a) w) H locs := by exact Bd_eq (mwQ3x rfl _) (by rw [hw9] at hB; exact hB)
                      obtain rfl : x248 = 0 := hf250.trans (by decide)
                      refine W.eq (g2 := F0 m 115 ls [.int 0]) rfl ?_
                      refine lv_if_eq (tgt := 120) hx hb dX10_told__115 (by decide) (fun _ => ?_) (fun c251 => False.elim (by revert c251; decide))
                      refine lv_aload hx hb dX10_told__120 (lv_at hl 2 rfl) ?_
                      refine lv_iload_n hx hb dX10_told__122 rfl (lv_at hl 5 rfl) ?_
                      refine call_S (n := 2) (As := [.ref (a (2 + 2 * y.toNatClampNeg)), .int z]) (rest := []) hX hB (k_X10_toldOf κ l (mw κ a r f (va_up (va_up q 3 t11) 3 t249) (tb a) w) (2 + 2 * y.toNatClampNeg) (3 + 2 * y.toNatClampNeg) (a (2 + 2 * y.toNatClampNeg)) (a (3 + 2 * y.toNatClampNeg)) (r (2 * y.toNatClampNeg)) (r (2 * y.toNatClampNeg + 1)) (f y.toNatClampNeg) z (mwG (i := y.toNatClampNeg) (a := a) (r := r) (f := f) (q := (va_up (va_up q 3 t11) 3 t249)) (T := tb a) (w := w) (by omega)) (mwA (i := y.toNatClampNeg) (a := a) (r := r) (f := f) (q := (va_up (va_up q 3 t11) 3 t249)) (T := tb a) (w := w) (by omega)) (mok_shp (i := y.toNatClampNeg) hm (by omega)) (by omega) (fun k hk => sm_ng ((hm _ (by omega)).2 k hk)) ⟨by assumption, by first | assumption | exact Int32.not_lt.mp (by assumption)⟩) ⟨by decide, by decide, by decide +kernel⟩ wm_6_120 wm_6_121 wm_1_6 wm_6_122 ⟨Nat.le_of_ble_eq_true rfl, Nat.le_of_ble_eq_true rfl⟩ ⟨Nat.le_of_ble_eq_true rfl, Nat.le_of_ble_eq_true rfl⟩ rfl hl.1 rfl (Nat.le_of_ble_eq_true rfl) dX10_told__123 (fun o w' H locs hp hB => ?_)
                      rcases hp with ⟨rfl, hw9⟩ | ⟨q252, q253, R254, C255, F256, rfl, ⟨⟨hd257a, hd257b, hd257c, hd257d⟩, hd257t⟩, hw9⟩
                      · replace hB : Bd κ A s (mw κ a r f (va_up (va_up q 3 t11) 3 t249) (tb a) w) H locs := by rw [hw9] at hB; exact hB
                        refine W.eq (g2 := F0 m 126 ls [.null]) rfl ?_
                        refine lv_astoreN (lv' := [(8, .null), (7, .int (nI (r (2 * y.toNatClampNeg + 1)))), (6, .int (nI (r (2 * y.toNatClampNeg + 1)))), (5, .ref (a (2 + 2 * y.toNatClampNeg))), (0, .ref (a 0)), (1, .int y), (2, .int z), (3, .int u), (4, .int v)]) hx hb dX10_told__126 hl (by decide) rfl (fun ls hl => ?_)
                        refine lv_aload_n hx hb dX10_told__128 rfl (lv_at hl 4 rfl) ?_
                        refine lv_iconst (v := 0) hx hb dX10_told__129 (by decide) ?_
                        refine lv_iconst (v := 0) hx hb dX10_told__130 (by decide) ?_
                        refine lv_aloadN hx hb dX10_told__131 (lv_at hl 0 rfl) ?_
                        refine lv_ifnonnullN hx hb dX10_told__133 ?_
                        refine lv_iconst (v := 1) hx hb dX10_told__136 (by decide) ?_
                        refine lv_goto (tgt := 141) hx hb dX10_told__137 (by decide) ?_
                        refine call_V (n := 3) (k0 := 0) (As := [.int 0, .int 0, .int 1]) (rest := []) hX hB (k_X10_isThrown κ l (mw κ a r f (va_up (va_up q 3 t11) 3 t249) (tb a) w) 0 (a 0) (a 1) ((va_up (va_up q 3 t11) 3 t249) 0) ((va_up (va_up q 3 t11) 3 t249) 1) ((va_up (va_up q 3 t11) 3 t249) 2) ((va_up (va_up q 3 t11) 3 t249) 3) 0 0 1 (mw0x (a := a) (r := r) (f := f) (q := (va_up (va_up q 3 t11) 3 t249)) (T := tb a) (w := w) rfl)) ⟨rfl, by decide, by decide, by decide +kernel⟩ wm_5_192 wm_5_194 wp_28 wm_1_6 wm_5_195 ⟨Nat.le_of_ble_eq_true rfl, Nat.le_of_ble_eq_true rfl⟩ ⟨Nat.le_of_ble_eq_true rfl, Nat.le_of_ble_eq_true rfl⟩ (mw0x (a := a) (r := r) (f := f) (q := (va_up (va_up q 3 t11) 3 t249)) (T := tb a) (w := w) rfl) rfl rfl rfl hl.1 rfl (Nat.le_of_ble_eq_true rfl) dX10_told__141 (fun o w' H locs hp hB => ?_)
                        obtain ⟨x258, t259, rfl, hf260, hw9⟩ := hp
                        replace hB : Bd κ A s (mw κ a r f (va_up (va_up (va_up q 3 t11) 3 t249) 3 t259) (tb a) w) H locs := by exact Bd_eq (mwQ3x rfl _) (by rw [hw9] at hB; exact hB)
                        obtain rfl : x258 = 1 := hf260.trans (by decide)
                        refine W.eq (g2 := F0 m 144 ls [.int 1]) rfl ?_
                        refine lv_if_eq (tgt := 151) hx hb dX10_told__144 (by decide) (fun c261 => False.elim (by revert c261; decide)) (fun _ => ?_)
                        refine lv_iconst (v := 0) hx hb dX10_told__147 (by decide) ?_
                        refine lv_goto (tgt := 160) hx hb dX10_told__148 (by decide) ?_
                        rw [← hQ]
                        exact end_i hX hB hA3 rfl rfl ⟨0, (va_up (va_up (va_up q 3 t11) 3 t249) 3 t259), rfl, rfl, rfl⟩ (Nat.le_of_ble_eq_true rfl) (Nat.le_of_ble_eq_true rfl) dX10_told__160
                      · replace hB : Bd κ A s (lA κ q253 (R254 * 5) F256 :: gO q252 R254 C255 q253 :: mw κ a r f (va_up (va_up q 3 t11) 3 t249) (tb a) w) H locs := by rw [hw9] at hB; exact hB
                        refine W.eq (g2 := F0 m 126 ls [.ref q252]) rfl ?_
                        refine lv_astore (lv' := [(8, .ref q252), (7, .int (nI (r (2 * y.toNatClampNeg + 1)))), (6, .int (nI (r (2 * y.toNatClampNeg + 1)))), (5, .ref (a (2 + 2 * y.toNatClampNeg))), (0, .ref (a 0)), (1, .int y), (2, .int z), (3, .int u), (4, .int v)]) hx hb dX10_told__126 hl (by decide) rfl (fun ls hl => ?_)
                        refine lv_aload_n hx hb dX10_told__128 rfl (lv_at hl 4 rfl) ?_
                        refine lv_iconst (v := 0) hx hb dX10_told__129 (by decide) ?_
                        refine lv_iconst (v := 0) hx hb dX10_told__130 (by decide) ?_
                        refine lv_aload hx hb dX10_told__131 (lv_at hl 0 rfl) ?_
                        refine lv_ifnonnull (tgt := 140) hx hb dX10_told__133 (by decide) ?_
                        refine lv_iconst (v := 0) hx hb dX10_told__140 (by decide) ?_
                        refine call_V (n := 3) (k0 := 2) (As := [.int 0, .int 0, .int 0]) (rest := []) hX hB (k_X10_isThrown κ l (lA κ q253 (R254 * 5) F256 :: gO q252 R254 C255 q253 :: mw κ a r f (va_up (va_up q 3 t11) 3 t249) (tb a) w) 2 (a 0) (a 1) ((va_up (va_up q 3 t11) 3 t249) 0) ((va_up (va_up q 3 t11) 3 t249) 1) ((va_up (va_up q 3 t11) 3 t249) 2) ((va_up (va_up q 3 t11) 3 t249) 3) 0 0 0 (mw0x (a := a) (r := r) (f := f) (q := (va_up (va_up q 3 t11) 3 t249)) (T := tb a) (w := w) rfl)) ⟨rfl, by decide, by decide, by decide +kernel⟩ wm_5_192 wm_5_194 wp_28 wm_1_6 wm_5_195 ⟨Nat.le_of_ble_eq_true rfl, Nat.le_of_ble_eq_true rfl⟩ ⟨Nat.le_of_ble_eq_true rfl, Nat.le_of_ble_eq_true rfl⟩ (mw0x (a := a) (r := r) (f := f) (q := (va_up (va_up q 3 t11) 3 t249)) (T := tb a) (w := w) rfl) rfl rfl rfl hl.1 rfl (Nat.le_of_ble_eq_true rfl) dX10_told__141 (fun o w' H locs hp hB => ?_)
                        obtain ⟨x262, t263, rfl, hf264, hw9⟩ := hp
                        replace hB : Bd κ A s (lA κ q253 (R254 * 5) F256 :: gO q252 R254 C255 q253 :: mw κ a r f (va_up (va_up (va_up q 3 t11) 3 t249) 3 t263) (tb a) w) H locs := by exact Bd_eq (congrArg (List.cons _) (congrArg (List.cons _) (mwQ3x rfl _))) (by rw [hw9] at hB; exact hB)
                        obtain rfl : x262 = 0 := hf264.trans (by decide)
                        refine W.eq (g2 := F0 m 144 ls [.int 0]) rfl ?_
                        refine lv_if_eq (tgt := 151) hx hb dX10_told__144 (by decide) (fun _ => ?_) (fun c265 => False.elim (by revert c265; decide))
                        have hT1 : R254 = r (2 * y.toNatClampNeg + 1) := by first | exact hd257t.1 (by assumption) | exact hd257t.2.1 (by assumption)
                        have hT2 : C255 = r (2 * y.toNatClampNeg + 1) := by first | exact hd257t.2.2.1 (by assumption) | exact hd257t.2.2.2.1 (by assumption) | exact hd257t.2.2.2.2 (by assumption) (by assumption)
                        refine lv_aload hx hb dX10_told__151 (lv_at hl 0 rfl) ?_
                        refine lv_iload_n hx hb dX10_told__153 rfl (lv_at hl 7 rfl) ?_
                        refine lv_iload hx hb dX10_told__154 (lv_at hl 8 rfl) ?_
                        refine call_V (n := 2) (k0 := 1) (As := [.int u, .int v]) (rest := []) hX hB (k_X7_at κ l (lA κ q253 (R254 * 5) F256 :: gO q252 R254 C255 q253 :: mw κ a r f (va_up (va_up (va_up q 3 t11) 3 t249) 3 t263) (tb a) w) 1 0 q252 q253 R254 C255 F256 u ((u).toNatClampNeg) v ((v).toNatClampNeg) rfl rfl ⟨by omega, by omega, by omega, by omega⟩ (nI_rep (Int32.not_lt.mp (by assumption))) (nI_rep (Int32.not_lt.mp (by assumption))) (by omega)) ⟨rfl, by decide, by decide, by decide +kernel⟩ wm_5_233 wm_5_234 wm_5_235 wm_1_7 wm_5_236 ⟨Nat.le_of_ble_eq_true rfl, Nat.le_of_ble_eq_true rfl⟩ ⟨Nat.le_of_ble_eq_true rfl, Nat.le_of_ble_eq_true rfl⟩ rfl rfl rfl rfl hl.1 rfl (Nat.le_of_ble_eq_true rfl) dX10_told__156 (fun o w' H locs hp hB => ?_)
                        obtain ⟨rfl, hw9⟩ := hp
                        replace hB : Bd κ A s (lA κ q253 (R254 * 5) F256 :: gO q252 R254 C255 q253 :: mw κ a r f (va_up (va_up (va_up q 3 t11) 3 t249) 3 t263) (tb a) w) H locs := by rw [hw9] at hB; exact hB
                        refine W.eq (g2 := F0 m 159 ls [.long (F256 (((u).toNatClampNeg) * 5 + ((v).toNatClampNeg)))]) rfl ?_
                        refine lv_l2i hx hb dX10_told__159 rfl ?_
                        replace hB : Bd κ A s (lA κ q253 (R254 * 5) F256 :: mw κ a r f (va_up (va_up (va_up q 3 t11) 3 t249) 3 t263) (tb a) w) H locs := Bd_del 1 hB
                        replace hB : Bd κ A s (mw κ a r f (va_up (va_up (va_up q 3 t11) 3 t249) 3 t263) (tb a) w) H locs := Bd_del 0 hB
                        rw [← hQ]
                        exact end_i hX hB hA3 rfl rfl ⟨(((F256 (((u).toNatClampNeg) * 5 + ((v).toNatClampNeg)))).toInt32), (va_up (va_up (va_up q 3 t11) 3 t249) 3 t263), rfl, rfl, rfl⟩ (Nat.le_of_ble_eq_true rfl) (Nat.le_of_ble_eq_true rfl) dX10_told__160
                    · refine lv_iconst (v := 1) hx hb dX10_told__107 (by decide) ?_
                      refine lv_goto (tgt := 112) hx hb dX10_told__108 (by decide) ?_
                      refine call_V (n := 2) (k0 := 0) (As := [.int 0, .int 1]) (rest := []) hX hB (k_X10_isThrown_ κ l (mw κ a r f (va_up q 3 t11) (tb a) w) 0 (a 0) (a 1) ((va_up q 3 t11) 0) ((va_up q 3 t11) 1) ((va_up q 3 t11) 2) ((va_up q 3 t11) 3) 0 1 (mw0x (a := a) (r := r) (f := f) (q := (va_up q 3 t11)) (T := tb a) (w := w) rfl)) ⟨rfl, by decide, by decide, by decide +kernel⟩ wm_5_188 wm_5_190 wp_27 wm_1_6 wm_5_191 ⟨Nat.le_of_ble_eq_true rfl, Nat.le_of_ble_eq_true rfl⟩ ⟨Nat.le_of_ble_eq_true rfl, Nat.le_of_ble_eq_true rfl⟩ (mw0x (a := a) (r := r) (f := f) (q := (va_up q 3 t11)) (T := tb a) (w := w) rfl) rfl rfl rfl hl.1 rfl (Nat.le_of_ble_eq_true rfl) dX10_told__112 (fun o w' H locs hp hB => ?_)
                      obtain ⟨x266, t267, rfl, hf268, hw9⟩ := hp
                      replace hB : Bd κ A s (mw κ a r f (va_up (va_up q 3 t11) 3 t267) (tb a) w) H locs := by exact Bd_eq (mwQ3x rfl _) (by rw [hw9] at hB; exact hB)
                      obtain rfl : x266 = 1 := hf268.trans (by decide)
                      refine W.eq (g2 := F0 m 115 ls [.int 1]) rfl ?_
                      refine lv_if_eq (tgt := 120) hx hb dX10_told__115 (by decide) (fun c269 => False.elim (by revert c269; decide)) (fun _ => ?_)
                      refine lv_iconst (v := 0) hx hb dX10_told__118 (by decide) ?_
                      rw [← hQ]
                      exact end_i hX hB hA3 rfl rfl ⟨0, (va_up (va_up q 3 t11) 3 t267), rfl, rfl, rfl⟩ (Nat.le_of_ble_eq_true rfl) (Nat.le_of_ble_eq_true rfl) dX10_told__119
        · refine lv_aload hx hb dX10_told__59 (lv_at hl 1 rfl) ?_
          refine gf (k0 := 2 + 2 * y.toNatClampNeg) hX hB (mwG (i := y.toNatClampNeg) (a := a) (r := r) (f := f) (q := (va_up q 3 t11)) (T := tb a) (w := w) (by omega)) rfl in7 0 (by decide) wm_5_148 rfl rfl dX10_told__61 ?_
          refine lv_goto (tgt := 72) hx hb dX10_told__64 (by decide) ?_
          refine lv_istore (lv' := [(7, .int (nI (r (2 * y.toNatClampNeg)))), (6, .int (nI (r (2 * y.toNatClampNeg + 1)))), (5, .ref (a (2 + 2 * y.toNatClampNeg))), (0, .ref (a 0)), (1, .int y), (2, .int z), (3, .int u), (4, .int v)]) hx hb dX10_told__72 hl (by decide) rfl (fun ls hl => ?_)
          refine lv_aload_n hx hb dX10_told__74 rfl (lv_at hl 3 rfl) ?_
          refine lv_iconst (v := 0) hx hb dX10_told__75 (by decide) ?_
          refine lv_iload_n hx hb dX10_told__76 rfl (lv_at hl 5 rfl) ?_
          refine lv_if_lt (tgt := 107) hx hb dX10_told__77 (by decide) (fun c270 => ?_) (fun c270 => ?_)
          · refine lv_iconst (v := 1) hx hb dX10_told__107 (by decide) ?_
            refine lv_goto (tgt := 112) hx hb dX10_told__108 (by decide) ?_
            refine call_V (n := 2) (k0 := 0) (As := [.int 0, .int 1]) (rest := []) hX hB (k_X10_isThrown_ κ l (mw κ a r f (va_up q 3 t11) (tb a) w) 0 (a 0) (a 1) ((va_up q 3 t11) 0) ((va_up q 3 t11) 1) ((va_up q 3 t11) 2) ((va_up q 3 t11) 3) 0 1 (mw0x (a := a) (r := r) (f := f) (q := (va_up q 3 t11)) (T := tb a) (w := w) rfl)) ⟨rfl, by decide, by decide, by decide +kernel⟩ wm_5_188 wm_5_190 wp_27 wm_1_6 wm_5_191 ⟨Nat.le_of_ble_eq_true rfl, Nat.le_of_ble_eq_true rfl⟩ ⟨Nat.le_of_ble_eq_true rfl, Nat.le_of_ble_eq_true rfl⟩ (mw0x (a := a) (r := r) (f := f) (q := (va_up q 3 t11)) (T := tb a) (w := w) rfl) rfl rfl rfl hl.1 rfl (Nat.le_of_ble_eq_true rfl) dX10_told__112 (fun o w' H locs hp hB => ?_)
            obtain ⟨x271, t272, rfl, hf273, hw9⟩ := hp
            replace hB : Bd κ A s (mw κ a r f (va_up (va_up q 3 t11) 3 t272) (tb a) w) H locs := by exact Bd_eq (mwQ3x rfl _) (by rw [hw9] at hB; exact hB)
            obtain rfl : x271 = 1 := hf273.trans (by decide)
            refine W.eq (g2 := F0 m 115 ls [.int 1]) rfl ?_
            refine lv_if_eq (tgt := 120) hx hb dX10_told__115 (by decide) (fun c274 => False.elim (by revert c274; decide)) (fun _ => ?_)
            refine lv_iconst (v := 0) hx hb dX10_told__118 (by decide) ?_
            rw [← hQ]
            exact end_i hX hB hA3 rfl rfl ⟨0, (va_up (va_up q 3 t11) 3 t272), rfl, rfl, rfl⟩ (Nat.le_of_ble_eq_true rfl) (Nat.le_of_ble_eq_true rfl) dX10_told__119
          · refine lv_iload_n hx hb dX10_told__80 rfl (lv_at hl 5 rfl) ?_
            refine lv_iconst (v := 4) hx hb dX10_told__81 (by decide) ?_
            refine lv_icmp_gt (tgt := 107) hx hb dX10_told__82 (by decide) (fun c275 => ?_) (fun c275 => ?_)
            · refine lv_iconst (v := 1) hx hb dX10_told__107 (by decide) ?_
              refine lv_goto (tgt := 112) hx hb dX10_told__108 (by decide) ?_
              refine call_V (n := 2) (k0 := 0) (As := [.int 0, .int 1]) (rest := []) hX hB (k_X10_isThrown_ κ l (mw κ a r f (va_up q 3 t11) (tb a) w) 0 (a 0) (a 1) ((va_up q 3 t11) 0) ((va_up q 3 t11) 1) ((va_up q 3 t11) 2) ((va_up q 3 t11) 3) 0 1 (mw0x (a := a) (r := r) (f := f) (q := (va_up q 3 t11)) (T := tb a) (w := w) rfl)) ⟨rfl, by decide, by decide, by decide +kernel⟩ wm_5_188 wm_5_190 wp_27 wm_1_6 wm_5_191 ⟨Nat.le_of_ble_eq_true rfl, Nat.le_of_ble_eq_true rfl⟩ ⟨Nat.le_of_ble_eq_true rfl, Nat.le_of_ble_eq_true rfl⟩ (mw0x (a := a) (r := r) (f := f) (q := (va_up q 3 t11)) (T := tb a) (w := w) rfl) rfl rfl rfl hl.1 rfl (Nat.le_of_ble_eq_true rfl) dX10_told__112 (fun o w' H locs hp hB => ?_)
              obtain ⟨x276, t277, rfl, hf278, hw9⟩ := hp
              replace hB : Bd κ A s (mw κ a r f (va_up (va_up q 3 t11) 3 t277) (tb a) w) H locs := by exact Bd_eq (mwQ3x rfl _) (by rw [hw9] at hB; exact hB)
              obtain rfl : x276 = 1 := hf278.trans (by decide)
              refine W.eq (g2 := F0 m 115 ls [.int 1]) rfl ?_
              refine lv_if_eq (tgt := 120) hx hb dX10_told__115 (by decide) (fun c279 => False.elim (by revert c279; decide)) (fun _ => ?_)
              refine lv_iconst (v := 0) hx hb dX10_told__118 (by decide) ?_
              rw [← hQ]
              exact end_i hX hB hA3 rfl rfl ⟨0, (va_up (va_up q 3 t11) 3 t277), rfl, rfl, rfl⟩ (Nat.le_of_ble_eq_true rfl) (Nat.le_of_ble_eq_true rfl) dX10_told__119
            · refine lv_iload_n hx hb dX10_told__85 rfl (lv_at hl 6 rfl) ?_
              refine lv_if_lt (tgt := 107) hx hb dX10_told__86 (by decide) (fun c280 => ?_) (fun c280 => ?_)
              · refine lv_iconst (v := 1) hx hb dX10_told__107 (by decide) ?_
                refine lv_goto (tgt := 112) hx hb dX10_told__108 (by decide) ?_
                refine call_V (n := 2) (k0 := 0) (As := [.int 0, .int 1]) (rest := []) hX hB (k_X10_isThrown_ κ l (mw κ a r f (va_up q 3 t11) (tb a) w) 0 (a 0) (a 1) ((va_up q 3 t11) 0) ((va_up q 3 t11) 1) ((va_up q 3 t11) 2) ((va_up q 3 t11) 3) 0 1 (mw0x (a := a) (r := r) (f := f) (q := (va_up q 3 t11)) (T := tb a) (w := w) rfl)) ⟨rfl, by decide, by decide, by decide +kernel⟩ wm_5_188 wm_5_190 wp_27 wm_1_6 wm_5_191 ⟨Nat.le_of_ble_eq_true rfl, Nat.le_of_ble_eq_true rfl⟩ ⟨Nat.le_of_ble_eq_true rfl, Nat.le_of_ble_eq_true rfl⟩ (mw0x (a := a) (r := r) (f := f) (q := (va_up q 3 t11)) (T := tb a) (w := w) rfl) rfl rfl rfl hl.1 rfl (Nat.le_of_ble_eq_true rfl) dX10_told__112 (fun o w' H locs hp hB => ?_)
                obtain ⟨x281, t282, rfl, hf283, hw9⟩ := hp
                replace hB : Bd κ A s (mw κ a r f (va_up (va_up q 3 t11) 3 t282) (tb a) w) H locs := by exact Bd_eq (mwQ3x rfl _) (by rw [hw9] at hB; exact hB)
                obtain rfl : x281 = 1 := hf283.trans (by decide)
                refine W.eq (g2 := F0 m 115 ls [.int 1]) rfl ?_
                refine lv_if_eq (tgt := 120) hx hb dX10_told__115 (by decide) (fun c284 => False.elim (by revert c284; decide)) (fun _ => ?_)
                refine lv_iconst (v := 0) hx hb dX10_told__118 (by decide) ?_
                rw [← hQ]
                exact end_i hX hB hA3 rfl rfl ⟨0, (va_up (va_up q 3 t11) 3 t282), rfl, rfl, rfl⟩ (Nat.le_of_ble_eq_true rfl) (Nat.le_of_ble_eq_true rfl) dX10_told__119
              · refine lv_iload_n hx hb dX10_told__89 rfl (lv_at hl 6 rfl) ?_
                refine lv_iload hx hb dX10_told__90 (lv_at hl 1 rfl) ?_
                refine lv_icmp_ge (tgt := 107) hx hb dX10_told__92 (by decide) (fun c286 => ?_) (fun c286 => ?_)
                · refine lv_iconst (v := 1) hx hb dX10_told__107 (by decide) ?_
                  refine lv_goto (tgt := 112) hx hb dX10_told__108 (by decide) ?_
                  refine call_V (n := 2) (k0 := 0) (As := [.int 0, .int 1]) (rest := []) hX hB (k_X10_isThrown_ κ l (mw κ a r f (va_up q 3 t11) (tb a) w) 0 (a 0) (a 1) ((va_up q 3 t11) 0) ((va_up q 3 t11) 1) ((va_up q 3 t11) 2) ((va_up q 3 t11) 3) 0 1 (mw0x (a := a) (r := r) (f := f) (q := (va_up q 3 t11)) (T := tb a) (w := w) rfl)) ⟨rfl, by decide, by decide, by decide +kernel⟩ wm_5_188 wm_5_190 wp_27 wm_1_6 wm_5_191 ⟨Nat.le_of_ble_eq_true rfl, Nat.le_of_ble_eq_true rfl⟩ ⟨Nat.le_of_ble_eq_true rfl, Nat.le_of_ble_eq_true rfl⟩ (mw0x (a := a) (r := r) (f := f) (q := (va_up q 3 t11)) (T := tb a) (w := w) rfl) rfl rfl rfl hl.1 rfl (Nat.le_of_ble_eq_true rfl) dX10_told__112 (fun o w' H locs hp hB => ?_)
                  obtain ⟨x287, t288, rfl, hf289, hw9⟩ := hp
                  replace hB : Bd κ A s (mw κ a r f (va_up (va_up q 3 t11) 3 t288) (tb a) w) H locs := by exact Bd_eq (mwQ3x rfl _) (by rw [hw9] at hB; exact hB)
                  obtain rfl : x287 = 1 := hf289.trans (by decide)
                  refine W.eq (g2 := F0 m 115 ls [.int 1]) rfl ?_
                  refine lv_if_eq (tgt := 120) hx hb dX10_told__115 (by decide) (fun c290 => False.elim (by revert c290; decide)) (fun _ => ?_)
                  refine lv_iconst (v := 0) hx hb dX10_told__118 (by decide) ?_
                  rw [← hQ]
                  exact end_i hX hB hA3 rfl rfl ⟨0, (va_up (va_up q 3 t11) 3 t288), rfl, rfl, rfl⟩ (Nat.le_of_ble_eq_true rfl) (Nat.le_of_ble_eq_true rfl) dX10_told__119
                · have hq285 := nlt_of (x := u) (n := r (2 * y.toNatClampNeg + 1)) c280 (by omega) c286
                  refine lv_iload hx hb dX10_told__95 (lv_at hl 7 rfl) ?_
                  refine lv_if_lt (tgt := 107) hx hb dX10_told__97 (by decide) (fun c291 => ?_) (fun c291 => ?_)
                  · refine lv_iconst (v := 1) hx hb dX10_told__107 (by decide) ?_
                    refine lv_goto (tgt := 112) hx hb dX10_told__108 (by decide) ?_
                    refine call_V (n := 2) (k0 := 0) (As := [.int 0, .int 1]) (rest := []) hX hB (k_X10_isThrown_ κ l (mw κ a r f (va_up q 3 t11) (tb a) w) 0 (a 0) (a 1) ((va_up q 3 t11) 0) ((va_up q 3 t11) 1) ((va_up q 3 t11) 2) ((va_up q 3 t11) 3) 0 1 (mw0x (a := a) (r := r) (f := f) (q := (va_up q 3 t11)) (T := tb a) (w := w) rfl)) ⟨rfl, by decide, by decide, by decide +kernel⟩ wm_5_188 wm_5_190 wp_27 wm_1_6 wm_5_191 ⟨Nat.le_of_ble_eq_true rfl, Nat.le_of_ble_eq_true rfl⟩ ⟨Nat.le_of_ble_eq_true rfl, Nat.le_of_ble_eq_true rfl⟩ (mw0x (a := a) (r := r) (f := f) (q := (va_up q 3 t11)) (T := tb a) (w := w) rfl) rfl rfl rfl hl.1 rfl (Nat.le_of_ble_eq_true rfl) dX10_told__112 (fun o w' H locs hp hB => ?_)
                    obtain ⟨x292, t293, rfl, hf294, hw9⟩ := hp
                    replace hB : Bd κ A s (mw κ a r f (va_up (va_up q 3 t11) 3 t293) (tb a) w) H locs := by exact Bd_eq (mwQ3x rfl _) (by rw [hw9] at hB; exact hB)
                    obtain rfl : x292 = 1 := hf294.trans (by decide)
                    refine W.eq (g2 := F0 m 115 ls [.int 1]) rfl ?_
                    refine lv_if_eq (tgt := 120) hx hb dX10_told__115 (by decide) (fun c295 => False.elim (by revert c295; decide)) (fun _ => ?_)
                    refine lv_iconst (v := 0) hx hb dX10_told__118 (by decide) ?_
                    rw [← hQ]
                    exact end_i hX hB hA3 rfl rfl ⟨0, (va_up (va_up q 3 t11) 3 t293), rfl, rfl, rfl⟩ (Nat.le_of_ble_eq_true rfl) (Nat.le_of_ble_eq_true rfl) dX10_told__119
                  · refine lv_iload hx hb dX10_told__100 (lv_at hl 7 rfl) ?_
                    refine lv_iload hx hb dX10_told__102 (lv_at hl 0 rfl) ?_
                    refine lv_icmp_lt (tgt := 111) hx hb dX10_told__104 (by decide) (fun c297 => ?_) (fun c297 => ?_)
                    · have hq296 := nlt_of (x := v) (n := r (2 * y.toNatClampNeg)) c291 (by omega) (Int32.not_le.mpr c297)
                      refine lv_iconst (v := 0) hx hb dX10_told__111 (by decide) ?_
                      refine call_V (n := 2) (k0 := 0) (As := [.int 0, .int 0]) (rest := []) hX hB (k_X10_isThrown_ κ l (mw κ a r f (va_up q 3 t11) (tb a) w) 0 (a 0) (a 1) ((va_up q 3 t11) 0) ((va_up q 3 t11) 1) ((va_up q 3 t11) 2) ((va_up q 3 t11) 3) 0 0 (mw0x (a := a) (r := r) (f := f) (q := (va_up q 3 t11)) (T := tb a) (w := w) rfl)) ⟨rfl, by decide, by decide, by decide +kernel⟩ wm_5_188 wm_5_190 wp_27 wm_1_6 wm_5_191 ⟨Nat.le_of_ble_eq_true rfl, Nat.le_of_ble_eq_true rfl⟩ ⟨Nat.le_of_ble_eq_true rfl, Nat.le_of_ble_eq_true rfl⟩ (mw0x (a := a) (r := r) (f := f) (q := (va_up q 3 t11)) (T := tb a) (w := w) rfl) rfl rfl rfl hl.1 rfl (Nat.le_of_ble_eq_true rfl) dX10_told__112 (fun o w' H locs hp hB => ?_)
                      obtain ⟨x298, t299, rfl, hf300, hw9⟩ := hp
                      replace hB : Bd κ A s (mw κ a r f (va_up (va_up q 3 t11) 3 t299) (tb a) w) H locs := by exact Bd_eq (mwQ3x rfl _) (by rw [hw9] at hB; exact hB)
                      obtain rfl : x298 = 0 := hf300.trans (by decide)
                      refine W.eq (g2 := F0 m 115 ls [.int 0]) rfl ?_
                      refine lv_if_eq (tgt := 120) hx hb dX10_told__115 (by decide) (fun _ => ?_) (fun c301 => False.elim (by revert c301; decide))
                      refine lv_aload hx hb dX10_told__120 (lv_at hl 2 rfl) ?_
                      refine lv_iload_n hx hb dX10_told__122 rfl (lv_at hl 5 rfl) ?_
                      refine call_S (n := 2) (As := [.ref (a (2 + 2 * y.toNatClampNeg)), .int z]) (rest := []) hX hB (k_X10_toldOf κ l (mw κ a r f (va_up (va_up q 3 t11) 3 t299) (tb a) w) (2 + 2 * y.toNatClampNeg) (3 + 2 * y.toNatClampNeg) (a (2 + 2 * y.toNatClampNeg)) (a (3 + 2 * y.toNatClampNeg)) (r (2 * y.toNatClampNeg)) (r (2 * y.toNatClampNeg + 1)) (f y.toNatClampNeg) z (mwG (i := y.toNatClampNeg) (a := a) (r := r) (f := f) (q := (va_up (va_up q 3 t11) 3 t299)) (T := tb a) (w := w) (by omega)) (mwA (i := y.toNatClampNeg) (a := a) (r := r) (f := f) (q := (va_up (va_up q 3 t11) 3 t299)) (T := tb a) (w := w) (by omega)) (mok_shp (i := y.toNatClampNeg) hm (by omega)) (by omega) (fun k hk => sm_ng ((hm _ (by omega)).2 k hk)) ⟨by assumption, by first | assumption | exact Int32.not_lt.mp (by assumption)⟩) ⟨by decide, by decide, by decide +kernel⟩ wm_6_120 wm_6_121 wm_1_6 wm_6_122 ⟨Nat.le_of_ble_eq_true rfl, Nat.le_of_ble_eq_true rfl⟩ ⟨Nat.le_of_ble_eq_true rfl, Nat.le_of_ble_eq_true rfl⟩ rfl hl.1 rfl (Nat.le_of_ble_eq_true rfl) dX10_told__123 (fun o w' H locs hp hB => ?_)
                      rcases hp with ⟨rfl, hw9⟩ | ⟨q302, q303, R304, C305, F306, rfl, ⟨⟨hd307a, hd307b, hd307c, hd307d⟩, hd307t⟩, hw9⟩
                      · replace hB : Bd κ A s (mw κ a r f (va_up (va_up q 3 t11) 3 t299) (tb a) w) H locs := by rw [hw9] at hB; exact hB
                        refine W.eq (g2 := F0 m 126 ls [.null]) rfl ?_
                        refine lv_astoreN (lv' := [(8, .null), (7, .int (nI (r (2 * y.toNatClampNeg)))), (6, .int (nI (r (2 * y.toNatClampNeg + 1)))), (5, .ref (a (2 + 2 * y.toNatClampNeg))), (0, .ref (a 0)), (1, .int y), (2, .int z), (3, .int u), (4, .int v)]) hx hb dX10_told__126 hl (by decide) rfl (fun ls hl => ?_)
                        refine lv_aload_n hx hb dX10_told__128 rfl (lv_at hl 4 rfl) ?_
                        refine lv_iconst (v := 0) hx hb dX10_told__129 (by decide) ?_
                        refine lv_iconst (v := 0) hx hb dX10_told__130 (by decide) ?_
                        refine lv_aloadN hx hb dX10_told__131 (lv_at hl 0 rfl) ?_
                        refine lv_ifnonnullN hx hb dX10_told__133 ?_
                        refine lv_iconst (v := 1) hx hb dX10_told__136 (by decide) ?_
                        refine lv_goto (tgt := 141) hx hb dX10_told__137 (by decide) ?_
                        refine call_V (n := 3) (k0 := 0) (As := [.int 0, .int 0, .int 1]) (rest := []) hX hB (k_X10_isThrown κ l (mw κ a r f (va_up (va_up q 3 t11) 3 t299) (tb a) w) 0 (a 0) (a 1) ((va_up (va_up q 3 t11) 3 t299) 0) ((va_up (va_up q 3 t11) 3 t299) 1) ((va_up (va_up q 3 t11) 3 t299) 2) ((va_up (va_up q 3 t11) 3 t299) 3) 0 0 1 (mw0x (a := a) (r := r) (f := f) (q := (va_up (va_up q 3 t11) 3 t299)) (T := tb a) (w := w) rfl)) ⟨rfl, by decide, by decide, by decide +kernel⟩ wm_5_192 wm_5_194 wp_28 wm_1_6 wm_5_195 ⟨Nat.le_of_ble_eq_true rfl, Nat.le_of_ble_eq_true rfl⟩ ⟨Nat.le_of_ble_eq_true rfl, Nat.le_of_ble_eq_true rfl⟩ (mw0x (a := a) (r := r) (f := f) (q := (va_up (va_up q 3 t11) 3 t299)) (T := tb a) (w := w) rfl) rfl rfl rfl hl.1 rfl (Nat.le_of_ble_eq_true rfl) dX10_told__141 (fun o w' H locs hp hB => ?_)
                        obtain ⟨x308, t309, rfl, hf310, hw9⟩ := hp
                        replace hB : Bd κ A s (mw κ a r f (va_up (va_up (va_up q 3 t11) 3 t299) 3 t309) (tb a) w) H locs := by exact Bd_eq (mwQ3x rfl _) (by rw [hw9] at hB; exact hB)
                        obtain rfl : x308 = 1 := hf310.trans (by decide)
                        refine W.eq (g2 := F0 m 144 ls [.int 1]) rfl ?_
                        refine lv_if_eq (tgt := 151) hx hb dX10_told__144 (by decide) (fun c311 => False.elim (by revert c311; decide)) (fun _ => ?_)
                        refine lv_iconst (v := 0) hx hb dX10_told__147 (by decide) ?_
                        refine lv_goto (tgt := 160) hx hb dX10_told__148 (by decide) ?_
                        rw [← hQ]
                        exact end_i hX hB hA3 rfl rfl ⟨0, (va_up (va_up (va_up q 3 t11) 3 t299) 3 t309), rfl, rfl, rfl⟩ (Nat.le_of_ble_eq_true rfl) (Nat.le_of_ble_eq_true rfl) dX10_told__160
                      · replace hB : Bd κ A s (lA κ q303 (R304 * 5) F306 :: gO q302 R304 C305 q303 :: mw κ a r f (va_up (va_up q 3 t11) 3 t299) (tb a) w) H locs := by rw [hw9] at hB; exact hB
                        refine W.eq (g2 := F0 m 126 ls [.ref q302]) rfl ?_
                        refine lv_astore (lv' := [(8, .ref q302), (7, .int (nI (r (2 * y.toNatClampNeg)))), (6, .int (nI (r (2 * y.toNatClampNeg + 1)))), (5, .ref (a (2 + 2 * y.toNatClampNeg))), (0, .ref (a 0)), (1, .int y), (2, .int z), (3, .int u), (4, .int v)]) hx hb dX10_told__126 hl (by decide) rfl (fun ls hl => ?_)
                        refine lv_aload_n hx hb dX10_told__128 rfl (lv_at hl 4 rfl) ?_
                        refine lv_iconst (v := 0) hx hb dX10_told__129 (by decide) ?_
                        refine lv_iconst (v := 0) hx hb dX10_told__130 (by decide) ?_
                        refine lv_aload hx hb dX10_told__131 (lv_at hl 0 rfl) ?_
                        refine lv_ifnonnull (tgt := 140) hx hb dX10_told__133 (by decide) ?_
                        refine lv_iconst (v := 0) hx hb dX10_told__140 (by decide) ?_
                        refine call_V (n := 3) (k0 := 2) (As := [.int 0, .int 0, .int 0]) (rest := []) hX hB (k_X10_isThrown κ l (lA κ q303 (R304 * 5) F306 :: gO q302 R304 C305 q303 :: mw κ a r f (va_up (va_up q 3 t11) 3 t299) (tb a) w) 2 (a 0) (a 1) ((va_up (va_up q 3 t11) 3 t299) 0) ((va_up (va_up q 3 t11) 3 t299) 1) ((va_up (va_up q 3 t11) 3 t299) 2) ((va_up (va_up q 3 t11) 3 t299) 3) 0 0 0 (mw0x (a := a) (r := r) (f := f) (q := (va_up (va_up q 3 t11) 3 t299)) (T := tb a) (w := w) rfl)) ⟨rfl, by decide, by decide, by decide +kernel⟩ wm_5_192 wm_5_194 wp_28 wm_1_6 wm_5_195 ⟨Nat.le_of_ble_eq_true rfl, Nat.le_of_ble_eq_true rfl⟩ ⟨Nat.le_of_ble_eq_true rfl, Nat.le_of_ble_eq_true rfl⟩ (mw0x (a := a) (r := r) (f := f) (q := (va_up (va_up q 3 t11) 3 t299)) (T := tb a) (w := w) rfl) rfl rfl rfl hl.1 rfl (Nat.le_of_ble_eq_true rfl) dX10_told__141 (fun o w' H locs hp hB => ?_)
                        obtain ⟨x312, t313, rfl, hf314, hw9⟩ := hp
                        replace hB : Bd κ A s (lA κ q303 (R304 * 5) F306 :: gO q302 R304 C305 q303 :: mw κ a r f (va_up (va_up (va_up q 3 t11) 3 t299) 3 t313) (tb a) w) H locs := by exact Bd_eq (congrArg (List.cons _) (congrArg (List.cons _) (mwQ3x rfl _))) (by rw [hw9] at hB; exact hB)
                        obtain rfl : x312 = 0 := hf314.trans (by decide)
                        refine W.eq (g2 := F0 m 144 ls [.int 0]) rfl ?_
                        refine lv_if_eq (tgt := 151) hx hb dX10_told__144 (by decide) (fun _ => ?_) (fun c315 => False.elim (by revert c315; decide))
                        have hT1 : R304 = r (2 * y.toNatClampNeg + 1) := by first | exact hd307t.1 (by assumption) | exact hd307t.2.1 (by assumption)
                        have hT2 : C305 = r (2 * y.toNatClampNeg) := by first | exact hd307t.2.2.1 (by assumption) | exact hd307t.2.2.2.1 (by assumption) | exact hd307t.2.2.2.2 (by assumption) (by assumption)
                        refine lv_aload hx hb dX10_told__151 (lv_at hl 0 rfl) ?_
                        refine lv_iload_n hx hb dX10_told__153 rfl (lv_at hl 7 rfl) ?_
                        refine lv_iload hx hb dX10_told__154 (lv_at hl 8 rfl) ?_
                        refine call_V (n := 2) (k0 := 1) (As := [.int u, .int v]) (rest := []) hX hB (k_X7_at κ l (lA κ q303 (R304 * 5) F306 :: gO q302 R304 C305 q303 :: mw κ a r f (va_up (va_up (va_up q 3 t11) 3 t299) 3 t313) (tb a) w) 1 0 q302 q303 R304 C305 F306 u ((u).toNatClampNeg) v ((v).toNatClampNeg) rfl rfl ⟨by omega, by omega, by omega, by omega⟩ (nI_rep (Int32.not_lt.mp (by assumption))) (nI_rep (Int32.not_lt.mp (by assumption))) (by omega)) ⟨rfl, by decide, by decide, by decide +kernel⟩ wm_5_233 wm_5_234 wm_5_235 wm_1_7 wm_5_236 ⟨Nat.le_of_ble_eq_true rfl, Nat.le_of_ble_eq_true rfl⟩ ⟨Nat.le_of_ble_eq_true rfl, Nat.le_of_ble_eq_true rfl⟩ rfl rfl rfl rfl hl.1 rfl (Nat.le_of_ble_eq_true rfl) dX10_told__156 (fun o w' H locs hp hB => ?_)
                        obtain ⟨rfl, hw9⟩ := hp
                        replace hB : Bd κ A s (lA κ q303 (R304 * 5) F306 :: gO q302 R304 C305 q303 :: mw κ a r f (va_up (va_up (va_up q 3 t11) 3 t299) 3 t313) (tb a) w) H locs := by rw [hw9] at hB; exact hB
                        refine W.eq (g2 := F0 m 159 ls [.long (F306 (((u).toNatClampNeg) * 5 + ((v).toNatClampNeg)))]) rfl ?_
                        refine lv_l2i hx hb dX10_told__159 rfl ?_
                        replace hB : Bd κ A s (lA κ q303 (R304 * 5) F306 :: mw κ a r f (va_up (va_up (va_up q 3 t11) 3 t299) 3 t313) (tb a) w) H locs := Bd_del 1 hB
                        replace hB : Bd κ A s (mw κ a r f (va_up (va_up (va_up q 3 t11) 3 t299) 3 t313) (tb a) w) H locs := Bd_del 0 hB
                        rw [← hQ]
                        exact end_i hX hB hA3 rfl rfl ⟨(((F306 (((u).toNatClampNeg) * 5 + ((v).toNatClampNeg)))).toInt32), (va_up (va_up (va_up q 3 t11) 3 t299) 3 t313), rfl, rfl, rfl⟩ (Nat.le_of_ble_eq_true rfl) (Nat.le_of_ble_eq_true rfl) dX10_told__160
                    · refine lv_iconst (v := 1) hx hb dX10_told__107 (by decide) ?_
                      refine lv_goto (tgt := 112) hx hb dX10_told__108 (by decide) ?_
                      refine call_V (n := 2) (k0 := 0) (As := [.int 0, .int 1]) (rest := []) hX hB (k_X10_isThrown_ κ l (mw κ a r f (va_up q 3 t11) (tb a) w) 0 (a 0) (a 1) ((va_up q 3 t11) 0) ((va_up q 3 t11) 1) ((va_up q 3 t11) 2) ((va_up q 3 t11) 3) 0 1 (mw0x (a := a) (r := r) (f := f) (q := (va_up q 3 t11)) (T := tb a) (w := w) rfl)) ⟨rfl, by decide, by decide, by decide +kernel⟩ wm_5_188 wm_5_190 wp_27 wm_1_6 wm_5_191 ⟨Nat.le_of_ble_eq_true rfl, Nat.le_of_ble_eq_true rfl⟩ ⟨Nat.le_of_ble_eq_true rfl, Nat.le_of_ble_eq_true rfl⟩ (mw0x (a := a) (r := r) (f := f) (q := (va_up q 3 t11)) (T := tb a) (w := w) rfl) rfl rfl rfl hl.1 rfl (Nat.le_of_ble_eq_true rfl) dX10_told__112 (fun o w' H locs hp hB => ?_)
                      obtain ⟨x316, t317, rfl, hf318, hw9⟩ := hp
                      replace hB : Bd κ A s (mw κ a r f (va_up (va_up q 3 t11) 3 t317) (tb a) w) H locs := by exact Bd_eq (mwQ3x rfl _) (by rw [hw9] at hB; exact hB)
                      obtain rfl : x316 = 1 := hf318.trans (by decide)
                      refine W.eq (g2 := F0 m 115 ls [.int 1]) rfl ?_
                      refine lv_if_eq (tgt := 120) hx hb dX10_told__115 (by decide) (fun c319 => False.elim (by revert c319; decide)) (fun _ => ?_)
                      refine lv_iconst (v := 0) hx hb dX10_told__118 (by decide) ?_
                      rw [← hQ]
                      exact end_i hX hB hA3 rfl rfl ⟨0, (va_up (va_up q 3 t11) 3 t317), rfl, rfl, rfl⟩ (Nat.le_of_ble_eq_true rfl) (Nat.le_of_ble_eq_true rfl) dX10_told__119
set_option maxHeartbeats 4000000 in
set_option maxRecDepth 100000 in
theorem k_X10_change (κ : Kt) (l : Launch) (w : va_W) (a r : Nat → Nat) (f : Nat → Nat → Int64) (q : Nat → Int32) (y : Int32) (z : Int32) (hm : mok r f) : CM κ l yX10_change cX10_change 4 (some .int) 5 122 7 76 [.ref (a 0), .int y, .int z] (mw κ a r f q (tb a) w) (fun o w' => ∃ (x : Int32) (q' : Nat → Int32), o = some (.int x) ∧ (q' 2 = q 2) ∧ w' = mw κ a r f q' (tb a) w) := by
  refine CM_begin (plainFor_of_name (by decide)) (Nat.le_of_ble_eq_true rfl) ?_
  intro p e s m args below meth c A Q hX hnm hA3 hQ hB ls hl
  have hx := hX.1.1
  have hb := hX.1.2.1
  have hl : lv_has ls 4 [(0, .ref (a 0)), (1, .int y), (2, .int z)] := hl
  refine lv_aload_n hx hb dX10_change_0 rfl (lv_at hl 0 rfl) ?_
  refine lv_iload_n hx hb dX10_change_1 rfl (lv_at hl 1 rfl) ?_
  refine call_S (n := 1) (As := [.int y]) (rest := [.ref (a 0)]) hX hB (k_X10_isTable κ l (mw κ a r f q (tb a) w) y) ⟨by decide, by decide, by decide +kernel⟩ wm_5_182 wm_5_183 wm_1_6 wm_5_184 ⟨Nat.le_of_ble_eq_true rfl, Nat.le_of_ble_eq_true rfl⟩ ⟨Nat.le_of_ble_eq_true rfl, Nat.le_of_ble_eq_true rfl⟩ rfl hl.1 rfl (Nat.le_of_ble_eq_true rfl) dX10_change_2 (fun o w' H locs hp hB => ?_)
  obtain ⟨z1, rfl, hf2, hw9⟩ := hp
  replace hB : Bd κ A s (mw κ a r f q (tb a) w) H locs := by rw [hw9] at hB; exact hB
  rcases hf2 with rfl | ⟨rfl, hz3a, hz3b⟩
  · refine W.eq (g2 := F0 m 5 ls [.int 0, .ref (a 0)]) rfl ?_
    refine lv_if_ne (tgt := 12) hx hb dX10_change_5 (by decide) (fun c4 => False.elim (by revert c4; decide)) (fun _ => ?_)
    refine lv_iconst (v := 1) hx hb dX10_change_8 (by decide) ?_
    refine lv_goto (tgt := 13) hx hb dX10_change_9 (by decide) ?_
    refine lv_iload_n hx hb dX10_change_13 rfl (lv_at hl 2 rfl) ?_
    refine lv_if_lt (tgt := 22) hx hb dX10_change_14 (by decide) (fun c5 => ?_) (fun c5 => ?_)
    · refine lv_iconst (v := 1) hx hb dX10_change_22 (by decide) ?_
      refine lv_goto (tgt := 27) hx hb dX10_change_23 (by decide) ?_
      refine call_V (n := 2) (k0 := 0) (As := [.int 1, .int 1]) (rest := []) hX hB (k_X10_isThrown_ κ l (mw κ a r f q (tb a) w) 0 (a 0) (a 1) (q 0) (q 1) (q 2) (q 3) 1 1 (mw0x (a := a) (r := r) (f := f) (q := q) (T := tb a) (w := w) rfl)) ⟨rfl, by decide, by decide, by decide +kernel⟩ wm_5_188 wm_5_190 wp_27 wm_1_6 wm_5_191 ⟨Nat.le_of_ble_eq_true rfl, Nat.le_of_ble_eq_true rfl⟩ ⟨Nat.le_of_ble_eq_true rfl, Nat.le_of_ble_eq_true rfl⟩ (mw0x (a := a) (r := r) (f := f) (q := q) (T := tb a) (w := w) rfl) rfl rfl rfl hl.1 rfl (Nat.le_of_ble_eq_true rfl) dX10_change_27 (fun o w' H locs hp hB => ?_)
      obtain ⟨x6, t7, rfl, hf8, hw9⟩ := hp
      replace hB : Bd κ A s (mw κ a r f (va_up q 3 t7) (tb a) w) H locs := by exact Bd_eq (mwQ3x rfl _) (by rw [hw9] at hB; exact hB)
      obtain rfl : x6 = 1 := hf8.trans (by decide)
      refine W.eq (g2 := F0 m 30 ls [.int 1]) rfl ?_
      refine lv_if_eq (tgt := 35) hx hb dX10_change_30 (by decide) (fun c9 => False.elim (by revert c9; decide)) (fun _ => ?_)
      refine lv_iconst (v := 0) hx hb dX10_change_33 (by decide) ?_
      rw [← hQ]
      exact end_i hX hB hA3 rfl rfl ⟨0, (va_up q 3 t7), rfl, rfl, rfl⟩ (Nat.le_of_ble_eq_true rfl) (Nat.le_of_ble_eq_true rfl) dX10_change_34
    · refine lv_iload_n hx hb dX10_change_17 rfl (lv_at hl 2 rfl) ?_
      refine lv_iconst (v := 4) hx hb dX10_change_18 (by decide) ?_
      refine lv_icmp_le (tgt := 26) hx hb dX10_change_19 (by decide) (fun c10 => ?_) (fun c10 => ?_)
      · refine lv_iconst (v := 0) hx hb dX10_change_26 (by decide) ?_
        refine call_V (n := 2) (k0 := 0) (As := [.int 1, .int 0]) (rest := []) hX hB (k_X10_isThrown_ κ l (mw κ a r f q (tb a) w) 0 (a 0) (a 1) (q 0) (q 1) (q 2) (q 3) 1 0 (mw0x (a := a) (r := r) (f := f) (q := q) (T := tb a) (w := w) rfl)) ⟨rfl, by decide, by decide, by decide +kernel⟩ wm_5_188 wm_5_190 wp_27 wm_1_6 wm_5_191 ⟨Nat.le_of_ble_eq_true rfl, Nat.le_of_ble_eq_true rfl⟩ ⟨Nat.le_of_ble_eq_true rfl, Nat.le_of_ble_eq_true rfl⟩ (mw0x (a := a) (r := r) (f := f) (q := q) (T := tb a) (w := w) rfl) rfl rfl rfl hl.1 rfl (Nat.le_of_ble_eq_true rfl) dX10_change_27 (fun o w' H locs hp hB => ?_)
        obtain ⟨x11, t12, rfl, hf13, hw9⟩ := hp
        replace hB : Bd κ A s (mw κ a r f (va_up q 3 t12) (tb a) w) H locs := by exact Bd_eq (mwQ3x rfl _) (by rw [hw9] at hB; exact hB)
        obtain rfl : x11 = 1 := hf13.trans (by decide)
        refine W.eq (g2 := F0 m 30 ls [.int 1]) rfl ?_
        refine lv_if_eq (tgt := 35) hx hb dX10_change_30 (by decide) (fun c14 => False.elim (by revert c14; decide)) (fun _ => ?_)
        refine lv_iconst (v := 0) hx hb dX10_change_33 (by decide) ?_
        rw [← hQ]
        exact end_i hX hB hA3 rfl rfl ⟨0, (va_up q 3 t12), rfl, rfl, rfl⟩ (Nat.le_of_ble_eq_true rfl) (Nat.le_of_ble_eq_true rfl) dX10_change_34
      · refine lv_iconst (v := 1) hx hb dX10_change_22 (by decide) ?_
        refine lv_goto (tgt := 27) hx hb dX10_change_23 (by decide) ?_
        refine call_V (n := 2) (k0 := 0) (As := [.int 1, .int 1]) (rest := []) hX hB (k_X10_isThrown_ κ l (mw κ a r f q (tb a) w) 0 (a 0) (a 1) (q 0) (q 1) (q 2) (q 3) 1 1 (mw0x (a := a) (r := r) (f := f) (q := q) (T := tb a) (w := w) rfl)) ⟨rfl, by decide, by decide, by decide +kernel⟩ wm_5_188 wm_5_190 wp_27 wm_1_6 wm_5_191 ⟨Nat.le_of_ble_eq_true rfl, Nat.le_of_ble_eq_true rfl⟩ ⟨Nat.le_of_ble_eq_true rfl, Nat.le_of_ble_eq_true rfl⟩ (mw0x (a := a) (r := r) (f := f) (q := q) (T := tb a) (w := w) rfl) rfl rfl rfl hl.1 rfl (Nat.le_of_ble_eq_true rfl) dX10_change_27 (fun o w' H locs hp hB => ?_)
        obtain ⟨x15, t16, rfl, hf17, hw9⟩ := hp
        replace hB : Bd κ A s (mw κ a r f (va_up q 3 t16) (tb a) w) H locs := by exact Bd_eq (mwQ3x rfl _) (by rw [hw9] at hB; exact hB)
        obtain rfl : x15 = 1 := hf17.trans (by decide)
        refine W.eq (g2 := F0 m 30 ls [.int 1]) rfl ?_
        refine lv_if_eq (tgt := 35) hx hb dX10_change_30 (by decide) (fun c18 => False.elim (by revert c18; decide)) (fun _ => ?_)
        refine lv_iconst (v := 0) hx hb dX10_change_33 (by decide) ?_
        rw [← hQ]
        exact end_i hX hB hA3 rfl rfl ⟨0, (va_up q 3 t16), rfl, rfl, rfl⟩ (Nat.le_of_ble_eq_true rfl) (Nat.le_of_ble_eq_true rfl) dX10_change_34
  · refine W.eq (g2 := F0 m 5 ls [.int 1, .ref (a 0)]) rfl ?_
    refine lv_if_ne (tgt := 12) hx hb dX10_change_5 (by decide) (fun _ => ?_) (fun c19 => False.elim (by revert c19; decide))
    refine lv_iconst (v := 0) hx hb dX10_change_12 (by decide) ?_
    refine lv_iload_n hx hb dX10_change_13 rfl (lv_at hl 2 rfl) ?_
    refine lv_if_lt (tgt := 22) hx hb dX10_change_14 (by decide) (fun c20 => ?_) (fun c20 => ?_)
    · refine lv_iconst (v := 1) hx hb dX10_change_22 (by decide) ?_
      refine lv_goto (tgt := 27) hx hb dX10_change_23 (by decide) ?_
      refine call_V (n := 2) (k0 := 0) (As := [.int 0, .int 1]) (rest := []) hX hB (k_X10_isThrown_ κ l (mw κ a r f q (tb a) w) 0 (a 0) (a 1) (q 0) (q 1) (q 2) (q 3) 0 1 (mw0x (a := a) (r := r) (f := f) (q := q) (T := tb a) (w := w) rfl)) ⟨rfl, by decide, by decide, by decide +kernel⟩ wm_5_188 wm_5_190 wp_27 wm_1_6 wm_5_191 ⟨Nat.le_of_ble_eq_true rfl, Nat.le_of_ble_eq_true rfl⟩ ⟨Nat.le_of_ble_eq_true rfl, Nat.le_of_ble_eq_true rfl⟩ (mw0x (a := a) (r := r) (f := f) (q := q) (T := tb a) (w := w) rfl) rfl rfl rfl hl.1 rfl (Nat.le_of_ble_eq_true rfl) dX10_change_27 (fun o w' H locs hp hB => ?_)
      obtain ⟨x21, t22, rfl, hf23, hw9⟩ := hp
      replace hB : Bd κ A s (mw κ a r f (va_up q 3 t22) (tb a) w) H locs := by exact Bd_eq (mwQ3x rfl _) (by rw [hw9] at hB; exact hB)
      obtain rfl : x21 = 1 := hf23.trans (by decide)
      refine W.eq (g2 := F0 m 30 ls [.int 1]) rfl ?_
      refine lv_if_eq (tgt := 35) hx hb dX10_change_30 (by decide) (fun c24 => False.elim (by revert c24; decide)) (fun _ => ?_)
      refine lv_iconst (v := 0) hx hb dX10_change_33 (by decide) ?_
      rw [← hQ]
      exact end_i hX hB hA3 rfl rfl ⟨0, (va_up q 3 t22), rfl, rfl, rfl⟩ (Nat.le_of_ble_eq_true rfl) (Nat.le_of_ble_eq_true rfl) dX10_change_34
    · refine lv_iload_n hx hb dX10_change_17 rfl (lv_at hl 2 rfl) ?_
      refine lv_iconst (v := 4) hx hb dX10_change_18 (by decide) ?_
      refine lv_icmp_le (tgt := 26) hx hb dX10_change_19 (by decide) (fun c25 => ?_) (fun c25 => ?_)
      · refine lv_iconst (v := 0) hx hb dX10_change_26 (by decide) ?_
        refine call_V (n := 2) (k0 := 0) (As := [.int 0, .int 0]) (rest := []) hX hB (k_X10_isThrown_ κ l (mw κ a r f q (tb a) w) 0 (a 0) (a 1) (q 0) (q 1) (q 2) (q 3) 0 0 (mw0x (a := a) (r := r) (f := f) (q := q) (T := tb a) (w := w) rfl)) ⟨rfl, by decide, by decide, by decide +kernel⟩ wm_5_188 wm_5_190 wp_27 wm_1_6 wm_5_191 ⟨Nat.le_of_ble_eq_true rfl, Nat.le_of_ble_eq_true rfl⟩ ⟨Nat.le_of_ble_eq_true rfl, Nat.le_of_ble_eq_true rfl⟩ (mw0x (a := a) (r := r) (f := f) (q := q) (T := tb a) (w := w) rfl) rfl rfl rfl hl.1 rfl (Nat.le_of_ble_eq_true rfl) dX10_change_27 (fun o w' H locs hp hB => ?_)
        obtain ⟨x26, t27, rfl, hf28, hw9⟩ := hp
        replace hB : Bd κ A s (mw κ a r f (va_up q 3 t27) (tb a) w) H locs := by exact Bd_eq (mwQ3x rfl _) (by rw [hw9] at hB; exact hB)
        obtain rfl : x26 = 0 := hf28.trans (by decide)
        refine W.eq (g2 := F0 m 30 ls [.int 0]) rfl ?_
        refine lv_if_eq (tgt := 35) hx hb dX10_change_30 (by decide) (fun _ => ?_) (fun c29 => False.elim (by revert c29; decide))
        refine lv_iload_n hx hb dX10_change_35 rfl (lv_at hl 2 rfl) ?_
        refine lv_if_eq (tgt := 44) hx hb dX10_change_36 (by decide) (fun c30 => ?_) (fun c30 => ?_)
        · refine newO (fs := [.null, .null, .int 0, .int 0]) hX hB (ci := 9) rfl in8 tyX8_ok wm_6_123 wm_6_124 wm_1_15 df9 (Nat.le_of_ble_eq_true rfl) (Nat.le_of_ble_eq_true rfl) dX10_change_44 (fun q31 H hB => ?_)
          refine lv_dup hx hb dX10_change_47 rfl ?_
          refine lv_aload_n hx hb dX10_change_48 rfl (lv_at hl 0 rfl) ?_
          refine gf (k0 := 1) hX hB (mw0x (a := a) (r := r) (f := f) (q := (va_up q 3 t27)) (T := tb a) (w := w) rfl) rfl in10 0 (by decide) wm_5_162 rfl rfl dX10_change_49 ?_
          refine lv_iload_n hx hb dX10_change_52 rfl (lv_at hl 1 rfl) ?_
          refine aaldM (k0 := 2) hX hB (mw1 (a := a) (r := r) (f := f) (q := (va_up q 3 t27)) (T := tb a) (w := w)) (vp_in_mk (by assumption) (by assumption)) rfl dX10_change_53 ?_
          have hb32 := mok_r hm y.toNatClampNeg (by omega)
          refine call_I (n := 1) (As := [.ref (a (2 + 2 * y.toNatClampNeg))]) (rest := [.ref q31]) hX hB (k_X8_init κ l (mw κ a r f (va_up q 3 t27) (tb a) w) q31 (2 + 2 * y.toNatClampNeg) (3 + 2 * y.toNatClampNeg) (a (2 + 2 * y.toNatClampNeg)) (a (3 + 2 * y.toNatClampNeg)) (r (2 * y.toNatClampNeg)) (r (2 * y.toNatClampNeg + 1)) (f y.toNatClampNeg) (mwG (i := y.toNatClampNeg) (a := a) (r := r) (f := f) (q := (va_up q 3 t27)) (T := tb a) (w := w) (by omega)) (mwA (i := y.toNatClampNeg) (a := a) (r := r) (f := f) (q := (va_up q 3 t27)) (T := tb a) (w := w) (by omega)) (mok_shp (i := y.toNatClampNeg) hm (by omega)) (fun k hk => sm_ng ((hm _ (by omega)).2 k hk))) ⟨by decide, by decide, by decide +kernel⟩ rfl wm_6_125 wm_6_126 wm_1_15 wm_6_127 ⟨Nat.le_of_ble_eq_true rfl, Nat.le_of_ble_eq_true rfl⟩ ⟨Nat.le_of_ble_eq_true rfl, Nat.le_of_ble_eq_true rfl⟩ rfl hl.1 rfl (Nat.le_of_ble_eq_true rfl) dX10_change_54 (fun o w' H locs hp hB => ?_)
          obtain ⟨g33, b34, g35, b36, F37, F38, S39, G40, rfl, hf41, hw9⟩ := hp
          replace hB : Bd κ A s (lA κ b34 ((r (2 * y.toNatClampNeg)) * 5) F37 :: gO g33 (r (2 * y.toNatClampNeg)) (r (2 * y.toNatClampNeg)) b34 :: lA κ b36 ((r (2 * y.toNatClampNeg)) * 5) F38 :: gO g35 (r (2 * y.toNatClampNeg)) (r (2 * y.toNatClampNeg + 1)) b36 :: (q31, .inr (9, [.ref g35, .ref g33, .int S39, .int G40])) :: mw κ a r f (va_up q 3 t27) (tb a) w) H locs := by rw [hw9] at hB; exact hB
          refine W.eq (g2 := F0 m 57 ls [.ref q31]) rfl ?_
          refine lv_astore_n (lv' := [(3, .ref q31), (0, .ref (a 0)), (1, .int y), (2, .int z)]) hx hb dX10_change_57 rfl hl (by decide) rfl (fun ls hl => ?_)
          refine lv_iload_n hx hb dX10_change_58 rfl (lv_at hl 3 rfl) ?_
          refine lv_if_ne (tgt := 75) hx hb dX10_change_59 (by decide) (fun c42 => False.elim (c42 c30)) (fun _ => ?_)
          refine lv_aload_n hx hb dX10_change_62 rfl (lv_at hl 0 rfl) ?_
          refine gf (k0 := 4) hX hB rfl rfl in8 3 (by decide) wm_6_162 rfl rfl dX10_change_63 ?_
          refine lv_if_eq (tgt := 73) hx hb dX10_change_66 (by decide) (fun c43 => ?_) (fun c43 => ?_)
          · refine lv_iconst (v := 0) hx hb dX10_change_73 (by decide) ?_
            replace hB : Bd κ A s (lA κ b34 ((r (2 * y.toNatClampNeg)) * 5) F37 :: gO g33 (r (2 * y.toNatClampNeg)) (r (2 * y.toNatClampNeg)) b34 :: lA κ b36 ((r (2 * y.toNatClampNeg)) * 5) F38 :: gO g35 (r (2 * y.toNatClampNeg)) (r (2 * y.toNatClampNeg + 1)) b36 :: mw κ a r f (va_up q 3 t27) (tb a) w) H locs := Bd_del 4 hB
            replace hB : Bd κ A s (lA κ b34 ((r (2 * y.toNatClampNeg)) * 5) F37 :: gO g33 (r (2 * y.toNatClampNeg)) (r (2 * y.toNatClampNeg)) b34 :: lA κ b36 ((r (2 * y.toNatClampNeg)) * 5) F38 :: mw κ a r f (va_up q 3 t27) (tb a) w) H locs := Bd_del 3 hB
            replace hB : Bd κ A s (lA κ b34 ((r (2 * y.toNatClampNeg)) * 5) F37 :: gO g33 (r (2 * y.toNatClampNeg)) (r (2 * y.toNatClampNeg)) b34 :: mw κ a r f (va_up q 3 t27) (tb a) w) H locs := Bd_del 2 hB
            replace hB : Bd κ A s (lA κ b34 ((r (2 * y.toNatClampNeg)) * 5) F37 :: mw κ a r f (va_up q 3 t27) (tb a) w) H locs := Bd_del 1 hB
            replace hB : Bd κ A s (mw κ a r f (va_up q 3 t27) (tb a) w) H locs := Bd_del 0 hB
            rw [← hQ]
            exact end_i hX hB hA3 rfl rfl ⟨0, (va_up q 3 t27), rfl, rfl, rfl⟩ (Nat.le_of_ble_eq_true rfl) (Nat.le_of_ble_eq_true rfl) dX10_change_74
          · refine lv_iconst (v := 1) hx hb dX10_change_69 (by decide) ?_
            refine lv_goto (tgt := 74) hx hb dX10_change_70 (by decide) ?_
            replace hB : Bd κ A s (lA κ b34 ((r (2 * y.toNatClampNeg)) * 5) F37 :: gO g33 (r (2 * y.toNatClampNeg)) (r (2 * y.toNatClampNeg)) b34 :: lA κ b36 ((r (2 * y.toNatClampNeg)) * 5) F38 :: gO g35 (r (2 * y.toNatClampNeg)) (r (2 * y.toNatClampNeg + 1)) b36 :: mw κ a r f (va_up q 3 t27) (tb a) w) H locs := Bd_del 4 hB
            replace hB : Bd κ A s (lA κ b34 ((r (2 * y.toNatClampNeg)) * 5) F37 :: gO g33 (r (2 * y.toNatClampNeg)) (r (2 * y.toNatClampNeg)) b34 :: lA κ b36 ((r (2 * y.toNatClampNeg)) * 5) F38 :: mw κ a r f (va_up q 3 t27) (tb a) w) H locs := Bd_del 3 hB
            replace hB : Bd κ A s (lA κ b34 ((r (2 * y.toNatClampNeg)) * 5) F37 :: gO g33 (r (2 * y.toNatClampNeg)) (r (2 * y.toNatClampNeg)) b34 :: mw κ a r f (va_up q 3 t27) (tb a) w) H locs := Bd_del 2 hB
            replace hB : Bd κ A s (lA κ b34 ((r (2 * y.toNatClampNeg)) * 5) F37 :: mw κ a r f (va_up q 3 t27) (tb a) w) H locs := Bd_del 1 hB
            replace hB : Bd κ A s (mw κ a r f (va_up q 3 t27) (tb a) w) H locs := Bd_del 0 hB
            rw [← hQ]
            exact end_i hX hB hA3 rfl rfl ⟨1, (va_up q 3 t27), rfl, rfl, rfl⟩ (Nat.le_of_ble_eq_true rfl) (Nat.le_of_ble_eq_true rfl) dX10_change_74
        · refine lv_iload_n hx hb dX10_change_39 rfl (lv_at hl 2 rfl) ?_
          refine lv_iconst (v := 2) hx hb dX10_change_40 (by decide) ?_
          refine lv_icmp_ne (tgt := 97) hx hb dX10_change_41 (by decide) (fun c44 => ?_) (fun c44 => ?_)
          · refine newO (fs := [.null, .null, .null, .int 0, .int 0, .int 0, .int 0]) hX hB (ci := 10) rfl in9 tyX9_ok wm_6_172 wm_6_173 wm_1_16 df10 (Nat.le_of_ble_eq_true rfl) (Nat.le_of_ble_eq_true rfl) dX10_change_97 (fun q45 H hB => ?_)
            refine lv_dup hx hb dX10_change_100 rfl ?_
            refine lv_aload_n hx hb dX10_change_101 rfl (lv_at hl 0 rfl) ?_
            refine gf (k0 := 1) hX hB (mw0x (a := a) (r := r) (f := f) (q := (va_up q 3 t27)) (T := tb a) (w := w) rfl) rfl in10 0 (by decide) wm_5_162 rfl rfl dX10_change_102 ?_
            refine lv_iload_n hx hb dX10_change_105 rfl (lv_at hl 1 rfl) ?_
            refine aaldM (k0 := 2) hX hB (mw1 (a := a) (r := r) (f := f) (q := (va_up q 3 t27)) (T := tb a) (w := w)) (vp_in_mk (by assumption) (by assumption)) rfl dX10_change_106 ?_
            have hb46 := mok_r hm y.toNatClampNeg (by omega)
            refine call_I (n := 1) (As := [.ref (a (2 + 2 * y.toNatClampNeg))]) (rest := [.ref q45]) hX hB (k_X9_init κ l (mw κ a r f (va_up q 3 t27) (tb a) w) q45 (2 + 2 * y.toNatClampNeg) (3 + 2 * y.toNatClampNeg) (a (2 + 2 * y.toNatClampNeg)) (a (3 + 2 * y.toNatClampNeg)) (r (2 * y.toNatClampNeg)) (r (2 * y.toNatClampNeg + 1)) (f y.toNatClampNeg) (mwG (i := y.toNatClampNeg) (a := a) (r := r) (f := f) (q := (va_up q 3 t27)) (T := tb a) (w := w) (by omega)) (mwA (i := y.toNatClampNeg) (a := a) (r := r) (f := f) (q := (va_up q 3 t27)) (T := tb a) (w := w) (by omega)) (mok_shp (i := y.toNatClampNeg) hm (by omega)) (by omega) (fun k hk => sm_ng ((hm _ (by omega)).2 k hk))) ⟨by decide, by decide, by decide +kernel⟩ rfl wm_6_174 wm_6_175 wm_1_16 wm_6_176 ⟨Nat.le_of_ble_eq_true rfl, Nat.le_of_ble_eq_true rfl⟩ ⟨Nat.le_of_ble_eq_true rfl, Nat.le_of_ble_eq_true rfl⟩ rfl hl.1 rfl (Nat.le_of_ble_eq_true rfl) dX10_change_107 (fun o w' H locs hp hB => ?_)
            obtain ⟨g47, b48, g49, b50, g51, b52, F53, F54, F55, S56, S57, K58, G59, rfl, hf60, hw9⟩ := hp
            replace hB : Bd κ A s (lA κ b48 ((r (2 * y.toNatClampNeg + 1)) * 5) F53 :: gO g47 (r (2 * y.toNatClampNeg + 1)) (r (2 * y.toNatClampNeg + 1)) b48 :: lA κ b50 ((r (2 * y.toNatClampNeg)) * 5) F54 :: gO g49 (r (2 * y.toNatClampNeg)) (r (2 * y.toNatClampNeg)) b50 :: lA κ b52 ((r (2 * y.toNatClampNeg)) * 5) F55 :: gO g51 (r (2 * y.toNatClampNeg)) (r (2 * y.toNatClampNeg + 1)) b52 :: (q45, .inr (10, [.ref g51, .ref g49, .ref g47, .int S56, .int S57, .int (nI K58), .int G59])) :: mw κ a r f (va_up q 3 t27) (tb a) w) H locs := by rw [hw9] at hB; exact hB
            refine W.eq (g2 := F0 m 110 ls [.ref q45]) rfl ?_
            refine lv_astore_n (lv' := [(3, .ref q45), (0, .ref (a 0)), (1, .int y), (2, .int z)]) hx hb dX10_change_110 rfl hl (by decide) rfl (fun ls hl => ?_)
            refine lv_iload_n hx hb dX10_change_111 rfl (lv_at hl 3 rfl) ?_
            refine lv_iconst (v := 1) hx hb dX10_change_112 (by decide) ?_
            refine lv_icmp_ne (tgt := 129) hx hb dX10_change_113 (by decide) (fun c61 => ?_) (fun c61 => ?_)
            · refine lv_aload_n hx hb dX10_change_129 rfl (lv_at hl 1 rfl) ?_
              refine lv_iconst (v := 0) hx hb dX10_change_130 (by decide) ?_
              refine lv_iconst (v := 0) hx hb dX10_change_131 (by decide) ?_
              refine lv_aload_n hx hb dX10_change_132 rfl (lv_at hl 0 rfl) ?_
              refine gf (k0 := 6) hX hB rfl rfl in9 6 (by decide) wm_6_230 rfl rfl dX10_change_133 ?_
              refine call_V (n := 3) (k0 := 7) (As := [.int 0, .int 0, .int G59]) (rest := []) hX hB (k_X10_isThrown κ l (lA κ b48 ((r (2 * y.toNatClampNeg + 1)) * 5) F53 :: gO g47 (r (2 * y.toNatClampNeg + 1)) (r (2 * y.toNatClampNeg + 1)) b48 :: lA κ b50 ((r (2 * y.toNatClampNeg)) * 5) F54 :: gO g49 (r (2 * y.toNatClampNeg)) (r (2 * y.toNatClampNeg)) b50 :: lA κ b52 ((r (2 * y.toNatClampNeg)) * 5) F55 :: gO g51 (r (2 * y.toNatClampNeg)) (r (2 * y.toNatClampNeg + 1)) b52 :: (q45, .inr (10, [.ref g51, .ref g49, .ref g47, .int S56, .int S57, .int (nI K58), .int G59])) :: mw κ a r f (va_up q 3 t27) (tb a) w) 7 (a 0) (a 1) ((va_up q 3 t27) 0) ((va_up q 3 t27) 1) ((va_up q 3 t27) 2) ((va_up q 3 t27) 3) 0 0 G59 (mw0x (a := a) (r := r) (f := f) (q := (va_up q 3 t27)) (T := tb a) (w := w) rfl)) ⟨rfl, by decide, by decide, by decide +kernel⟩ wm_5_192 wm_5_194 wp_28 wm_1_6 wm_5_195 ⟨Nat.le_of_ble_eq_true rfl, Nat.le_of_ble_eq_true rfl⟩ ⟨Nat.le_of_ble_eq_true rfl, Nat.le_of_ble_eq_true rfl⟩ (mw0x (a := a) (r := r) (f := f) (q := (va_up q 3 t27)) (T := tb a) (w := w) rfl) rfl rfl rfl hl.1 rfl (Nat.le_of_ble_eq_true rfl) dX10_change_136 (fun o w' H locs hp hB => ?_)
              obtain ⟨x62, t63, rfl, hf64, hw9⟩ := hp
              replace hB : Bd κ A s (lA κ b48 ((r (2 * y.toNatClampNeg + 1)) * 5) F53 :: gO g47 (r (2 * y.toNatClampNeg + 1)) (r (2 * y.toNatClampNeg + 1)) b48 :: lA κ b50 ((r (2 * y.toNatClampNeg)) * 5) F54 :: gO g49 (r (2 * y.toNatClampNeg)) (r (2 * y.toNatClampNeg)) b50 :: lA κ b52 ((r (2 * y.toNatClampNeg)) * 5) F55 :: gO g51 (r (2 * y.toNatClampNeg)) (r (2 * y.toNatClampNeg + 1)) b52 :: (q45, .inr (10, [.ref g51, .ref g49, .ref g47, .int S56, .int S57, .int (nI K58), .int G59])) :: mw κ a r f (va_up (va_up q 3 t27) 3 t63) (tb a) w) H locs := by exact Bd_eq (congrArg (List.cons _) (congrArg (List.cons _) (congrArg (List.cons _) (congrArg (List.cons _) (congrArg (List.cons _) (congrArg (List.cons _) (congrArg (List.cons _) (mwQ3x rfl _)))))))) (by rw [hw9] at hB; exact hB)
              rcases thr_cases hf64 with ⟨rfl, hz65a, hz65b, hz65c⟩ | ⟨rfl, hz65⟩
              · refine W.eq (g2 := F0 m 139 ls [.int 0]) rfl ?_
                refine lv_if_eq (tgt := 146) hx hb dX10_change_139 (by decide) (fun _ => ?_) (fun c66 => False.elim (by revert c66; decide))
                refine lv_iload_n hx hb dX10_change_146 rfl (lv_at hl 3 rfl) ?_
                refine lv_iconst (v := 3) hx hb dX10_change_147 (by decide) ?_
                refine lv_icmp_ne (tgt := 158) hx hb dX10_change_148 (by decide) (fun c67 => ?_) (fun c67 => ?_)
                · refine lv_aload_n hx hb dX10_change_158 rfl (lv_at hl 0 rfl) ?_
                  refine gf (k0 := 6) hX hB rfl rfl in9 4 (by decide) wm_6_226 rfl rfl dX10_change_159 ?_
                  replace hB : Bd κ A s (lA κ b48 ((r (2 * y.toNatClampNeg + 1)) * 5) F53 :: gO g47 (r (2 * y.toNatClampNeg + 1)) (r (2 * y.toNatClampNeg + 1)) b48 :: lA κ b50 ((r (2 * y.toNatClampNeg)) * 5) F54 :: gO g49 (r (2 * y.toNatClampNeg)) (r (2 * y.toNatClampNeg)) b50 :: lA κ b52 ((r (2 * y.toNatClampNeg)) * 5) F55 :: gO g51 (r (2 * y.toNatClampNeg)) (r (2 * y.toNatClampNeg + 1)) b52 :: mw κ a r f (va_up (va_up q 3 t27) 3 t63) (tb a) w) H locs := Bd_del 6 hB
                  replace hB : Bd κ A s (lA κ b48 ((r (2 * y.toNatClampNeg + 1)) * 5) F53 :: gO g47 (r (2 * y.toNatClampNeg + 1)) (r (2 * y.toNatClampNeg + 1)) b48 :: lA κ b50 ((r (2 * y.toNatClampNeg)) * 5) F54 :: gO g49 (r (2 * y.toNatClampNeg)) (r (2 * y.toNatClampNeg)) b50 :: lA κ b52 ((r (2 * y.toNatClampNeg)) * 5) F55 :: mw κ a r f (va_up (va_up q 3 t27) 3 t63) (tb a) w) H locs := Bd_del 5 hB
                  replace hB : Bd κ A s (lA κ b48 ((r (2 * y.toNatClampNeg + 1)) * 5) F53 :: gO g47 (r (2 * y.toNatClampNeg + 1)) (r (2 * y.toNatClampNeg + 1)) b48 :: lA κ b50 ((r (2 * y.toNatClampNeg)) * 5) F54 :: gO g49 (r (2 * y.toNatClampNeg)) (r (2 * y.toNatClampNeg)) b50 :: mw κ a r f (va_up (va_up q 3 t27) 3 t63) (tb a) w) H locs := Bd_del 4 hB
                  replace hB : Bd κ A s (lA κ b48 ((r (2 * y.toNatClampNeg + 1)) * 5) F53 :: gO g47 (r (2 * y.toNatClampNeg + 1)) (r (2 * y.toNatClampNeg + 1)) b48 :: lA κ b50 ((r (2 * y.toNatClampNeg)) * 5) F54 :: mw κ a r f (va_up (va_up q 3 t27) 3 t63) (tb a) w) H locs := Bd_del 3 hB
                  replace hB : Bd κ A s (lA κ b48 ((r (2 * y.toNatClampNeg + 1)) * 5) F53 :: gO g47 (r (2 * y.toNatClampNeg + 1)) (r (2 * y.toNatClampNeg + 1)) b48 :: mw κ a r f (va_up (va_up q 3 t27) 3 t63) (tb a) w) H locs := Bd_del 2 hB
                  replace hB : Bd κ A s (lA κ b48 ((r (2 * y.toNatClampNeg + 1)) * 5) F53 :: mw κ a r f (va_up (va_up q 3 t27) 3 t63) (tb a) w) H locs := Bd_del 1 hB
                  replace hB : Bd κ A s (mw κ a r f (va_up (va_up q 3 t27) 3 t63) (tb a) w) H locs := Bd_del 0 hB
                  rw [← hQ]
                  exact end_i hX hB hA3 rfl rfl ⟨S57, (va_up (va_up q 3 t27) 3 t63), rfl, rfl, rfl⟩ (Nat.le_of_ble_eq_true rfl) (Nat.le_of_ble_eq_true rfl) dX10_change_162
                · refine lv_aload_n hx hb dX10_change_151 rfl (lv_at hl 0 rfl) ?_
                  refine gf (k0 := 6) hX hB rfl rfl in9 3 (by decide) wm_6_224 rfl rfl dX10_change_152 ?_
                  refine lv_goto (tgt := 162) hx hb dX10_change_155 (by decide) ?_
                  replace hB : Bd κ A s (lA κ b48 ((r (2 * y.toNatClampNeg + 1)) * 5) F53 :: gO g47 (r (2 * y.toNatClampNeg + 1)) (r (2 * y.toNatClampNeg + 1)) b48 :: lA κ b50 ((r (2 * y.toNatClampNeg)) * 5) F54 :: gO g49 (r (2 * y.toNatClampNeg)) (r (2 * y.toNatClampNeg)) b50 :: lA κ b52 ((r (2 * y.toNatClampNeg)) * 5) F55 :: gO g51 (r (2 * y.toNatClampNeg)) (r (2 * y.toNatClampNeg + 1)) b52 :: mw κ a r f (va_up (va_up q 3 t27) 3 t63) (tb a) w) H locs := Bd_del 6 hB
                  replace hB : Bd κ A s (lA κ b48 ((r (2 * y.toNatClampNeg + 1)) * 5) F53 :: gO g47 (r (2 * y.toNatClampNeg + 1)) (r (2 * y.toNatClampNeg + 1)) b48 :: lA κ b50 ((r (2 * y.toNatClampNeg)) * 5) F54 :: gO g49 (r (2 * y.toNatClampNeg)) (r (2 * y.toNatClampNeg)) b50 :: lA κ b52 ((r (2 * y.toNatClampNeg)) * 5) F55 :: mw κ a r f (va_up (va_up q 3 t27) 3 t63) (tb a) w) H locs := Bd_del 5 hB
                  replace hB : Bd κ A s (lA κ b48 ((r (2 * y.toNatClampNeg + 1)) * 5) F53 :: gO g47 (r (2 * y.toNatClampNeg + 1)) (r (2 * y.toNatClampNeg + 1)) b48 :: lA κ b50 ((r (2 * y.toNatClampNeg)) * 5) F54 :: gO g49 (r (2 * y.toNatClampNeg)) (r (2 * y.toNatClampNeg)) b50 :: mw κ a r f (va_up (va_up q 3 t27) 3 t63) (tb a) w) H locs := Bd_del 4 hB
                  replace hB : Bd κ A s (lA κ b48 ((r (2 * y.toNatClampNeg + 1)) * 5) F53 :: gO g47 (r (2 * y.toNatClampNeg + 1)) (r (2 * y.toNatClampNeg + 1)) b48 :: lA κ b50 ((r (2 * y.toNatClampNeg)) * 5) F54 :: mw κ a r f (va_up (va_up q 3 t27) 3 t63) (tb a) w) H locs := Bd_del 3 hB
                  replace hB : Bd κ A s (lA κ b48 ((r (2 * y.toNatClampNeg + 1)) * 5) F53 :: gO g47 (r (2 * y.toNatClampNeg + 1)) (r (2 * y.toNatClampNeg + 1)) b48 :: mw κ a r f (va_up (va_up q 3 t27) 3 t63) (tb a) w) H locs := Bd_del 2 hB
                  replace hB : Bd κ A s (lA κ b48 ((r (2 * y.toNatClampNeg + 1)) * 5) F53 :: mw κ a r f (va_up (va_up q 3 t27) 3 t63) (tb a) w) H locs := Bd_del 1 hB
                  replace hB : Bd κ A s (mw κ a r f (va_up (va_up q 3 t27) 3 t63) (tb a) w) H locs := Bd_del 0 hB
                  rw [← hQ]
                  exact end_i hX hB hA3 rfl rfl ⟨S56, (va_up (va_up q 3 t27) 3 t63), rfl, rfl, rfl⟩ (Nat.le_of_ble_eq_true rfl) (Nat.le_of_ble_eq_true rfl) dX10_change_162
              · refine W.eq (g2 := F0 m 139 ls [.int 1]) rfl ?_
                refine lv_if_eq (tgt := 146) hx hb dX10_change_139 (by decide) (fun c68 => False.elim (by revert c68; decide)) (fun _ => ?_)
                refine lv_iconst (v := 0) hx hb dX10_change_142 (by decide) ?_
                refine lv_goto (tgt := 162) hx hb dX10_change_143 (by decide) ?_
                replace hB : Bd κ A s (lA κ b48 ((r (2 * y.toNatClampNeg + 1)) * 5) F53 :: gO g47 (r (2 * y.toNatClampNeg + 1)) (r (2 * y.toNatClampNeg + 1)) b48 :: lA κ b50 ((r (2 * y.toNatClampNeg)) * 5) F54 :: gO g49 (r (2 * y.toNatClampNeg)) (r (2 * y.toNatClampNeg)) b50 :: lA κ b52 ((r (2 * y.toNatClampNeg)) * 5) F55 :: gO g51 (r (2 * y.toNatClampNeg)) (r (2 * y.toNatClampNeg + 1)) b52 :: mw κ a r f (va_up (va_up q 3 t27) 3 t63) (tb a) w) H locs := Bd_del 6 hB
                replace hB : Bd κ A s (lA κ b48 ((r (2 * y.toNatClampNeg + 1)) * 5) F53 :: gO g47 (r (2 * y.toNatClampNeg + 1)) (r (2 * y.toNatClampNeg + 1)) b48 :: lA κ b50 ((r (2 * y.toNatClampNeg)) * 5) F54 :: gO g49 (r (2 * y.toNatClampNeg)) (r (2 * y.toNatClampNeg)) b50 :: lA κ b52 ((r (2 * y.toNatClampNeg)) * 5) F55 :: mw κ a r f (va_up (va_up q 3 t27) 3 t63) (tb a) w) H locs := Bd_del 5 hB
                replace hB : Bd κ A s (lA κ b48 ((r (2 * y.toNatClampNeg + 1)) * 5) F53 :: gO g47 (r (2 * y.toNatClampNeg + 1)) (r (2 * y.toNatClampNeg + 1)) b48 :: lA κ b50 ((r (2 * y.toNatClampNeg)) * 5) F54 :: gO g49 (r (2 * y.toNatClampNeg)) (r (2 * y.toNatClampNeg)) b50 :: mw κ a r f (va_up (va_up q 3 t27) 3 t63) (tb a) w) H locs := Bd_del 4 hB
                replace hB : Bd κ A s (lA κ b48 ((r (2 * y.toNatClampNeg + 1)) * 5) F53 :: gO g47 (r (2 * y.toNatClampNeg + 1)) (r (2 * y.toNatClampNeg + 1)) b48 :: lA κ b50 ((r (2 * y.toNatClampNeg)) * 5) F54 :: mw κ a r f (va_up (va_up q 3 t27) 3 t63) (tb a) w) H locs := Bd_del 3 hB
                replace hB : Bd κ A s (lA κ b48 ((r (2 * y.toNatClampNeg + 1)) * 5) F53 :: gO g47 (r (2 * y.toNatClampNeg + 1)) (r (2 * y.toNatClampNeg + 1)) b48 :: mw κ a r f (va_up (va_up q 3 t27) 3 t63) (tb a) w) H locs := Bd_del 2 hB
                replace hB : Bd κ A s (lA κ b48 ((r (2 * y.toNatClampNeg + 1)) * 5) F53 :: mw κ a r f (va_up (va_up q 3 t27) 3 t63) (tb a) w) H locs := Bd_del 1 hB
                replace hB : Bd κ A s (mw κ a r f (va_up (va_up q 3 t27) 3 t63) (tb a) w) H locs := Bd_del 0 hB
                rw [← hQ]
                exact end_i hX hB hA3 rfl rfl ⟨0, (va_up (va_up q 3 t27) 3 t63), rfl, rfl, rfl⟩ (Nat.le_of_ble_eq_true rfl) (Nat.le_of_ble_eq_true rfl) dX10_change_162
            · refine lv_aload_n hx hb dX10_change_116 rfl (lv_at hl 0 rfl) ?_
              refine gf (k0 := 6) hX hB rfl rfl in9 6 (by decide) wm_6_230 rfl rfl dX10_change_117 ?_
              refine lv_if_eq (tgt := 127) hx hb dX10_change_120 (by decide) (fun c69 => ?_) (fun c69 => ?_)
              · refine lv_iconst (v := 0) hx hb dX10_change_127 (by decide) ?_
                replace hB : Bd κ A s (lA κ b48 ((r (2 * y.toNatClampNeg + 1)) * 5) F53 :: gO g47 (r (2 * y.toNatClampNeg + 1)) (r (2 * y.toNatClampNeg + 1)) b48 :: lA κ b50 ((r (2 * y.toNatClampNeg)) * 5) F54 :: gO g49 (r (2 * y.toNatClampNeg)) (r (2 * y.toNatClampNeg)) b50 :: lA κ b52 ((r (2 * y.toNatClampNeg)) * 5) F55 :: gO g51 (r (2 * y.toNatClampNeg)) (r (2 * y.toNatClampNeg + 1)) b52 :: mw κ a r f (va_up q 3 t27) (tb a) w) H locs := Bd_del 6 hB
                replace hB : Bd κ A s (lA κ b48 ((r (2 * y.toNatClampNeg + 1)) * 5) F53 :: gO g47 (r (2 * y.toNatClampNeg + 1)) (r (2 * y.toNatClampNeg + 1)) b48 :: lA κ b50 ((r (2 * y.toNatClampNeg)) * 5) F54 :: gO g49 (r (2 * y.toNatClampNeg)) (r (2 * y.toNatClampNeg)) b50 :: lA κ b52 ((r (2 * y.toNatClampNeg)) * 5) F55 :: mw κ a r f (va_up q 3 t27) (tb a) w) H locs := Bd_del 5 hB
                replace hB : Bd κ A s (lA κ b48 ((r (2 * y.toNatClampNeg + 1)) * 5) F53 :: gO g47 (r (2 * y.toNatClampNeg + 1)) (r (2 * y.toNatClampNeg + 1)) b48 :: lA κ b50 ((r (2 * y.toNatClampNeg)) * 5) F54 :: gO g49 (r (2 * y.toNatClampNeg)) (r (2 * y.toNatClampNeg)) b50 :: mw κ a r f (va_up q 3 t27) (tb a) w) H locs := Bd_del 4 hB
                replace hB : Bd κ A s (lA κ b48 ((r (2 * y.toNatClampNeg + 1)) * 5) F53 :: gO g47 (r (2 * y.toNatClampNeg + 1)) (r (2 * y.toNatClampNeg + 1)) b48 :: lA κ b50 ((r (2 * y.toNatClampNeg)) * 5) F54 :: mw κ a r f (va_up q 3 t27) (tb a) w) H locs := Bd_del 3 hB
                replace hB : Bd κ A s (lA κ b48 ((r (2 * y.toNatClampNeg + 1)) * 5) F53 :: gO g47 (r (2 * y.toNatClampNeg + 1)) (r (2 * y.toNatClampNeg + 1)) b48 :: mw κ a r f (va_up q 3 t27) (tb a) w) H locs := Bd_del 2 hB
                replace hB : Bd κ A s (lA κ b48 ((r (2 * y.toNatClampNeg + 1)) * 5) F53 :: mw κ a r f (va_up q 3 t27) (tb a) w) H locs := Bd_del 1 hB
                replace hB : Bd κ A s (mw κ a r f (va_up q 3 t27) (tb a) w) H locs := Bd_del 0 hB
                rw [← hQ]
                exact end_i hX hB hA3 rfl rfl ⟨0, (va_up q 3 t27), rfl, rfl, rfl⟩ (Nat.le_of_ble_eq_true rfl) (Nat.le_of_ble_eq_true rfl) dX10_change_128
              · refine lv_iconst (v := 1) hx hb dX10_change_123 (by decide) ?_
                refine lv_goto (tgt := 128) hx hb dX10_change_124 (by decide) ?_
                replace hB : Bd κ A s (lA κ b48 ((r (2 * y.toNatClampNeg + 1)) * 5) F53 :: gO g47 (r (2 * y.toNatClampNeg + 1)) (r (2 * y.toNatClampNeg + 1)) b48 :: lA κ b50 ((r (2 * y.toNatClampNeg)) * 5) F54 :: gO g49 (r (2 * y.toNatClampNeg)) (r (2 * y.toNatClampNeg)) b50 :: lA κ b52 ((r (2 * y.toNatClampNeg)) * 5) F55 :: gO g51 (r (2 * y.toNatClampNeg)) (r (2 * y.toNatClampNeg + 1)) b52 :: mw κ a r f (va_up q 3 t27) (tb a) w) H locs := Bd_del 6 hB
                replace hB : Bd κ A s (lA κ b48 ((r (2 * y.toNatClampNeg + 1)) * 5) F53 :: gO g47 (r (2 * y.toNatClampNeg + 1)) (r (2 * y.toNatClampNeg + 1)) b48 :: lA κ b50 ((r (2 * y.toNatClampNeg)) * 5) F54 :: gO g49 (r (2 * y.toNatClampNeg)) (r (2 * y.toNatClampNeg)) b50 :: lA κ b52 ((r (2 * y.toNatClampNeg)) * 5) F55 :: mw κ a r f (va_up q 3 t27) (tb a) w) H locs := Bd_del 5 hB
                replace hB : Bd κ A s (lA κ b48 ((r (2 * y.toNatClampNeg + 1)) * 5) F53 :: gO g47 (r (2 * y.toNatClampNeg + 1)) (r (2 * y.toNatClampNeg + 1)) b48 :: lA κ b50 ((r (2 * y.toNatClampNeg)) * 5) F54 :: gO g49 (r (2 * y.toNatClampNeg)) (r (2 * y.toNatClampNeg)) b50 :: mw κ a r f (va_up q 3 t27) (tb a) w) H locs := Bd_del 4 hB
                replace hB : Bd κ A s (lA κ b48 ((r (2 * y.toNatClampNeg + 1)) * 5) F53 :: gO g47 (r (2 * y.toNatClampNeg + 1)) (r (2 * y.toNatClampNeg + 1)) b48 :: lA κ b50 ((r (2 * y.toNatClampNeg)) * 5) F54 :: mw κ a r f (va_up q 3 t27) (tb a) w) H locs := Bd_del 3 hB
                replace hB : Bd κ A s (lA κ b48 ((r (2 * y.toNatClampNeg + 1)) * 5) F53 :: gO g47 (r (2 * y.toNatClampNeg + 1)) (r (2 * y.toNatClampNeg + 1)) b48 :: mw κ a r f (va_up q 3 t27) (tb a) w) H locs := Bd_del 2 hB
                replace hB : Bd κ A s (lA κ b48 ((r (2 * y.toNatClampNeg + 1)) * 5) F53 :: mw κ a r f (va_up q 3 t27) (tb a) w) H locs := Bd_del 1 hB
                replace hB : Bd κ A s (mw κ a r f (va_up q 3 t27) (tb a) w) H locs := Bd_del 0 hB
                rw [← hQ]
                exact end_i hX hB hA3 rfl rfl ⟨1, (va_up q 3 t27), rfl, rfl, rfl⟩ (Nat.le_of_ble_eq_true rfl) (Nat.le_of_ble_eq_true rfl) dX10_change_128
          · refine newO (fs := [.null, .null, .int 0, .int 0]) hX hB (ci := 9) rfl in8 tyX8_ok wm_6_123 wm_6_124 wm_1_15 df9 (Nat.le_of_ble_eq_true rfl) (Nat.le_of_ble_eq_true rfl) dX10_change_44 (fun q70 H hB => ?_)
            refine lv_dup hx hb dX10_change_47 rfl ?_
            refine lv_aload_n hx hb dX10_change_48 rfl (lv_at hl 0 rfl) ?_
            refine gf (k0 := 1) hX hB (mw0x (a := a) (r := r) (f := f) (q := (va_up q 3 t27)) (T := tb a) (w := w) rfl) rfl in10 0 (by decide) wm_5_162 rfl rfl dX10_change_49 ?_
            refine lv_iload_n hx hb dX10_change_52 rfl (lv_at hl 1 rfl) ?_
            refine aaldM (k0 := 2) hX hB (mw1 (a := a) (r := r) (f := f) (q := (va_up q 3 t27)) (T := tb a) (w := w)) (vp_in_mk (by assumption) (by assumption)) rfl dX10_change_53 ?_
            have hb71 := mok_r hm y.toNatClampNeg (by omega)
            refine call_I (n := 1) (As := [.ref (a (2 + 2 * y.toNatClampNeg))]) (rest := [.ref q70]) hX hB (k_X8_init κ l (mw κ a r f (va_up q 3 t27) (tb a) w) q70 (2 + 2 * y.toNatClampNeg) (3 + 2 * y.toNatClampNeg) (a (2 + 2 * y.toNatClampNeg)) (a (3 + 2 * y.toNatClampNeg)) (r (2 * y.toNatClampNeg)) (r (2 * y.toNatClampNeg + 1)) (f y.toNatClampNeg) (mwG (i := y.toNatClampNeg) (a := a) (r := r) (f := f) (q := (va_up q 3 t27)) (T := tb a) (w := w) (by omega)) (mwA (i := y.toNatClampNeg) (a := a) (r := r) (f := f) (q := (va_up q 3 t27)) (T := tb a) (w := w) (by omega)) (mok_shp (i := y.toNatClampNeg) hm (by omega)) (fun k hk => sm_ng ((hm _ (by omega)).2 k hk))) ⟨by decide, by decide, by decide +kernel⟩ rfl wm_6_125 wm_6_126 wm_1_15 wm_6_127 ⟨Nat.le_of_ble_eq_true rfl, Nat.le_of_ble_eq_true rfl⟩ ⟨Nat.le_of_ble_eq_true rfl, Nat.le_of_ble_eq_true rfl⟩ rfl hl.1 rfl (Nat.le_of_ble_eq_true rfl) dX10_change_54 (fun o w' H locs hp hB => ?_)
            obtain ⟨g72, b73, g74, b75, F76, F77, S78, G79, rfl, hf80, hw9⟩ := hp
            replace hB : Bd κ A s (lA κ b73 ((r (2 * y.toNatClampNeg)) * 5) F76 :: gO g72 (r (2 * y.toNatClampNeg)) (r (2 * y.toNatClampNeg)) b73 :: lA κ b75 ((r (2 * y.toNatClampNeg)) * 5) F77 :: gO g74 (r (2 * y.toNatClampNeg)) (r (2 * y.toNatClampNeg + 1)) b75 :: (q70, .inr (9, [.ref g74, .ref g72, .int S78, .int G79])) :: mw κ a r f (va_up q 3 t27) (tb a) w) H locs := by rw [hw9] at hB; exact hB
            refine W.eq (g2 := F0 m 57 ls [.ref q70]) rfl ?_
            refine lv_astore_n (lv' := [(3, .ref q70), (0, .ref (a 0)), (1, .int y), (2, .int z)]) hx hb dX10_change_57 rfl hl (by decide) rfl (fun ls hl => ?_)
            refine lv_iload_n hx hb dX10_change_58 rfl (lv_at hl 3 rfl) ?_
            refine lv_if_ne (tgt := 75) hx hb dX10_change_59 (by decide) (fun _ => ?_) (fun c81 => False.elim (c30 c81))
            refine lv_aload_n hx hb dX10_change_75 rfl (lv_at hl 1 rfl) ?_
            refine lv_iconst (v := 0) hx hb dX10_change_76 (by decide) ?_
            refine lv_iconst (v := 0) hx hb dX10_change_77 (by decide) ?_
            refine lv_aload_n hx hb dX10_change_78 rfl (lv_at hl 0 rfl) ?_
            refine gf (k0 := 4) hX hB rfl rfl in8 3 (by decide) wm_6_162 rfl rfl dX10_change_79 ?_
            refine call_V (n := 3) (k0 := 5) (As := [.int 0, .int 0, .int G79]) (rest := []) hX hB (k_X10_isThrown κ l (lA κ b73 ((r (2 * y.toNatClampNeg)) * 5) F76 :: gO g72 (r (2 * y.toNatClampNeg)) (r (2 * y.toNatClampNeg)) b73 :: lA κ b75 ((r (2 * y.toNatClampNeg)) * 5) F77 :: gO g74 (r (2 * y.toNatClampNeg)) (r (2 * y.toNatClampNeg + 1)) b75 :: (q70, .inr (9, [.ref g74, .ref g72, .int S78, .int G79])) :: mw κ a r f (va_up q 3 t27) (tb a) w) 5 (a 0) (a 1) ((va_up q 3 t27) 0) ((va_up q 3 t27) 1) ((va_up q 3 t27) 2) ((va_up q 3 t27) 3) 0 0 G79 (mw0x (a := a) (r := r) (f := f) (q := (va_up q 3 t27)) (T := tb a) (w := w) rfl)) ⟨rfl, by decide, by decide, by decide +kernel⟩ wm_5_192 wm_5_194 wp_28 wm_1_6 wm_5_195 ⟨Nat.le_of_ble_eq_true rfl, Nat.le_of_ble_eq_true rfl⟩ ⟨Nat.le_of_ble_eq_true rfl, Nat.le_of_ble_eq_true rfl⟩ (mw0x (a := a) (r := r) (f := f) (q := (va_up q 3 t27)) (T := tb a) (w := w) rfl) rfl rfl rfl hl.1 rfl (Nat.le_of_ble_eq_true rfl) dX10_change_82 (fun o w' H locs hp hB => ?_)
            obtain ⟨x82, t83, rfl, hf84, hw9⟩ := hp
            replace hB : Bd κ A s (lA κ b73 ((r (2 * y.toNatClampNeg)) * 5) F76 :: gO g72 (r (2 * y.toNatClampNeg)) (r (2 * y.toNatClampNeg)) b73 :: lA κ b75 ((r (2 * y.toNatClampNeg)) * 5) F77 :: gO g74 (r (2 * y.toNatClampNeg)) (r (2 * y.toNatClampNeg + 1)) b75 :: (q70, .inr (9, [.ref g74, .ref g72, .int S78, .int G79])) :: mw κ a r f (va_up (va_up q 3 t27) 3 t83) (tb a) w) H locs := by exact Bd_eq (congrArg (List.cons _) (congrArg (List.cons _) (congrArg (List.cons _) (congrArg (List.cons _) (congrArg (List.cons _) (mwQ3x rfl _)))))) (by rw [hw9] at hB; exact hB)
            rcases thr_cases hf84 with ⟨rfl, hz85a, hz85b, hz85c⟩ | ⟨rfl, hz85⟩
            · refine W.eq (g2 := F0 m 85 ls [.int 0]) rfl ?_
              refine lv_if_eq (tgt := 92) hx hb dX10_change_85 (by decide) (fun _ => ?_) (fun c86 => False.elim (by revert c86; decide))
              refine lv_aload_n hx hb dX10_change_92 rfl (lv_at hl 0 rfl) ?_
              refine gf (k0 := 4) hX hB rfl rfl in8 2 (by decide) wm_6_160 rfl rfl dX10_change_93 ?_
              replace hB : Bd κ A s (lA κ b73 ((r (2 * y.toNatClampNeg)) * 5) F76 :: gO g72 (r (2 * y.toNatClampNeg)) (r (2 * y.toNatClampNeg)) b73 :: lA κ b75 ((r (2 * y.toNatClampNeg)) * 5) F77 :: gO g74 (r (2 * y.toNatClampNeg)) (r (2 * y.toNatClampNeg + 1)) b75 :: mw κ a r f (va_up (va_up q 3 t27) 3 t83) (tb a) w) H locs := Bd_del 4 hB
              replace hB : Bd κ A s (lA κ b73 ((r (2 * y.toNatClampNeg)) * 5) F76 :: gO g72 (r (2 * y.toNatClampNeg)) (r (2 * y.toNatClampNeg)) b73 :: lA κ b75 ((r (2 * y.toNatClampNeg)) * 5) F77 :: mw κ a r f (va_up (va_up q 3 t27) 3 t83) (tb a) w) H locs := Bd_del 3 hB
              replace hB : Bd κ A s (lA κ b73 ((r (2 * y.toNatClampNeg)) * 5) F76 :: gO g72 (r (2 * y.toNatClampNeg)) (r (2 * y.toNatClampNeg)) b73 :: mw κ a r f (va_up (va_up q 3 t27) 3 t83) (tb a) w) H locs := Bd_del 2 hB
              replace hB : Bd κ A s (lA κ b73 ((r (2 * y.toNatClampNeg)) * 5) F76 :: mw κ a r f (va_up (va_up q 3 t27) 3 t83) (tb a) w) H locs := Bd_del 1 hB
              replace hB : Bd κ A s (mw κ a r f (va_up (va_up q 3 t27) 3 t83) (tb a) w) H locs := Bd_del 0 hB
              rw [← hQ]
              exact end_i hX hB hA3 rfl rfl ⟨S78, (va_up (va_up q 3 t27) 3 t83), rfl, rfl, rfl⟩ (Nat.le_of_ble_eq_true rfl) (Nat.le_of_ble_eq_true rfl) dX10_change_96
            · refine W.eq (g2 := F0 m 85 ls [.int 1]) rfl ?_
              refine lv_if_eq (tgt := 92) hx hb dX10_change_85 (by decide) (fun c87 => False.elim (by revert c87; decide)) (fun _ => ?_)
              refine lv_iconst (v := 0) hx hb dX10_change_88 (by decide) ?_
              refine lv_goto (tgt := 96) hx hb dX10_change_89 (by decide) ?_
              replace hB : Bd κ A s (lA κ b73 ((r (2 * y.toNatClampNeg)) * 5) F76 :: gO g72 (r (2 * y.toNatClampNeg)) (r (2 * y.toNatClampNeg)) b73 :: lA κ b75 ((r (2 * y.toNatClampNeg)) * 5) F77 :: gO g74 (r (2 * y.toNatClampNeg)) (r (2 * y.toNatClampNeg + 1)) b75 :: mw κ a r f (va_up (va_up q 3 t27) 3 t83) (tb a) w) H locs := Bd_del 4 hB
              replace hB : Bd κ A s (lA κ b73 ((r (2 * y.toNatClampNeg)) * 5) F76 :: gO g72 (r (2 * y.toNatClampNeg)) (r (2 * y.toNatClampNeg)) b73 :: lA κ b75 ((r (2 * y.toNatClampNeg)) * 5) F77 :: mw κ a r f (va_up (va_up q 3 t27) 3 t83) (tb a) w) H locs := Bd_del 3 hB
              replace hB : Bd κ A s (lA κ b73 ((r (2 * y.toNatClampNeg)) * 5) F76 :: gO g72 (r (2 * y.toNatClampNeg)) (r (2 * y.toNatClampNeg)) b73 :: mw κ a r f (va_up (va_up q 3 t27) 3 t83) (tb a) w) H locs := Bd_del 2 hB
              replace hB : Bd κ A s (lA κ b73 ((r (2 * y.toNatClampNeg)) * 5) F76 :: mw κ a r f (va_up (va_up q 3 t27) 3 t83) (tb a) w) H locs := Bd_del 1 hB
              replace hB : Bd κ A s (mw κ a r f (va_up (va_up q 3 t27) 3 t83) (tb a) w) H locs := Bd_del 0 hB
              rw [← hQ]
              exact end_i hX hB hA3 rfl rfl ⟨0, (va_up (va_up q 3 t27) 3 t83), rfl, rfl, rfl⟩ (Nat.le_of_ble_eq_true rfl) (Nat.le_of_ble_eq_true rfl) dX10_change_96
      · refine lv_iconst (v := 1) hx hb dX10_change_22 (by decide) ?_
        refine lv_goto (tgt := 27) hx hb dX10_change_23 (by decide) ?_
        refine call_V (n := 2) (k0 := 0) (As := [.int 0, .int 1]) (rest := []) hX hB (k_X10_isThrown_ κ l (mw κ a r f q (tb a) w) 0 (a 0) (a 1) (q 0) (q 1) (q 2) (q 3) 0 1 (mw0x (a := a) (r := r) (f := f) (q := q) (T := tb a) (w := w) rfl)) ⟨rfl, by decide, by decide, by decide +kernel⟩ wm_5_188 wm_5_190 wp_27 wm_1_6 wm_5_191 ⟨Nat.le_of_ble_eq_true rfl, Nat.le_of_ble_eq_true rfl⟩ ⟨Nat.le_of_ble_eq_true rfl, Nat.le_of_ble_eq_true rfl⟩ (mw0x (a := a) (r := r) (f := f) (q := q) (T := tb a) (w := w) rfl) rfl rfl rfl hl.1 rfl (Nat.le_of_ble_eq_true rfl) dX10_change_27 (fun o w' H locs hp hB => ?_)
        obtain ⟨x88, t89, rfl, hf90, hw9⟩ := hp
        replace hB : Bd κ A s (mw κ a r f (va_up q 3 t89) (tb a) w) H locs := by exact Bd_eq (mwQ3x rfl _) (by rw [hw9] at hB; exact hB)
        obtain rfl : x88 = 1 := hf90.trans (by decide)
        refine W.eq (g2 := F0 m 30 ls [.int 1]) rfl ?_
        refine lv_if_eq (tgt := 35) hx hb dX10_change_30 (by decide) (fun c91 => False.elim (by revert c91; decide)) (fun _ => ?_)
        refine lv_iconst (v := 0) hx hb dX10_change_33 (by decide) ?_
        rw [← hQ]
        exact end_i hX hB hA3 rfl rfl ⟨0, (va_up q 3 t89), rfl, rfl, rfl⟩ (Nat.le_of_ble_eq_true rfl) (Nat.le_of_ble_eq_true rfl) dX10_change_34
set_option maxHeartbeats 4000000 in
set_option maxRecDepth 100000 in
theorem k_X10_isSolvable (κ : Kt) (l : Launch) (w : va_W) (a r : Nat → Nat) (f : Nat → Nat → Int64) (q : Nat → Int32) (y : Int32) (z : Int32) (u : Int32) (v : Int32) (hm : mok r f) : CM κ l yX10_isSolvable cX10_isSolvable 7 (some .boolean) 133 3061 11 122 [.ref (a 0), .int y, .int z, .int u, .int v] (mw κ a r f q (tb a) w) (fun o w' => ∃ (x : Int32) (q' : Nat → Int32), o = some (.int x) ∧ (x = 0 ∨ x = 1) ∧ (q' 2 = q 2) ∧ w' = mw κ a r f q' (tb a) w) := by
  refine CM_begin (plainFor_of_name (by decide)) (Nat.le_of_ble_eq_true rfl) ?_
  intro p e s m args below meth c A Q hX hnm hA3 hQ hB ls hl
  have hx := hX.1.1
  have hb := hX.1.2.1
  have hl : lv_has ls 7 [(0, .ref (a 0)), (1, .int y), (2, .int z), (3, .int u), (4, .int v)] := hl
  refine lv_aload_n hx hb dX10_isSolvable_0 rfl (lv_at hl 0 rfl) ?_
  refine lv_iload_n hx hb dX10_isSolvable_1 rfl (lv_at hl 1 rfl) ?_
  refine call_S (n := 1) (As := [.int y]) (rest := [.ref (a 0)]) hX hB (k_X10_isTable κ l (mw κ a r f q (tb a) w) y) ⟨by decide, by decide, by decide +kernel⟩ wm_5_182 wm_5_183 wm_1_6 wm_5_184 ⟨Nat.le_of_ble_eq_true rfl, Nat.le_of_ble_eq_true rfl⟩ ⟨Nat.le_of_ble_eq_true rfl, Nat.le_of_ble_eq_true rfl⟩ rfl hl.1 rfl (Nat.le_of_ble_eq_true rfl) dX10_isSolvable_2 (fun o w' H locs hp hB => ?_)
  obtain ⟨z1, rfl, hf2, hw9⟩ := hp
  replace hB : Bd κ A s (mw κ a r f q (tb a) w) H locs := by rw [hw9] at hB; exact hB
  rcases hf2 with rfl | ⟨rfl, hz3a, hz3b⟩
  · refine W.eq (g2 := F0 m 5 ls [.int 0, .ref (a 0)]) rfl ?_
    refine lv_if_eq (tgt := 17) hx hb dX10_isSolvable_5 (by decide) (fun _ => ?_) (fun c4 => False.elim (by revert c4; decide))
    refine lv_iconst (v := 1) hx hb dX10_isSolvable_17 (by decide) ?_
    refine lv_goto (tgt := 22) hx hb dX10_isSolvable_18 (by decide) ?_
    refine call_V (n := 1) (k0 := 0) (As := [.int 1]) (rest := []) hX hB (k_X10_isThrown__ κ l (mw κ a r f q (tb a) w) 0 (a 0) (a 1) (q 0) (q 1) (q 2) (q 3) 1 (mw0x (a := a) (r := r) (f := f) (q := q) (T := tb a) (w := w) rfl)) ⟨rfl, by decide, by decide, by decide +kernel⟩ wm_6_11 wm_6_13 wp_33 wm_1_6 wm_6_14 ⟨Nat.le_of_ble_eq_true rfl, Nat.le_of_ble_eq_true rfl⟩ ⟨Nat.le_of_ble_eq_true rfl, Nat.le_of_ble_eq_true rfl⟩ (mw0x (a := a) (r := r) (f := f) (q := q) (T := tb a) (w := w) rfl) rfl rfl rfl hl.1 rfl (Nat.le_of_ble_eq_true rfl) dX10_isSolvable_22 (fun o w' H locs hp hB => ?_)
    obtain ⟨x5, t6, rfl, hf7, hw9⟩ := hp
    replace hB : Bd κ A s (mw κ a r f (va_up q 3 t6) (tb a) w) H locs := by exact Bd_eq (mwQ3x rfl _) (by rw [hw9] at hB; exact hB)
    obtain rfl : x5 = 1 := hf7.trans (by decide)
    refine W.eq (g2 := F0 m 25 ls [.int 1]) rfl ?_
    refine lv_if_eq (tgt := 30) hx hb dX10_isSolvable_25 (by decide) (fun c8 => False.elim (by revert c8; decide)) (fun _ => ?_)
    refine lv_iconst (v := 0) hx hb dX10_isSolvable_28 (by decide) ?_
    rw [← hQ]
    exact end_i hX hB hA3 rfl rfl ⟨0, (va_up q 3 t6), rfl, (Or.inl rfl), rfl, rfl⟩ (Nat.le_of_ble_eq_true rfl) (Nat.le_of_ble_eq_true rfl) dX10_isSolvable_29
  · refine W.eq (g2 := F0 m 5 ls [.int 1, .ref (a 0)]) rfl ?_
    refine lv_if_eq (tgt := 17) hx hb dX10_isSolvable_5 (by decide) (fun c9 => False.elim (by revert c9; decide)) (fun _ => ?_)
    refine lv_aload_n hx hb dX10_isSolvable_8 rfl (lv_at hl 0 rfl) ?_
    refine lv_iload_n hx hb dX10_isSolvable_9 rfl (lv_at hl 2 rfl) ?_
    refine lv_iload_n hx hb dX10_isSolvable_10 rfl (lv_at hl 3 rfl) ?_
    refine call_V (n := 2) (k0 := 0) (As := [.int z, .int u]) (rest := [.ref (a 0)]) hX hB (k_X10_isColumn κ l w a r f q z u hm) ⟨rfl, by decide, by decide, by decide +kernel⟩ wm_5_229 wm_5_231 wp_32 wm_1_6 wm_5_232 ⟨Nat.le_of_ble_eq_true rfl, Nat.le_of_ble_eq_true rfl⟩ ⟨Nat.le_of_ble_eq_true rfl, Nat.le_of_ble_eq_true rfl⟩ (mw0x (a := a) (r := r) (f := f) (q := q) (T := tb a) (w := w) rfl) rfl rfl rfl hl.1 rfl (Nat.le_of_ble_eq_true rfl) dX10_isSolvable_11 (fun o w' H locs hp hB => ?_)
    obtain ⟨x10, rfl, hf11, hw9⟩ := hp
    replace hB : Bd κ A s (mw κ a r f q (tb a) w) H locs := by rw [hw9] at hB; exact hB
    rcases hf11 with rfl | ⟨rfl, hz12a, hz12b, hz12c, hz12d⟩
    · refine W.eq (g2 := F0 m 14 ls [.int 0, .ref (a 0)]) rfl ?_
      refine lv_if_ne (tgt := 21) hx hb dX10_isSolvable_14 (by decide) (fun c13 => False.elim (by revert c13; decide)) (fun _ => ?_)
      refine lv_iconst (v := 1) hx hb dX10_isSolvable_17 (by decide) ?_
      refine lv_goto (tgt := 22) hx hb dX10_isSolvable_18 (by decide) ?_
      refine call_V (n := 1) (k0 := 0) (As := [.int 1]) (rest := []) hX hB (k_X10_isThrown__ κ l (mw κ a r f q (tb a) w) 0 (a 0) (a 1) (q 0) (q 1) (q 2) (q 3) 1 (mw0x (a := a) (r := r) (f := f) (q := q) (T := tb a) (w := w) rfl)) ⟨rfl, by decide, by decide, by decide +kernel⟩ wm_6_11 wm_6_13 wp_33 wm_1_6 wm_6_14 ⟨Nat.le_of_ble_eq_true rfl, Nat.le_of_ble_eq_true rfl⟩ ⟨Nat.le_of_ble_eq_true rfl, Nat.le_of_ble_eq_true rfl⟩ (mw0x (a := a) (r := r) (f := f) (q := q) (T := tb a) (w := w) rfl) rfl rfl rfl hl.1 rfl (Nat.le_of_ble_eq_true rfl) dX10_isSolvable_22 (fun o w' H locs hp hB => ?_)
      obtain ⟨x14, t15, rfl, hf16, hw9⟩ := hp
      replace hB : Bd κ A s (mw κ a r f (va_up q 3 t15) (tb a) w) H locs := by exact Bd_eq (mwQ3x rfl _) (by rw [hw9] at hB; exact hB)
      obtain rfl : x14 = 1 := hf16.trans (by decide)
      refine W.eq (g2 := F0 m 25 ls [.int 1]) rfl ?_
      refine lv_if_eq (tgt := 30) hx hb dX10_isSolvable_25 (by decide) (fun c17 => False.elim (by revert c17; decide)) (fun _ => ?_)
      refine lv_iconst (v := 0) hx hb dX10_isSolvable_28 (by decide) ?_
      rw [← hQ]
      exact end_i hX hB hA3 rfl rfl ⟨0, (va_up q 3 t15), rfl, (Or.inl rfl), rfl, rfl⟩ (Nat.le_of_ble_eq_true rfl) (Nat.le_of_ble_eq_true rfl) dX10_isSolvable_29
    · refine W.eq (g2 := F0 m 14 ls [.int 1, .ref (a 0)]) rfl ?_
      refine lv_if_ne (tgt := 21) hx hb dX10_isSolvable_14 (by decide) (fun _ => ?_) (fun c18 => False.elim (by revert c18; decide))
      refine lv_iconst (v := 0) hx hb dX10_isSolvable_21 (by decide) ?_
      refine call_V (n := 1) (k0 := 0) (As := [.int 0]) (rest := []) hX hB (k_X10_isThrown__ κ l (mw κ a r f q (tb a) w) 0 (a 0) (a 1) (q 0) (q 1) (q 2) (q 3) 0 (mw0x (a := a) (r := r) (f := f) (q := q) (T := tb a) (w := w) rfl)) ⟨rfl, by decide, by decide, by decide +kernel⟩ wm_6_11 wm_6_13 wp_33 wm_1_6 wm_6_14 ⟨Nat.le_of_ble_eq_true rfl, Nat.le_of_ble_eq_true rfl⟩ ⟨Nat.le_of_ble_eq_true rfl, Nat.le_of_ble_eq_true rfl⟩ (mw0x (a := a) (r := r) (f := f) (q := q) (T := tb a) (w := w) rfl) rfl rfl rfl hl.1 rfl (Nat.le_of_ble_eq_true rfl) dX10_isSolvable_22 (fun o w' H locs hp hB => ?_)
      obtain ⟨x19, t20, rfl, hf21, hw9⟩ := hp
      replace hB : Bd κ A s (mw κ a r f (va_up q 3 t20) (tb a) w) H locs := by exact Bd_eq (mwQ3x rfl _) (by rw [hw9] at hB; exact hB)
      obtain rfl : x19 = 0 := hf21.trans (by decide)
      refine W.eq (g2 := F0 m 25 ls [.int 0]) rfl ?_
      refine lv_if_eq (tgt := 30) hx hb dX10_isSolvable_25 (by decide) (fun _ => ?_) (fun c22 => False.elim (by revert c22; decide))
      refine lv_aload_n hx hb dX10_isSolvable_30 rfl (lv_at hl 0 rfl) ?_
      refine gf (k0 := 0) hX hB (mw0x (a := a) (r := r) (f := f) (q := (va_up q 3 t20)) (T := tb a) (w := w) rfl) rfl in10 0 (by decide) wm_5_162 rfl rfl dX10_isSolvable_31 ?_
      refine lv_iload_n hx hb dX10_isSolvable_34 rfl (lv_at hl 1 rfl) ?_
      refine aaldM (k0 := 1) hX hB (mw1 (a := a) (r := r) (f := f) (q := (va_up q 3 t20)) (T := tb a) (w := w)) (vp_in_mk (by assumption) (by assumption)) rfl dX10_isSolvable_35 ?_
      have hb23 := mok_r hm y.toNatClampNeg (by omega)
      refine lv_astore (lv' := [(5, .ref (a (2 + 2 * y.toNatClampNeg))), (0, .ref (a 0)), (1, .int y), (2, .int z), (3, .int u), (4, .int v)]) hx hb dX10_isSolvable_36 hl (by decide) rfl (fun ls hl => ?_)
      refine lv_aload_n hx hb dX10_isSolvable_38 rfl (lv_at hl 1 rfl) ?_
      refine lv_iconst (v := 0) hx hb dX10_isSolvable_39 (by decide) ?_
      refine lv_aload hx hb dX10_isSolvable_40 (lv_at hl 0 rfl) ?_
      refine gf (k0 := 2 + 2 * y.toNatClampNeg) hX hB (mwG (i := y.toNatClampNeg) (a := a) (r := r) (f := f) (q := (va_up q 3 t20)) (T := tb a) (w := w) (by omega)) rfl in7 0 (by decide) wm_5_148 rfl rfl dX10_isSolvable_42 ?_
      refine lv_aload_n hx hb dX10_isSolvable_45 rfl (lv_at hl 1 rfl) ?_
      refine gf (k0 := 0) hX hB (mw0x (a := a) (r := r) (f := f) (q := (va_up q 3 t20)) (T := tb a) (w := w) rfl) rfl in10 0 (by decide) wm_5_162 rfl rfl dX10_isSolvable_46 ?_
      refine lv_iload_n hx hb dX10_isSolvable_49 rfl (lv_at hl 3 rfl) ?_
      refine aaldM (k0 := 1) hX hB (mw1 (a := a) (r := r) (f := f) (q := (va_up q 3 t20)) (T := tb a) (w := w)) (vp_in_mk (by assumption) (by assumption)) rfl dX10_isSolvable_50 ?_
      have hb24 := mok_r hm z.toNatClampNeg (by omega)
      refine gf (k0 := 2 + 2 * z.toNatClampNeg) hX hB (mwG (i := z.toNatClampNeg) (a := a) (r := r) (f := f) (q := (va_up q 3 t20)) (T := tb a) (w := w) (by omega)) rfl in7 0 (by decide) wm_5_148 rfl rfl dX10_isSolvable_51 ?_
      refine lv_icmp_ne (tgt := 68) hx hb dX10_isSolvable_54 (by decide) (fun c25 => ?_) (fun c25 => ?_)
      · rw [neqP (a := r (2 * y.toNatClampNeg)) (b := r (2 * z.toNatClampNeg)) (by omega) (by omega)] at c25
        refine lv_iconst (v := 1) hx hb dX10_isSolvable_68 (by decide) ?_
        refine lv_goto (tgt := 73) hx hb dX10_isSolvable_69 (by decide) ?_
        refine call_V (n := 2) (k0 := 0) (As := [.int 0, .int 1]) (rest := []) hX hB (k_X10_isThrown_ κ l (mw κ a r f (va_up q 3 t20) (tb a) w) 0 (a 0) (a 1) ((va_up q 3 t20) 0) ((va_up q 3 t20) 1) ((va_up q 3 t20) 2) ((va_up q 3 t20) 3) 0 1 (mw0x (a := a) (r := r) (f := f) (q := (va_up q 3 t20)) (T := tb a) (w := w) rfl)) ⟨rfl, by decide, by decide, by decide +kernel⟩ wm_5_188 wm_5_190 wp_27 wm_1_6 wm_5_191 ⟨Nat.le_of_ble_eq_true rfl, Nat.le_of_ble_eq_true rfl⟩ ⟨Nat.le_of_ble_eq_true rfl, Nat.le_of_ble_eq_true rfl⟩ (mw0x (a := a) (r := r) (f := f) (q := (va_up q 3 t20)) (T := tb a) (w := w) rfl) rfl rfl rfl hl.1 rfl (Nat.le_of_ble_eq_true rfl) dX10_isSolvable_73 (fun o w' H locs hp hB => ?_)
        obtain ⟨x26, t27, rfl, hf28, hw9⟩ := hp
        replace hB : Bd κ A s (mw κ a r f (va_up (va_up q 3 t20) 3 t27) (tb a) w) H locs := by exact Bd_eq (mwQ3x rfl _) (by rw [hw9] at hB; exact hB)
        obtain rfl : x26 = 1 := hf28.trans (by decide)
        refine W.eq (g2 := F0 m 76 ls [.int 1]) rfl ?_
        refine lv_if_eq (tgt := 81) hx hb dX10_isSolvable_76 (by decide) (fun c29 => False.elim (by revert c29; decide)) (fun _ => ?_)
        refine lv_iconst (v := 0) hx hb dX10_isSolvable_79 (by decide) ?_
        rw [← hQ]
        exact end_i hX hB hA3 rfl rfl ⟨0, (va_up (va_up q 3 t20) 3 t27), rfl, (Or.inl rfl), rfl, rfl⟩ (Nat.le_of_ble_eq_true rfl) (Nat.le_of_ble_eq_true rfl) dX10_isSolvable_80
      · rw [neqP (a := r (2 * y.toNatClampNeg)) (b := r (2 * z.toNatClampNeg)) (by omega) (by omega)] at c25
        refine lv_iload hx hb dX10_isSolvable_57 (lv_at hl 5 rfl) ?_
        refine lv_if_lt (tgt := 68) hx hb dX10_isSolvable_59 (by decide) (fun c30 => ?_) (fun c30 => ?_)
        · refine lv_iconst (v := 1) hx hb dX10_isSolvable_68 (by decide) ?_
          refine lv_goto (tgt := 73) hx hb dX10_isSolvable_69 (by decide) ?_
          refine call_V (n := 2) (k0 := 0) (As := [.int 0, .int 1]) (rest := []) hX hB (k_X10_isThrown_ κ l (mw κ a r f (va_up q 3 t20) (tb a) w) 0 (a 0) (a 1) ((va_up q 3 t20) 0) ((va_up q 3 t20) 1) ((va_up q 3 t20) 2) ((va_up q 3 t20) 3) 0 1 (mw0x (a := a) (r := r) (f := f) (q := (va_up q 3 t20)) (T := tb a) (w := w) rfl)) ⟨rfl, by decide, by decide, by decide +kernel⟩ wm_5_188 wm_5_190 wp_27 wm_1_6 wm_5_191 ⟨Nat.le_of_ble_eq_true rfl, Nat.le_of_ble_eq_true rfl⟩ ⟨Nat.le_of_ble_eq_true rfl, Nat.le_of_ble_eq_true rfl⟩ (mw0x (a := a) (r := r) (f := f) (q := (va_up q 3 t20)) (T := tb a) (w := w) rfl) rfl rfl rfl hl.1 rfl (Nat.le_of_ble_eq_true rfl) dX10_isSolvable_73 (fun o w' H locs hp hB => ?_)
          obtain ⟨x31, t32, rfl, hf33, hw9⟩ := hp
          replace hB : Bd κ A s (mw κ a r f (va_up (va_up q 3 t20) 3 t32) (tb a) w) H locs := by exact Bd_eq (mwQ3x rfl _) (by rw [hw9] at hB; exact hB)
          obtain rfl : x31 = 1 := hf33.trans (by decide)
          refine W.eq (g2 := F0 m 76 ls [.int 1]) rfl ?_
          refine lv_if_eq (tgt := 81) hx hb dX10_isSolvable_76 (by decide) (fun c34 => False.elim (by revert c34; decide)) (fun _ => ?_)
          refine lv_iconst (v := 0) hx hb dX10_isSolvable_79 (by decide) ?_
          rw [← hQ]
          exact end_i hX hB hA3 rfl rfl ⟨0, (va_up (va_up q 3 t20) 3 t32), rfl, (Or.inl rfl), rfl, rfl⟩ (Nat.le_of_ble_eq_true rfl) (Nat.le_of_ble_eq_true rfl) dX10_isSolvable_80
        · refine lv_iload hx hb dX10_isSolvable_62 (lv_at hl 5 rfl) ?_
          refine lv_iconst (v := 1) hx hb dX10_isSolvable_64 (by decide) ?_
          refine lv_icmp_le (tgt := 72) hx hb dX10_isSolvable_65 (by decide) (fun c35 => ?_) (fun c35 => ?_)
          · refine lv_iconst (v := 0) hx hb dX10_isSolvable_72 (by decide) ?_
            refine call_V (n := 2) (k0 := 0) (As := [.int 0, .int 0]) (rest := []) hX hB (k_X10_isThrown_ κ l (mw κ a r f (va_up q 3 t20) (tb a) w) 0 (a 0) (a 1) ((va_up q 3 t20) 0) ((va_up q 3 t20) 1) ((va_up q 3 t20) 2) ((va_up q 3 t20) 3) 0 0 (mw0x (a := a) (r := r) (f := f) (q := (va_up q 3 t20)) (T := tb a) (w := w) rfl)) ⟨rfl, by decide, by decide, by decide +kernel⟩ wm_5_188 wm_5_190 wp_27 wm_1_6 wm_5_191 ⟨Nat.le_of_ble_eq_true rfl, Nat.le_of_ble_eq_true rfl⟩ ⟨Nat.le_of_ble_eq_true rfl, Nat.le_of_ble_eq_true rfl⟩ (mw0x (a := a) (r := r) (f := f) (q := (va_up q 3 t20)) (T := tb a) (w := w) rfl) rfl rfl rfl hl.1 rfl (Nat.le_of_ble_eq_true rfl) dX10_isSolvable_73 (fun o w' H locs hp hB => ?_)
            obtain ⟨x36, t37, rfl, hf38, hw9⟩ := hp
            replace hB : Bd κ A s (mw κ a r f (va_up (va_up q 3 t20) 3 t37) (tb a) w) H locs := by exact Bd_eq (mwQ3x rfl _) (by rw [hw9] at hB; exact hB)
            obtain rfl : x36 = 0 := hf38.trans (by decide)
            refine W.eq (g2 := F0 m 76 ls [.int 0]) rfl ?_
            refine lv_if_eq (tgt := 81) hx hb dX10_isSolvable_76 (by decide) (fun _ => ?_) (fun c39 => False.elim (by revert c39; decide))
            refine lv_iload hx hb dX10_isSolvable_81 (lv_at hl 5 rfl) ?_
            refine lv_iconst (v := 1) hx hb dX10_isSolvable_83 (by decide) ?_
            refine lv_icmp_ne (tgt := 99) hx hb dX10_isSolvable_84 (by decide) (fun c40 => ?_) (fun c40 => ?_)
            · refine newO (fs := [.null, .null, .null, .int 0, .int 0, .int 0, .int 0]) hX hB (ci := 10) rfl in9 tyX9_ok wm_6_172 wm_6_173 wm_1_16 df10 (Nat.le_of_ble_eq_true rfl) (Nat.le_of_ble_eq_true rfl) dX10_isSolvable_99 (fun q41 H hB => ?_)
              refine lv_dup hx hb dX10_isSolvable_102 rfl ?_
              refine lv_aload hx hb dX10_isSolvable_103 (lv_at hl 0 rfl) ?_
              refine call_I (n := 1) (As := [.ref (a (2 + 2 * y.toNatClampNeg))]) (rest := [.ref q41]) hX hB (k_X9_init κ l (mw κ a r f (va_up (va_up q 3 t20) 3 t37) (tb a) w) q41 (2 + 2 * y.toNatClampNeg) (3 + 2 * y.toNatClampNeg) (a (2 + 2 * y.toNatClampNeg)) (a (3 + 2 * y.toNatClampNeg)) (r (2 * y.toNatClampNeg)) (r (2 * y.toNatClampNeg + 1)) (f y.toNatClampNeg) (mwG (i := y.toNatClampNeg) (a := a) (r := r) (f := f) (q := (va_up (va_up q 3 t20) 3 t37)) (T := tb a) (w := w) (by omega)) (mwA (i := y.toNatClampNeg) (a := a) (r := r) (f := f) (q := (va_up (va_up q 3 t20) 3 t37)) (T := tb a) (w := w) (by omega)) (mok_shp (i := y.toNatClampNeg) hm (by omega)) (by omega) (fun k hk => sm_ng ((hm _ (by omega)).2 k hk))) ⟨by decide, by decide, by decide +kernel⟩ rfl wm_6_174 wm_6_175 wm_1_16 wm_6_176 ⟨Nat.le_of_ble_eq_true rfl, Nat.le_of_ble_eq_true rfl⟩ ⟨Nat.le_of_ble_eq_true rfl, Nat.le_of_ble_eq_true rfl⟩ rfl hl.1 rfl (Nat.le_of_ble_eq_true rfl) dX10_isSolvable_105 (fun o w' H locs hp hB => ?_)
              obtain ⟨g42, b43, g44, b45, g46, b47, F48, F49, F50, S51, S52, K53, G54, rfl, hf55, hw9⟩ := hp
              replace hB : Bd κ A s (lA κ b43 ((r (2 * y.toNatClampNeg + 1)) * 5) F48 :: gO g42 (r (2 * y.toNatClampNeg + 1)) (r (2 * y.toNatClampNeg + 1)) b43 :: lA κ b45 ((r (2 * y.toNatClampNeg)) * 5) F49 :: gO g44 (r (2 * y.toNatClampNeg)) (r (2 * y.toNatClampNeg)) b45 :: lA κ b47 ((r (2 * y.toNatClampNeg)) * 5) F50 :: gO g46 (r (2 * y.toNatClampNeg)) (r (2 * y.toNatClampNeg + 1)) b47 :: (q41, .inr (10, [.ref g46, .ref g44, .ref g42, .int S51, .int S52, .int (nI K53), .int G54])) :: mw κ a r f (va_up (va_up q 3 t20) 3 t37) (tb a) w) H locs := by rw [hw9] at hB; exact hB
              refine W.eq (g2 := F0 m 108 ls [.ref q41]) rfl ?_
              refine lv_astore (lv' := [(6, .ref q41), (5, .ref (a (2 + 2 * y.toNatClampNeg))), (0, .ref (a 0)), (1, .int y), (2, .int z), (3, .int u), (4, .int v)]) hx hb dX10_isSolvable_108 hl (by decide) rfl (fun ls hl => ?_)
              refine lv_aload_n hx hb dX10_isSolvable_110 rfl (lv_at hl 2 rfl) ?_
              refine lv_iconst (v := 0) hx hb dX10_isSolvable_111 (by decide) ?_
              refine lv_iconst (v := 0) hx hb dX10_isSolvable_112 (by decide) ?_
              refine lv_aload hx hb dX10_isSolvable_113 (lv_at hl 0 rfl) ?_
              refine gf (k0 := 6) hX hB rfl rfl in9 6 (by decide) wm_6_230 rfl rfl dX10_isSolvable_115 ?_
              refine call_V (n := 3) (k0 := 7) (As := [.int 0, .int 0, .int G54]) (rest := []) hX hB (k_X10_isThrown κ l (lA κ b43 ((r (2 * y.toNatClampNeg + 1)) * 5) F48 :: gO g42 (r (2 * y.toNatClampNeg + 1)) (r (2 * y.toNatClampNeg + 1)) b43 :: lA κ b45 ((r (2 * y.toNatClampNeg)) * 5) F49 :: gO g44 (r (2 * y.toNatClampNeg)) (r (2 * y.toNatClampNeg)) b45 :: lA κ b47 ((r (2 * y.toNatClampNeg)) * 5) F50 :: gO g46 (r (2 * y.toNatClampNeg)) (r (2 * y.toNatClampNeg + 1)) b47 :: (q41, .inr (10, [.ref g46, .ref g44, .ref g42, .int S51, .int S52, .int (nI K53), .int G54])) :: mw κ a r f (va_up (va_up q 3 t20) 3 t37) (tb a) w) 7 (a 0) (a 1) ((va_up (va_up q 3 t20) 3 t37) 0) ((va_up (va_up q 3 t20) 3 t37) 1) ((va_up (va_up q 3 t20) 3 t37) 2) ((va_up (va_up q 3 t20) 3 t37) 3) 0 0 G54 (mw0x (a := a) (r := r) (f := f) (q := (va_up (va_up q 3 t20) 3 t37)) (T := tb a) (w := w) rfl)) ⟨rfl, by decide, by decide, by decide +kernel⟩ wm_5_192 wm_5_194 wp_28 wm_1_6 wm_5_195 ⟨Nat.le_of_ble_eq_true rfl, Nat.le_of_ble_eq_true rfl⟩ ⟨Nat.le_of_ble_eq_true rfl, Nat.le_of_ble_eq_true rfl⟩ (mw0x (a := a) (r := r) (f := f) (q := (va_up (va_up q 3 t20) 3 t37)) (T := tb a) (w := w) rfl) rfl rfl rfl hl.1 rfl (Nat.le_of_ble_eq_true rfl) dX10_isSolvable_118 (fun o w' H locs hp hB => ?_)
              obtain ⟨x56, t57, rfl, hf58, hw9⟩ := hp
              replace hB : Bd κ A s (lA κ b43 ((r (2 * y.toNatClampNeg + 1)) * 5) F48 :: gO g42 (r (2 * y.toNatClampNeg + 1)) (r (2 * y.toNatClampNeg + 1)) b43 :: lA κ b45 ((r (2 * y.toNatClampNeg)) * 5) F49 :: gO g44 (r (2 * y.toNatClampNeg)) (r (2 * y.toNatClampNeg)) b45 :: lA κ b47 ((r (2 * y.toNatClampNeg)) * 5) F50 :: gO g46 (r (2 * y.toNatClampNeg)) (r (2 * y.toNatClampNeg + 1)) b47 :: (q41, .inr (10, [.ref g46, .ref g44, .ref g42, .int S51, .int S52, .int (nI K53), .int G54])) :: mw κ a r f (va_up (va_up (va_up q 3 t20) 3 t37) 3 t57) (tb a) w) H locs := by exact Bd_eq (congrArg (List.cons _) (congrArg (List.cons _) (congrArg (List.cons _) (congrArg (List.cons _) (congrArg (List.cons _) (congrArg (List.cons _) (congrArg (List.cons _) (mwQ3x rfl _)))))))) (by rw [hw9] at hB; exact hB)
              rcases thr_cases hf58 with ⟨rfl, hz59a, hz59b, hz59c⟩ | ⟨rfl, hz59⟩
              · refine W.eq (g2 := F0 m 121 ls [.int 0]) rfl ?_
                refine lv_if_ne (tgt := 150) hx hb dX10_isSolvable_121 (by decide) (fun c60 => False.elim (by revert c60; decide)) (fun _ => ?_)
                refine lv_aload hx hb dX10_isSolvable_124 (lv_at hl 0 rfl) ?_
                refine lv_aload hx hb dX10_isSolvable_126 (lv_at hl 0 rfl) ?_
                refine gf (k0 := 6) hX hB rfl rfl in9 1 (by decide) wm_6_220 rfl rfl dX10_isSolvable_128 ?_
                refine lv_aload_n hx hb dX10_isSolvable_131 rfl (lv_at hl 2 rfl) ?_
                refine lv_iload_n hx hb dX10_isSolvable_132 rfl (lv_at hl 4 rfl) ?_
                refine lv_iload_n hx hb dX10_isSolvable_133 rfl (lv_at hl 5 rfl) ?_
                refine call_V (n := 2) (k0 := 7) (As := [.int z, .int u]) (rest := [.ref g44, .ref q41]) hX hB (k_X10_column κ l (lA κ b43 ((r (2 * y.toNatClampNeg + 1)) * 5) F48 :: gO g42 (r (2 * y.toNatClampNeg + 1)) (r (2 * y.toNatClampNeg + 1)) b43 :: lA κ b45 ((r (2 * y.toNatClampNeg)) * 5) F49 :: gO g44 (r (2 * y.toNatClampNeg)) (r (2 * y.toNatClampNeg)) b45 :: lA κ b47 ((r (2 * y.toNatClampNeg)) * 5) F50 :: gO g46 (r (2 * y.toNatClampNeg)) (r (2 * y.toNatClampNeg + 1)) b47 :: (q41, .inr (10, [.ref g46, .ref g44, .ref g42, .int S51, .int S52, .int (nI K53), .int G54])) :: mw κ a r f (va_up (va_up (va_up q 3 t20) 3 t37) 3 t57) (tb a) w) 7 (a 0) (a 1) 8 ((va_up (va_up (va_up q 3 t20) 3 t37) 3 t57) 0) ((va_up (va_up (va_up q 3 t20) 3 t37) 3 t57) 1) ((va_up (va_up (va_up q 3 t20) 3 t37) 3 t57) 2) ((va_up (va_up (va_up q 3 t20) 3 t37) 3 t57) 3) (tb a) (2 + 2 * z.toNatClampNeg + 7) (3 + 2 * z.toNatClampNeg + 7) (a (2 + 2 * z.toNatClampNeg)) (a (3 + 2 * z.toNatClampNeg)) (r (2 * z.toNatClampNeg)) (r (2 * z.toNatClampNeg + 1)) (f z.toNatClampNeg) z u ((u).toNatClampNeg) (mw0x (a := a) (r := r) (f := f) (q := (va_up (va_up (va_up q 3 t20) 3 t37) 3 t57)) (T := tb a) (w := w) rfl) (mw1 (a := a) (r := r) (f := f) (q := (va_up (va_up (va_up q 3 t20) 3 t37) 3 t57)) (T := tb a) (w := w)) (mwG (i := z.toNatClampNeg) (a := a) (r := r) (f := f) (q := (va_up (va_up (va_up q 3 t20) 3 t37) 3 t57)) (T := tb a) (w := w) (by omega)) (mwA (i := z.toNatClampNeg) (a := a) (r := r) (f := f) (q := (va_up (va_up (va_up q 3 t20) 3 t37) 3 t57)) (T := tb a) (w := w) (by omega)) (mok_shp (i := z.toNatClampNeg) hm (by omega)) (nI_rep (by assumption)) (vp_in_mk (by assumption) (by assumption)) rfl (by omega)) ⟨rfl, by decide, by decide, by decide +kernel⟩ wm_7_10 wm_7_12 wp_48 wm_1_6 wm_7_13 ⟨Nat.le_of_ble_eq_true rfl, Nat.le_of_ble_eq_true rfl⟩ ⟨Nat.le_of_ble_eq_true rfl, Nat.le_of_ble_eq_true rfl⟩ (mw0x (a := a) (r := r) (f := f) (q := (va_up (va_up (va_up q 3 t20) 3 t37) 3 t57)) (T := tb a) (w := w) rfl) rfl rfl rfl hl.1 rfl (Nat.le_of_ble_eq_true rfl) dX10_isSolvable_134 (fun o w' H locs hp hB => ?_)
                obtain ⟨q61, q62, F63, rfl, hw9⟩ := hp
                replace hB : Bd κ A s (lA κ q62 ((r (2 * z.toNatClampNeg)) * 5) F63 :: gO q61 (r (2 * z.toNatClampNeg)) 1 q62 :: lA κ b43 ((r (2 * y.toNatClampNeg + 1)) * 5) F48 :: gO g42 (r (2 * y.toNatClampNeg + 1)) (r (2 * y.toNatClampNeg + 1)) b43 :: lA κ b45 ((r (2 * y.toNatClampNeg)) * 5) F49 :: gO g44 (r (2 * y.toNatClampNeg)) (r (2 * y.toNatClampNeg)) b45 :: lA κ b47 ((r (2 * y.toNatClampNeg)) * 5) F50 :: gO g46 (r (2 * y.toNatClampNeg)) (r (2 * y.toNatClampNeg + 1)) b47 :: (q41, .inr (10, [.ref g46, .ref g44, .ref g42, .int S51, .int S52, .int (nI K53), .int G54])) :: mw κ a r f (va_up (va_up (va_up q 3 t20) 3 t37) 3 t57) (tb a) w) H locs := by rw [hw9] at hB; exact hB
                refine W.eq (g2 := F0 m 137 ls [.ref q61, .ref g44, .ref q41]) rfl ?_
                refine call_V (n := 1) (k0 := 5) (As := [.ref q61]) (rest := [.ref q41]) hX hB (k_X7_product κ l (lA κ q62 ((r (2 * z.toNatClampNeg)) * 5) F63 :: gO q61 (r (2 * z.toNatClampNeg)) 1 q62 :: lA κ b43 ((r (2 * y.toNatClampNeg + 1)) * 5) F48 :: gO g42 (r (2 * y.toNatClampNeg + 1)) (r (2 * y.toNatClampNeg + 1)) b43 :: lA κ b45 ((r (2 * y.toNatClampNeg)) * 5) F49 :: gO g44 (r (2 * y.toNatClampNeg)) (r (2 * y.toNatClampNeg)) b45 :: lA κ b47 ((r (2 * y.toNatClampNeg)) * 5) F50 :: gO g46 (r (2 * y.toNatClampNeg)) (r (2 * y.toNatClampNeg + 1)) b47 :: (q41, .inr (10, [.ref g46, .ref g44, .ref g42, .int S51, .int S52, .int (nI K53), .int G54])) :: mw κ a r f (va_up (va_up (va_up q 3 t20) 3 t37) 3 t57) (tb a) w) 5 4 g44 b45 (r (2 * y.toNatClampNeg)) (r (2 * y.toNatClampNeg)) F49 1 0 q61 q62 (r (2 * z.toNatClampNeg)) 1 F63 rfl rfl ⟨by omega, by omega, by omega, by omega⟩ rfl rfl ⟨by omega, by omega, by omega, by omega⟩ (by omega)) ⟨rfl, by decide, by decide, by decide +kernel⟩ wm_6_112 wm_6_113 wm_6_114 wm_1_7 wm_6_115 ⟨Nat.le_of_ble_eq_true rfl, Nat.le_of_ble_eq_true rfl⟩ ⟨Nat.le_of_ble_eq_true rfl, Nat.le_of_ble_eq_true rfl⟩ rfl rfl rfl rfl hl.1 rfl (Nat.le_of_ble_eq_true rfl) dX10_isSolvable_137 (fun o w' H locs hp hB => ?_)
                obtain ⟨q64, q65, F66, rfl, hw9⟩ := hp
                replace hB : Bd κ A s (lA κ q65 ((r (2 * y.toNatClampNeg)) * 5) F66 :: gO q64 (r (2 * y.toNatClampNeg)) 1 q65 :: lA κ q62 ((r (2 * z.toNatClampNeg)) * 5) F63 :: gO q61 (r (2 * z.toNatClampNeg)) 1 q62 :: lA κ b43 ((r (2 * y.toNatClampNeg + 1)) * 5) F48 :: gO g42 (r (2 * y.toNatClampNeg + 1)) (r (2 * y.toNatClampNeg + 1)) b43 :: lA κ b45 ((r (2 * y.toNatClampNeg)) * 5) F49 :: gO g44 (r (2 * y.toNatClampNeg)) (r (2 * y.toNatClampNeg)) b45 :: lA κ b47 ((r (2 * y.toNatClampNeg)) * 5) F50 :: gO g46 (r (2 * y.toNatClampNeg)) (r (2 * y.toNatClampNeg + 1)) b47 :: (q41, .inr (10, [.ref g46, .ref g44, .ref g42, .int S51, .int S52, .int (nI K53), .int G54])) :: mw κ a r f (va_up (va_up (va_up q 3 t20) 3 t37) 3 t57) (tb a) w) H locs := by rw [hw9] at hB; exact hB
                refine W.eq (g2 := F0 m 140 ls [.ref q64, .ref q41]) rfl ?_
                refine call_S (n := 2) (As := [.ref q41, .ref q64]) (rest := []) hX hB (k_X10_goes κ l (lA κ q65 ((r (2 * y.toNatClampNeg)) * 5) F66 :: gO q64 (r (2 * y.toNatClampNeg)) 1 q65 :: lA κ q62 ((r (2 * z.toNatClampNeg)) * 5) F63 :: gO q61 (r (2 * z.toNatClampNeg)) 1 q62 :: lA κ b43 ((r (2 * y.toNatClampNeg + 1)) * 5) F48 :: gO g42 (r (2 * y.toNatClampNeg + 1)) (r (2 * y.toNatClampNeg + 1)) b43 :: lA κ b45 ((r (2 * y.toNatClampNeg)) * 5) F49 :: gO g44 (r (2 * y.toNatClampNeg)) (r (2 * y.toNatClampNeg)) b45 :: lA κ b47 ((r (2 * y.toNatClampNeg)) * 5) F50 :: gO g46 (r (2 * y.toNatClampNeg)) (r (2 * y.toNatClampNeg + 1)) b47 :: (q41, .inr (10, [.ref g46, .ref g44, .ref g42, .int S51, .int S52, .int (nI K53), .int G54])) :: mw κ a r f (va_up (va_up (va_up q 3 t20) 3 t37) 3 t57) (tb a) w) 9 8 g46 b47 (r (2 * y.toNatClampNeg)) (r (2 * y.toNatClampNeg + 1)) F50 10 q41 g44 g42 K53 S51 S52 G54 1 0 q64 q65 (r (2 * y.toNatClampNeg)) 1 F66 rfl rfl (mok_shp (i := y.toNatClampNeg) hm (by omega)) rfl rfl rfl ⟨by omega, by omega, by omega, by omega⟩ hf55) ⟨by decide, by decide, by decide +kernel⟩ wm_7_14 wm_7_15 wm_1_6 wm_7_16 ⟨Nat.le_of_ble_eq_true rfl, Nat.le_of_ble_eq_true rfl⟩ ⟨Nat.le_of_ble_eq_true rfl, Nat.le_of_ble_eq_true rfl⟩ rfl hl.1 rfl (Nat.le_of_ble_eq_true rfl) dX10_isSolvable_140 (fun o w' H locs hp hB => ?_)
                obtain ⟨x67, rfl, hf68, hw9⟩ := hp
                replace hB : Bd κ A s (lA κ q65 ((r (2 * y.toNatClampNeg)) * 5) F66 :: gO q64 (r (2 * y.toNatClampNeg)) 1 q65 :: lA κ q62 ((r (2 * z.toNatClampNeg)) * 5) F63 :: gO q61 (r (2 * z.toNatClampNeg)) 1 q62 :: lA κ b43 ((r (2 * y.toNatClampNeg + 1)) * 5) F48 :: gO g42 (r (2 * y.toNatClampNeg + 1)) (r (2 * y.toNatClampNeg + 1)) b43 :: lA κ b45 ((r (2 * y.toNatClampNeg)) * 5) F49 :: gO g44 (r (2 * y.toNatClampNeg)) (r (2 * y.toNatClampNeg)) b45 :: lA κ b47 ((r (2 * y.toNatClampNeg)) * 5) F50 :: gO g46 (r (2 * y.toNatClampNeg)) (r (2 * y.toNatClampNeg + 1)) b47 :: (q41, .inr (10, [.ref g46, .ref g44, .ref g42, .int S51, .int S52, .int (nI K53), .int G54])) :: mw κ a r f (va_up (va_up (va_up q 3 t20) 3 t37) 3 t57) (tb a) w) H locs := by rw [hw9] at hB; exact hB
                rcases hf68 with rfl | rfl
                · refine W.eq (g2 := F0 m 143 ls [.int 0]) rfl ?_
                  refine lv_if_eq (tgt := 150) hx hb dX10_isSolvable_143 (by decide) (fun _ => ?_) (fun c69 => False.elim (by revert c69; decide))
                  refine lv_iconst (v := 0) hx hb dX10_isSolvable_150 (by decide) ?_
                  replace hB : Bd κ A s (lA κ q65 ((r (2 * y.toNatClampNeg)) * 5) F66 :: gO q64 (r (2 * y.toNatClampNeg)) 1 q65 :: lA κ q62 ((r (2 * z.toNatClampNeg)) * 5) F63 :: gO q61 (r (2 * z.toNatClampNeg)) 1 q62 :: lA κ b43 ((r (2 * y.toNatClampNeg + 1)) * 5) F48 :: gO g42 (r (2 * y.toNatClampNeg + 1)) (r (2 * y.toNatClampNeg + 1)) b43 :: lA κ b45 ((r (2 * y.toNatClampNeg)) * 5) F49 :: gO g44 (r (2 * y.toNatClampNeg)) (r (2 * y.toNatClampNeg)) b45 :: lA κ b47 ((r (2 * y.toNatClampNeg)) * 5) F50 :: gO g46 (r (2 * y.toNatClampNeg)) (r (2 * y.toNatClampNeg + 1)) b47 :: mw κ a r f (va_up (va_up (va_up q 3 t20) 3 t37) 3 t57) (tb a) w) H locs := Bd_del 10 hB
                  replace hB : Bd κ A s (lA κ q65 ((r (2 * y.toNatClampNeg)) * 5) F66 :: gO q64 (r (2 * y.toNatClampNeg)) 1 q65 :: lA κ q62 ((r (2 * z.toNatClampNeg)) * 5) F63 :: gO q61 (r (2 * z.toNatClampNeg)) 1 q62 :: lA κ b43 ((r (2 * y.toNatClampNeg + 1)) * 5) F48 :: gO g42 (r (2 * y.toNatClampNeg + 1)) (r (2 * y.toNatClampNeg + 1)) b43 :: lA κ b45 ((r (2 * y.toNatClampNeg)) * 5) F49 :: gO g44 (r (2 * y.toNatClampNeg)) (r (2 * y.toNatClampNeg)) b45 :: lA κ b47 ((r (2 * y.toNatClampNeg)) * 5) F50 :: mw κ a r f (va_up (va_up (va_up q 3 t20) 3 t37) 3 t57) (tb a) w) H locs := Bd_del 9 hB
                  replace hB : Bd κ A s (lA κ q65 ((r (2 * y.toNatClampNeg)) * 5) F66 :: gO q64 (r (2 * y.toNatClampNeg)) 1 q65 :: lA κ q62 ((r (2 * z.toNatClampNeg)) * 5) F63 :: gO q61 (r (2 * z.toNatClampNeg)) 1 q62 :: lA κ b43 ((r (2 * y.toNatClampNeg + 1)) * 5) F48 :: gO g42 (r (2 * y.toNatClampNeg + 1)) (r (2 * y.toNatClampNeg + 1)) b43 :: lA κ b45 ((r (2 * y.toNatClampNeg)) * 5) F49 :: gO g44 (r (2 * y.toNatClampNeg)) (r (2 * y.toNatClampNeg)) b45 :: mw κ a r f (va_up (va_up (va_up q 3 t20) 3 t37) 3 t57) (tb a) w) H locs := Bd_del 8 hB
                  replace hB : Bd κ A s (lA κ q65 ((r (2 * y.toNatClampNeg)) * 5) F66 :: gO q64 (r (2 * y.toNatClampNeg)) 1 q65 :: lA κ q62 ((r (2 * z.toNatClampNeg)) * 5) F63 :: gO q61 (r (2 * z.toNatClampNeg)) 1 q62 :: lA κ b43 ((r (2 * y.toNatClampNeg + 1)) * 5) F48 :: gO g42 (r (2 * y.toNatClampNeg + 1)) (r (2 * y.toNatClampNeg + 1)) b43 :: lA κ b45 ((r (2 * y.toNatClampNeg)) * 5) F49 :: mw κ a r f (va_up (va_up (va_up q 3 t20) 3 t37) 3 t57) (tb a) w) H locs := Bd_del 7 hB
                  replace hB : Bd κ A s (lA κ q65 ((r (2 * y.toNatClampNeg)) * 5) F66 :: gO q64 (r (2 * y.toNatClampNeg)) 1 q65 :: lA κ q62 ((r (2 * z.toNatClampNeg)) * 5) F63 :: gO q61 (r (2 * z.toNatClampNeg)) 1 q62 :: lA κ b43 ((r (2 * y.toNatClampNeg + 1)) * 5) F48 :: gO g42 (r (2 * y.toNatClampNeg + 1)) (r (2 * y.toNatClampNeg + 1)) b43 :: mw κ a r f (va_up (va_up (va_up q 3 t20) 3 t37) 3 t57) (tb a) w) H locs := Bd_del 6 hB
                  replace hB : Bd κ A s (lA κ q65 ((r (2 * y.toNatClampNeg)) * 5) F66 :: gO q64 (r (2 * y.toNatClampNeg)) 1 q65 :: lA κ q62 ((r (2 * z.toNatClampNeg)) * 5) F63 :: gO q61 (r (2 * z.toNatClampNeg)) 1 q62 :: lA κ b43 ((r (2 * y.toNatClampNeg + 1)) * 5) F48 :: mw κ a r f (va_up (va_up (va_up q 3 t20) 3 t37) 3 t57) (tb a) w) H locs := Bd_del 5 hB
                  replace hB : Bd κ A s (lA κ q65 ((r (2 * y.toNatClampNeg)) * 5) F66 :: gO q64 (r (2 * y.toNatClampNeg)) 1 q65 :: lA κ q62 ((r (2 * z.toNatClampNeg)) * 5) F63 :: gO q61 (r (2 * z.toNatClampNeg)) 1 q62 :: mw κ a r f (va_up (va_up (va_up q 3 t20) 3 t37) 3 t57) (tb a) w) H locs := Bd_del 4 hB
                  replace hB : Bd κ A s (lA κ q65 ((r (2 * y.toNatClampNeg)) * 5) F66 :: gO q64 (r (2 * y.toNatClampNeg)) 1 q65 :: lA κ q62 ((r (2 * z.toNatClampNeg)) * 5) F63 :: mw κ a r f (va_up (va_up (va_up q 3 t20) 3 t37) 3 t57) (tb a) w) H locs := Bd_del 3 hB
                  replace hB : Bd κ A s (lA κ q65 ((r (2 * y.toNatClampNeg)) * 5) F66 :: gO q64 (r (2 * y.toNatClampNeg)) 1 q65 :: mw κ a r f (va_up (va_up (va_up q 3 t20) 3 t37) 3 t57) (tb a) w) H locs := Bd_del 2 hB
                  replace hB : Bd κ A s (lA κ q65 ((r (2 * y.toNatClampNeg)) * 5) F66 :: mw κ a r f (va_up (va_up (va_up q 3 t20) 3 t37) 3 t57) (tb a) w) H locs := Bd_del 1 hB
                  replace hB : Bd κ A s (mw κ a r f (va_up (va_up (va_up q 3 t20) 3 t37) 3 t57) (tb a) w) H locs := Bd_del 0 hB
                  rw [← hQ]
                  exact end_i hX hB hA3 rfl rfl ⟨0, (va_up (va_up (va_up q 3 t20) 3 t37) 3 t57), rfl, (Or.inl rfl), rfl, rfl⟩ (Nat.le_of_ble_eq_true rfl) (Nat.le_of_ble_eq_true rfl) dX10_isSolvable_151
                · refine W.eq (g2 := F0 m 143 ls [.int 1]) rfl ?_
                  refine lv_if_eq (tgt := 150) hx hb dX10_isSolvable_143 (by decide) (fun c70 => False.elim (by revert c70; decide)) (fun _ => ?_)
                  refine lv_iconst (v := 1) hx hb dX10_isSolvable_146 (by decide) ?_
                  refine lv_goto (tgt := 151) hx hb dX10_isSolvable_147 (by decide) ?_
                  replace hB : Bd κ A s (lA κ q65 ((r (2 * y.toNatClampNeg)) * 5) F66 :: gO q64 (r (2 * y.toNatClampNeg)) 1 q65 :: lA κ q62 ((r (2 * z.toNatClampNeg)) * 5) F63 :: gO q61 (r (2 * z.toNatClampNeg)) 1 q62 :: lA κ b43 ((r (2 * y.toNatClampNeg + 1)) * 5) F48 :: gO g42 (r (2 * y.toNatClampNeg + 1)) (r (2 * y.toNatClampNeg + 1)) b43 :: lA κ b45 ((r (2 * y.toNatClampNeg)) * 5) F49 :: gO g44 (r (2 * y.toNatClampNeg)) (r (2 * y.toNatClampNeg)) b45 :: lA κ b47 ((r (2 * y.toNatClampNeg)) * 5) F50 :: gO g46 (r (2 * y.toNatClampNeg)) (r (2 * y.toNatClampNeg + 1)) b47 :: mw κ a r f (va_up (va_up (va_up q 3 t20) 3 t37) 3 t57) (tb a) w) H locs := Bd_del 10 hB
                  replace hB : Bd κ A s (lA κ q65 ((r (2 * y.toNatClampNeg)) * 5) F66 :: gO q64 (r (2 * y.toNatClampNeg)) 1 q65 :: lA κ q62 ((r (2 * z.toNatClampNeg)) * 5) F63 :: gO q61 (r (2 * z.toNatClampNeg)) 1 q62 :: lA κ b43 ((r (2 * y.toNatClampNeg + 1)) * 5) F48 :: gO g42 (r (2 * y.toNatClampNeg + 1)) (r (2 * y.toNatClampNeg + 1)) b43 :: lA κ b45 ((r (2 * y.toNatClampNeg)) * 5) F49 :: gO g44 (r (2 * y.toNatClampNeg)) (r (2 * y.toNatClampNeg)) b45 :: lA κ b47 ((r (2 * y.toNatClampNeg)) * 5) F50 :: mw κ a r f (va_up (va_up (va_up q 3 t20) 3 t37) 3 t57) (tb a) w) H locs := Bd_del 9 hB
                  replace hB : Bd κ A s (lA κ q65 ((r (2 * y.toNatClampNeg)) * 5) F66 :: gO q64 (r (2 * y.toNatClampNeg)) 1 q65 :: lA κ q62 ((r (2 * z.toNatClampNeg)) * 5) F63 :: gO q61 (r (2 * z.toNatClampNeg)) 1 q62 :: lA κ b43 ((r (2 * y.toNatClampNeg + 1)) * 5) F48 :: gO g42 (r (2 * y.toNatClampNeg + 1)) (r (2 * y.toNatClampNeg + 1)) b43 :: lA κ b45 ((r (2 * y.toNatClampNeg)) * 5) F49 :: gO g44 (r (2 * y.toNatClampNeg)) (r (2 * y.toNatClampNeg)) b45 :: mw κ a r f (va_up (va_up (va_up q 3 t20) 3 t37) 3 t57) (tb a) w) H locs := Bd_del 8 hB
                  replace hB : Bd κ A s (lA κ q65 ((r (2 * y.toNatClampNeg)) * 5) F66 :: gO q64 (r (2 * y.toNatClampNeg)) 1 q65 :: lA κ q62 ((r (2 * z.toNatClampNeg)) * 5) F63 :: gO q61 (r (2 * z.toNatClampNeg)) 1 q62 :: lA κ b43 ((r (2 * y.toNatClampNeg + 1)) * 5) F48 :: gO g42 (r (2 * y.toNatClampNeg + 1)) (r (2 * y.toNatClampNeg + 1)) b43 :: lA κ b45 ((r (2 * y.toNatClampNeg)) * 5) F49 :: mw κ a r f (va_up (va_up (va_up q 3 t20) 3 t37) 3 t57) (tb a) w) H locs := Bd_del 7 hB
                  replace hB : Bd κ A s (lA κ q65 ((r (2 * y.toNatClampNeg)) * 5) F66 :: gO q64 (r (2 * y.toNatClampNeg)) 1 q65 :: lA κ q62 ((r (2 * z.toNatClampNeg)) * 5) F63 :: gO q61 (r (2 * z.toNatClampNeg)) 1 q62 :: lA κ b43 ((r (2 * y.toNatClampNeg + 1)) * 5) F48 :: gO g42 (r (2 * y.toNatClampNeg + 1)) (r (2 * y.toNatClampNeg + 1)) b43 :: mw κ a r f (va_up (va_up (va_up q 3 t20) 3 t37) 3 t57) (tb a) w) H locs := Bd_del 6 hB
                  replace hB : Bd κ A s (lA κ q65 ((r (2 * y.toNatClampNeg)) * 5) F66 :: gO q64 (r (2 * y.toNatClampNeg)) 1 q65 :: lA κ q62 ((r (2 * z.toNatClampNeg)) * 5) F63 :: gO q61 (r (2 * z.toNatClampNeg)) 1 q62 :: lA κ b43 ((r (2 * y.toNatClampNeg + 1)) * 5) F48 :: mw κ a r f (va_up (va_up (va_up q 3 t20) 3 t37) 3 t57) (tb a) w) H locs := Bd_del 5 hB
                  replace hB : Bd κ A s (lA κ q65 ((r (2 * y.toNatClampNeg)) * 5) F66 :: gO q64 (r (2 * y.toNatClampNeg)) 1 q65 :: lA κ q62 ((r (2 * z.toNatClampNeg)) * 5) F63 :: gO q61 (r (2 * z.toNatClampNeg)) 1 q62 :: mw κ a r f (va_up (va_up (va_up q 3 t20) 3 t37) 3 t57) (tb a) w) H locs := Bd_del 4 hB
                  replace hB : Bd κ A s (lA κ q65 ((r (2 * y.toNatClampNeg)) * 5) F66 :: gO q64 (r (2 * y.toNatClampNeg)) 1 q65 :: lA κ q62 ((r (2 * z.toNatClampNeg)) * 5) F63 :: mw κ a r f (va_up (va_up (va_up q 3 t20) 3 t37) 3 t57) (tb a) w) H locs := Bd_del 3 hB
                  replace hB : Bd κ A s (lA κ q65 ((r (2 * y.toNatClampNeg)) * 5) F66 :: gO q64 (r (2 * y.toNatClampNeg)) 1 q65 :: mw κ a r f (va_up (va_up (va_up q 3 t20) 3 t37) 3 t57) (tb a) w) H locs := Bd_del 2 hB
                  replace hB : Bd κ A s (lA κ q65 ((r (2 * y.toNatClampNeg)) * 5) F66 :: mw κ a r f (va_up (va_up (va_up q 3 t20) 3 t37) 3 t57) (tb a) w) H locs := Bd_del 1 hB
                  replace hB : Bd κ A s (mw κ a r f (va_up (va_up (va_up q 3 t20) 3 t37) 3 t57) (tb a) w) H locs := Bd_del 0 hB
                  rw [← hQ]
                  exact end_i hX hB hA3 rfl rfl ⟨1, (va_up (va_up (va_up q 3 t20) 3 t37) 3 t57), rfl, (Or.inr rfl), rfl, rfl⟩ (Nat.le_of_ble_eq_true rfl) (Nat.le_of_ble_eq_true rfl) dX10_isSolvable_151
              · refine W.eq (g2 := F0 m 121 ls [.int 1]) rfl ?_
                refine lv_if_ne (tgt := 150) hx hb dX10_isSolvable_121 (by decide) (fun _ => ?_) (fun c71 => False.elim (by revert c71; decide))
                refine lv_iconst (v := 0) hx hb dX10_isSolvable_150 (by decide) ?_
                replace hB : Bd κ A s (lA κ b43 ((r (2 * y.toNatClampNeg + 1)) * 5) F48 :: gO g42 (r (2 * y.toNatClampNeg + 1)) (r (2 * y.toNatClampNeg + 1)) b43 :: lA κ b45 ((r (2 * y.toNatClampNeg)) * 5) F49 :: gO g44 (r (2 * y.toNatClampNeg)) (r (2 * y.toNatClampNeg)) b45 :: lA κ b47 ((r (2 * y.toNatClampNeg)) * 5) F50 :: gO g46 (r (2 * y.toNatClampNeg)) (r (2 * y.toNatClampNeg + 1)) b47 :: mw κ a r f (va_up (va_up (va_up q 3 t20) 3 t37) 3 t57) (tb a) w) H locs := Bd_del 6 hB
                replace hB : Bd κ A s (lA κ b43 ((r (2 * y.toNatClampNeg + 1)) * 5) F48 :: gO g42 (r (2 * y.toNatClampNeg + 1)) (r (2 * y.toNatClampNeg + 1)) b43 :: lA κ b45 ((r (2 * y.toNatClampNeg)) * 5) F49 :: gO g44 (r (2 * y.toNatClampNeg)) (r (2 * y.toNatClampNeg)) b45 :: lA κ b47 ((r (2 * y.toNatClampNeg)) * 5) F50 :: mw κ a r f (va_up (va_up (va_up q 3 t20) 3 t37) 3 t57) (tb a) w) H locs := Bd_del 5 hB
                replace hB : Bd κ A s (lA κ b43 ((r (2 * y.toNatClampNeg + 1)) * 5) F48 :: gO g42 (r (2 * y.toNatClampNeg + 1)) (r (2 * y.toNatClampNeg + 1)) b43 :: lA κ b45 ((r (2 * y.toNatClampNeg)) * 5) F49 :: gO g44 (r (2 * y.toNatClampNeg)) (r (2 * y.toNatClampNeg)) b45 :: mw κ a r f (va_up (va_up (va_up q 3 t20) 3 t37) 3 t57) (tb a) w) H locs := Bd_del 4 hB
                replace hB : Bd κ A s (lA κ b43 ((r (2 * y.toNatClampNeg + 1)) * 5) F48 :: gO g42 (r (2 * y.toNatClampNeg + 1)) (r (2 * y.toNatClampNeg + 1)) b43 :: lA κ b45 ((r (2 * y.toNatClampNeg)) * 5) F49 :: mw κ a r f (va_up (va_up (va_up q 3 t20) 3 t37) 3 t57) (tb a) w) H locs := Bd_del 3 hB
                replace hB : Bd κ A s (lA κ b43 ((r (2 * y.toNatClampNeg + 1)) * 5) F48 :: gO g42 (r (2 * y.toNatClampNeg + 1)) (r (2 * y.toNatClampNeg + 1)) b43 :: mw κ a r f (va_up (va_up (va_up q 3 t20) 3 t37) 3 t57) (tb a) w) H locs := Bd_del 2 hB
                replace hB : Bd κ A s (lA κ b43 ((r (2 * y.toNatClampNeg + 1)) * 5) F48 :: mw κ a r f (va_up (va_up (va_up q 3 t20) 3 t37) 3 t57) (tb a) w) H locs := Bd_del 1 hB
                replace hB : Bd κ A s (mw κ a r f (va_up (va_up (va_up q 3 t20) 3 t37) 3 t57) (tb a) w) H locs := Bd_del 0 hB
                rw [← hQ]
                exact end_i hX hB hA3 rfl rfl ⟨0, (va_up (va_up (va_up q 3 t20) 3 t37) 3 t57), rfl, (Or.inl rfl), rfl, rfl⟩ (Nat.le_of_ble_eq_true rfl) (Nat.le_of_ble_eq_true rfl) dX10_isSolvable_151
            · refine lv_aload hx hb dX10_isSolvable_87 (lv_at hl 0 rfl) ?_
              refine lv_aload_n hx hb dX10_isSolvable_89 rfl (lv_at hl 1 rfl) ?_
              refine lv_iload_n hx hb dX10_isSolvable_90 rfl (lv_at hl 3 rfl) ?_
              refine lv_iload_n hx hb dX10_isSolvable_91 rfl (lv_at hl 4 rfl) ?_
              refine call_V (n := 2) (k0 := 0) (As := [.int z, .int u]) (rest := [.ref (a (2 + 2 * y.toNatClampNeg))]) hX hB (k_X10_column κ l (mw κ a r f (va_up (va_up q 3 t20) 3 t37) (tb a) w) 0 (a 0) (a 1) 1 ((va_up (va_up q 3 t20) 3 t37) 0) ((va_up (va_up q 3 t20) 3 t37) 1) ((va_up (va_up q 3 t20) 3 t37) 2) ((va_up (va_up q 3 t20) 3 t37) 3) (tb a) (2 + 2 * z.toNatClampNeg) (3 + 2 * z.toNatClampNeg) (a (2 + 2 * z.toNatClampNeg)) (a (3 + 2 * z.toNatClampNeg)) (r (2 * z.toNatClampNeg)) (r (2 * z.toNatClampNeg + 1)) (f z.toNatClampNeg) z u ((u).toNatClampNeg) (mw0x (a := a) (r := r) (f := f) (q := (va_up (va_up q 3 t20) 3 t37)) (T := tb a) (w := w) rfl) (mw1 (a := a) (r := r) (f := f) (q := (va_up (va_up q 3 t20) 3 t37)) (T := tb a) (w := w)) (mwG (i := z.toNatClampNeg) (a := a) (r := r) (f := f) (q := (va_up (va_up q 3 t20) 3 t37)) (T := tb a) (w := w) (by omega)) (mwA (i := z.toNatClampNeg) (a := a) (r := r) (f := f) (q := (va_up (va_up q 3 t20) 3 t37)) (T := tb a) (w := w) (by omega)) (mok_shp (i := z.toNatClampNeg) hm (by omega)) (nI_rep (by assumption)) (vp_in_mk (by assumption) (by assumption)) rfl (by omega)) ⟨rfl, by decide, by decide, by decide +kernel⟩ wm_7_10 wm_7_12 wp_48 wm_1_6 wm_7_13 ⟨Nat.le_of_ble_eq_true rfl, Nat.le_of_ble_eq_true rfl⟩ ⟨Nat.le_of_ble_eq_true rfl, Nat.le_of_ble_eq_true rfl⟩ (mw0x (a := a) (r := r) (f := f) (q := (va_up (va_up q 3 t20) 3 t37)) (T := tb a) (w := w) rfl) rfl rfl rfl hl.1 rfl (Nat.le_of_ble_eq_true rfl) dX10_isSolvable_92 (fun o w' H locs hp hB => ?_)
              obtain ⟨q72, q73, F74, rfl, hw9⟩ := hp
              replace hB : Bd κ A s (lA κ q73 ((r (2 * z.toNatClampNeg)) * 5) F74 :: gO q72 (r (2 * z.toNatClampNeg)) 1 q73 :: mw κ a r f (va_up (va_up q 3 t20) 3 t37) (tb a) w) H locs := by rw [hw9] at hB; exact hB
              refine W.eq (g2 := F0 m 95 ls [.ref q72, .ref (a (2 + 2 * y.toNatClampNeg))]) rfl ?_
              refine call_S (n := 2) (As := [.ref (a (2 + 2 * y.toNatClampNeg)), .ref q72]) (rest := []) hX hB (k_X10_isByDivisors κ l (lA κ q73 ((r (2 * z.toNatClampNeg)) * 5) F74 :: gO q72 (r (2 * z.toNatClampNeg)) 1 q73 :: mw κ a r f (va_up (va_up q 3 t20) 3 t37) (tb a) w) (2 + 2 * y.toNatClampNeg + 2) (3 + 2 * y.toNatClampNeg + 2) (a (2 + 2 * y.toNatClampNeg)) (a (3 + 2 * y.toNatClampNeg)) (r (2 * y.toNatClampNeg)) (r (2 * y.toNatClampNeg + 1)) (f y.toNatClampNeg) 1 0 q72 q73 (r (2 * z.toNatClampNeg)) 1 F74 (mwG (i := y.toNatClampNeg) (a := a) (r := r) (f := f) (q := (va_up (va_up q 3 t20) 3 t37)) (T := tb a) (w := w) (by omega)) (mwA (i := y.toNatClampNeg) (a := a) (r := r) (f := f) (q := (va_up (va_up q 3 t20) 3 t37)) (T := tb a) (w := w) (by omega)) (mok_shp (i := y.toNatClampNeg) hm (by omega)) rfl rfl ⟨by omega, by omega, by omega, by omega⟩ (by omega) (by omega)) ⟨by decide, by decide, by decide +kernel⟩ wm_7_133 wm_7_134 wm_1_6 wm_7_135 ⟨Nat.le_of_ble_eq_true rfl, Nat.le_of_ble_eq_true rfl⟩ ⟨Nat.le_of_ble_eq_true rfl, Nat.le_of_ble_eq_true rfl⟩ rfl hl.1 rfl (Nat.le_of_ble_eq_true rfl) dX10_isSolvable_95 (fun o w' H locs hp hB => ?_)
              obtain ⟨x75, rfl, hf76, hw9⟩ := hp
              replace hB : Bd κ A s (lA κ q73 ((r (2 * z.toNatClampNeg)) * 5) F74 :: gO q72 (r (2 * z.toNatClampNeg)) 1 q73 :: mw κ a r f (va_up (va_up q 3 t20) 3 t37) (tb a) w) H locs := by rw [hw9] at hB; exact hB
              rcases hf76 with rfl | rfl
              · refine W.eq (g2 := F0 m 98 ls [.int 0]) rfl ?_
                replace hB : Bd κ A s (lA κ q73 ((r (2 * z.toNatClampNeg)) * 5) F74 :: mw κ a r f (va_up (va_up q 3 t20) 3 t37) (tb a) w) H locs := Bd_del 1 hB
                replace hB : Bd κ A s (mw κ a r f (va_up (va_up q 3 t20) 3 t37) (tb a) w) H locs := Bd_del 0 hB
                rw [← hQ]
                exact end_i hX hB hA3 rfl rfl ⟨0, (va_up (va_up q 3 t20) 3 t37), rfl, (Or.inl rfl), rfl, rfl⟩ (Nat.le_of_ble_eq_true rfl) (Nat.le_of_ble_eq_true rfl) dX10_isSolvable_98
              · refine W.eq (g2 := F0 m 98 ls [.int 1]) rfl ?_
                replace hB : Bd κ A s (lA κ q73 ((r (2 * z.toNatClampNeg)) * 5) F74 :: mw κ a r f (va_up (va_up q 3 t20) 3 t37) (tb a) w) H locs := Bd_del 1 hB
                replace hB : Bd κ A s (mw κ a r f (va_up (va_up q 3 t20) 3 t37) (tb a) w) H locs := Bd_del 0 hB
                rw [← hQ]
                exact end_i hX hB hA3 rfl rfl ⟨1, (va_up (va_up q 3 t20) 3 t37), rfl, (Or.inr rfl), rfl, rfl⟩ (Nat.le_of_ble_eq_true rfl) (Nat.le_of_ble_eq_true rfl) dX10_isSolvable_98
          · refine lv_iconst (v := 1) hx hb dX10_isSolvable_68 (by decide) ?_
            refine lv_goto (tgt := 73) hx hb dX10_isSolvable_69 (by decide) ?_
            refine call_V (n := 2) (k0 := 0) (As := [.int 0, .int 1]) (rest := []) hX hB (k_X10_isThrown_ κ l (mw κ a r f (va_up q 3 t20) (tb a) w) 0 (a 0) (a 1) ((va_up q 3 t20) 0) ((va_up q 3 t20) 1) ((va_up q 3 t20) 2) ((va_up q 3 t20) 3) 0 1 (mw0x (a := a) (r := r) (f := f) (q := (va_up q 3 t20)) (T := tb a) (w := w) rfl)) ⟨rfl, by decide, by decide, by decide +kernel⟩ wm_5_188 wm_5_190 wp_27 wm_1_6 wm_5_191 ⟨Nat.le_of_ble_eq_true rfl, Nat.le_of_ble_eq_true rfl⟩ ⟨Nat.le_of_ble_eq_true rfl, Nat.le_of_ble_eq_true rfl⟩ (mw0x (a := a) (r := r) (f := f) (q := (va_up q 3 t20)) (T := tb a) (w := w) rfl) rfl rfl rfl hl.1 rfl (Nat.le_of_ble_eq_true rfl) dX10_isSolvable_73 (fun o w' H locs hp hB => ?_)
            obtain ⟨x77, t78, rfl, hf79, hw9⟩ := hp
            replace hB : Bd κ A s (mw κ a r f (va_up (va_up q 3 t20) 3 t78) (tb a) w) H locs := by exact Bd_eq (mwQ3x rfl _) (by rw [hw9] at hB; exact hB)
            obtain rfl : x77 = 1 := hf79.trans (by decide)
            refine W.eq (g2 := F0 m 76 ls [.int 1]) rfl ?_
            refine lv_if_eq (tgt := 81) hx hb dX10_isSolvable_76 (by decide) (fun c80 => False.elim (by revert c80; decide)) (fun _ => ?_)
            refine lv_iconst (v := 0) hx hb dX10_isSolvable_79 (by decide) ?_
            rw [← hQ]
            exact end_i hX hB hA3 rfl rfl ⟨0, (va_up (va_up q 3 t20) 3 t78), rfl, (Or.inl rfl), rfl, rfl⟩ (Nat.le_of_ble_eq_true rfl) (Nat.le_of_ble_eq_true rfl) dX10_isSolvable_80
set_option maxHeartbeats 4000000 in
set_option maxRecDepth 100000 in
theorem k_X10_restColumn (κ : Kt) (l : Launch) (w : va_W) (a r : Nat → Nat) (f : Nat → Nat → Int64) (q : Nat → Int32) (y : Int32) (z : Int32) (u : Int32) (hm : mok r f) : CM κ l yX10_restColumn cX10_restColumn 7 (some .int) 5 121 7 76 [.ref (a 0), .int y, .int z, .int u] (mw κ a r f q (tb a) w) (fun o w' => ∃ (x : Int32) (q' : Nat → Int32), o = some (.int x) ∧ (q' 2 = q 2) ∧ w' = mw κ a r f q' (tb a) w) := by
  refine CM_begin (plainFor_of_name (by decide)) (Nat.le_of_ble_eq_true rfl) ?_
  intro p e s m args below meth c A Q hX hnm hA3 hQ hB ls hl
  have hx := hX.1.1
  have hb := hX.1.2.1
  have hl : lv_has ls 7 [(0, .ref (a 0)), (1, .int y), (2, .int z), (3, .int u)] := hl
  refine lv_aload_n hx hb dX10_restColumn_0 rfl (lv_at hl 0 rfl) ?_
  refine lv_iload_n hx hb dX10_restColumn_1 rfl (lv_at hl 1 rfl) ?_
  refine call_S (n := 1) (As := [.int y]) (rest := [.ref (a 0)]) hX hB (k_X10_isTable κ l (mw κ a r f q (tb a) w) y) ⟨by decide, by decide, by decide +kernel⟩ wm_5_182 wm_5_183 wm_1_6 wm_5_184 ⟨Nat.le_of_ble_eq_true rfl, Nat.le_of_ble_eq_true rfl⟩ ⟨Nat.le_of_ble_eq_true rfl, Nat.le_of_ble_eq_true rfl⟩ rfl hl.1 rfl (Nat.le_of_ble_eq_true rfl) dX10_restColumn_2 (fun o w' H locs hp hB => ?_)
  obtain ⟨z1, rfl, hf2, hw9⟩ := hp
  replace hB : Bd κ A s (mw κ a r f q (tb a) w) H locs := by rw [hw9] at hB; exact hB
  rcases hf2 with rfl | ⟨rfl, hz3a, hz3b⟩
  · refine W.eq (g2 := F0 m 5 ls [.int 0, .ref (a 0)]) rfl ?_
    refine lv_if_ne (tgt := 12) hx hb dX10_restColumn_5 (by decide) (fun c4 => False.elim (by revert c4; decide)) (fun _ => ?_)
    refine lv_iconst (v := 1) hx hb dX10_restColumn_8 (by decide) ?_
    refine lv_goto (tgt := 13) hx hb dX10_restColumn_9 (by decide) ?_
    refine call_V (n := 1) (k0 := 0) (As := [.int 1]) (rest := []) hX hB (k_X10_isThrown__ κ l (mw κ a r f q (tb a) w) 0 (a 0) (a 1) (q 0) (q 1) (q 2) (q 3) 1 (mw0x (a := a) (r := r) (f := f) (q := q) (T := tb a) (w := w) rfl)) ⟨rfl, by decide, by decide, by decide +kernel⟩ wm_6_11 wm_6_13 wp_33 wm_1_6 wm_6_14 ⟨Nat.le_of_ble_eq_true rfl, Nat.le_of_ble_eq_true rfl⟩ ⟨Nat.le_of_ble_eq_true rfl, Nat.le_of_ble_eq_true rfl⟩ (mw0x (a := a) (r := r) (f := f) (q := q) (T := tb a) (w := w) rfl) rfl rfl rfl hl.1 rfl (Nat.le_of_ble_eq_true rfl) dX10_restColumn_13 (fun o w' H locs hp hB => ?_)
    obtain ⟨x5, t6, rfl, hf7, hw9⟩ := hp
    replace hB : Bd κ A s (mw κ a r f (va_up q 3 t6) (tb a) w) H locs := by exact Bd_eq (mwQ3x rfl _) (by rw [hw9] at hB; exact hB)
    obtain rfl : x5 = 1 := hf7.trans (by decide)
    refine W.eq (g2 := F0 m 16 ls [.int 1]) rfl ?_
    refine lv_if_eq (tgt := 21) hx hb dX10_restColumn_16 (by decide) (fun c8 => False.elim (by revert c8; decide)) (fun _ => ?_)
    refine lv_iconst (v := 0) hx hb dX10_restColumn_19 (by decide) ?_
    rw [← hQ]
    exact end_i hX hB hA3 rfl rfl ⟨0, (va_up q 3 t6), rfl, rfl, rfl⟩ (Nat.le_of_ble_eq_true rfl) (Nat.le_of_ble_eq_true rfl) dX10_restColumn_20
  · refine W.eq (g2 := F0 m 5 ls [.int 1, .ref (a 0)]) rfl ?_
    refine lv_if_ne (tgt := 12) hx hb dX10_restColumn_5 (by decide) (fun _ => ?_) (fun c9 => False.elim (by revert c9; decide))
    refine lv_iconst (v := 0) hx hb dX10_restColumn_12 (by decide) ?_
    refine call_V (n := 1) (k0 := 0) (As := [.int 0]) (rest := []) hX hB (k_X10_isThrown__ κ l (mw κ a r f q (tb a) w) 0 (a 0) (a 1) (q 0) (q 1) (q 2) (q 3) 0 (mw0x (a := a) (r := r) (f := f) (q := q) (T := tb a) (w := w) rfl)) ⟨rfl, by decide, by decide, by decide +kernel⟩ wm_6_11 wm_6_13 wp_33 wm_1_6 wm_6_14 ⟨Nat.le_of_ble_eq_true rfl, Nat.le_of_ble_eq_true rfl⟩ ⟨Nat.le_of_ble_eq_true rfl, Nat.le_of_ble_eq_true rfl⟩ (mw0x (a := a) (r := r) (f := f) (q := q) (T := tb a) (w := w) rfl) rfl rfl rfl hl.1 rfl (Nat.le_of_ble_eq_true rfl) dX10_restColumn_13 (fun o w' H locs hp hB => ?_)
    obtain ⟨x10, t11, rfl, hf12, hw9⟩ := hp
    replace hB : Bd κ A s (mw κ a r f (va_up q 3 t11) (tb a) w) H locs := by exact Bd_eq (mwQ3x rfl _) (by rw [hw9] at hB; exact hB)
    obtain rfl : x10 = 0 := hf12.trans (by decide)
    refine W.eq (g2 := F0 m 16 ls [.int 0]) rfl ?_
    refine lv_if_eq (tgt := 21) hx hb dX10_restColumn_16 (by decide) (fun _ => ?_) (fun c13 => False.elim (by revert c13; decide))
    refine newO (fs := [.null, .null, .null, .int 0, .int 0, .int 0, .int 0]) hX hB (ci := 10) rfl in9 tyX9_ok wm_6_172 wm_6_173 wm_1_16 df10 (Nat.le_of_ble_eq_true rfl) (Nat.le_of_ble_eq_true rfl) dX10_restColumn_21 (fun q14 H hB => ?_)
    refine lv_dup hx hb dX10_restColumn_24 rfl ?_
    refine lv_aload_n hx hb dX10_restColumn_25 rfl (lv_at hl 0 rfl) ?_
    refine gf (k0 := 1) hX hB (mw0x (a := a) (r := r) (f := f) (q := (va_up q 3 t11)) (T := tb a) (w := w) rfl) rfl in10 0 (by decide) wm_5_162 rfl rfl dX10_restColumn_26 ?_
    refine lv_iload_n hx hb dX10_restColumn_29 rfl (lv_at hl 1 rfl) ?_
    refine aaldM (k0 := 2) hX hB (mw1 (a := a) (r := r) (f := f) (q := (va_up q 3 t11)) (T := tb a) (w := w)) (vp_in_mk (by assumption) (by assumption)) rfl dX10_restColumn_30 ?_
    have hb15 := mok_r hm y.toNatClampNeg (by omega)
    refine call_I (n := 1) (As := [.ref (a (2 + 2 * y.toNatClampNeg))]) (rest := [.ref q14]) hX hB (k_X9_init κ l (mw κ a r f (va_up q 3 t11) (tb a) w) q14 (2 + 2 * y.toNatClampNeg) (3 + 2 * y.toNatClampNeg) (a (2 + 2 * y.toNatClampNeg)) (a (3 + 2 * y.toNatClampNeg)) (r (2 * y.toNatClampNeg)) (r (2 * y.toNatClampNeg + 1)) (f y.toNatClampNeg) (mwG (i := y.toNatClampNeg) (a := a) (r := r) (f := f) (q := (va_up q 3 t11)) (T := tb a) (w := w) (by omega)) (mwA (i := y.toNatClampNeg) (a := a) (r := r) (f := f) (q := (va_up q 3 t11)) (T := tb a) (w := w) (by omega)) (mok_shp (i := y.toNatClampNeg) hm (by omega)) (by omega) (fun k hk => sm_ng ((hm _ (by omega)).2 k hk))) ⟨by decide, by decide, by decide +kernel⟩ rfl wm_6_174 wm_6_175 wm_1_16 wm_6_176 ⟨Nat.le_of_ble_eq_true rfl, Nat.le_of_ble_eq_true rfl⟩ ⟨Nat.le_of_ble_eq_true rfl, Nat.le_of_ble_eq_true rfl⟩ rfl hl.1 rfl (Nat.le_of_ble_eq_true rfl) dX10_restColumn_31 (fun o w' H locs hp hB => ?_)
    obtain ⟨g16, b17, g18, b19, g20, b21, F22, F23, F24, S25, S26, K27, G28, rfl, hf29, hw9⟩ := hp
    replace hB : Bd κ A s (lA κ b17 ((r (2 * y.toNatClampNeg + 1)) * 5) F22 :: gO g16 (r (2 * y.toNatClampNeg + 1)) (r (2 * y.toNatClampNeg + 1)) b17 :: lA κ b19 ((r (2 * y.toNatClampNeg)) * 5) F23 :: gO g18 (r (2 * y.toNatClampNeg)) (r (2 * y.toNatClampNeg)) b19 :: lA κ b21 ((r (2 * y.toNatClampNeg)) * 5) F24 :: gO g20 (r (2 * y.toNatClampNeg)) (r (2 * y.toNatClampNeg + 1)) b21 :: (q14, .inr (10, [.ref g20, .ref g18, .ref g16, .int S25, .int S26, .int (nI K27), .int G28])) :: mw κ a r f (va_up q 3 t11) (tb a) w) H locs := by rw [hw9] at hB; exact hB
    refine W.eq (g2 := F0 m 34 ls [.ref q14]) rfl ?_
    refine lv_astore (lv' := [(4, .ref q14), (0, .ref (a 0)), (1, .int y), (2, .int z), (3, .int u)]) hx hb dX10_restColumn_34 hl (by decide) rfl (fun ls hl => ?_)
    refine lv_aload_n hx hb dX10_restColumn_36 rfl (lv_at hl 1 rfl) ?_
    refine gf (k0 := 7) hX hB (mw0x (a := a) (r := r) (f := f) (q := (va_up q 3 t11)) (T := tb a) (w := w) rfl) rfl in10 0 (by decide) wm_5_162 rfl rfl dX10_restColumn_37 ?_
    refine lv_iload_n hx hb dX10_restColumn_40 rfl (lv_at hl 2 rfl) ?_
    refine aaldM (k0 := 8) hX hB (mw1 (a := a) (r := r) (f := f) (q := (va_up q 3 t11)) (T := tb a) (w := w)) (vp_in_mk (by assumption) (by assumption)) rfl dX10_restColumn_41 ?_
    have hb30 := mok_r hm y.toNatClampNeg (by omega)
    refine gf (k0 := 2 + 2 * y.toNatClampNeg + 7) hX hB (mwG (i := y.toNatClampNeg) (a := a) (r := r) (f := f) (q := (va_up q 3 t11)) (T := tb a) (w := w) (by omega)) rfl in7 1 (by decide) wm_5_152 rfl rfl dX10_restColumn_42 ?_
    refine lv_istore (lv' := [(5, .int (nI (r (2 * y.toNatClampNeg + 1)))), (4, .ref q14), (0, .ref (a 0)), (1, .int y), (2, .int z), (3, .int u)]) hx hb dX10_restColumn_45 hl (by decide) rfl (fun ls hl => ?_)
    refine lv_iload_n hx hb dX10_restColumn_47 rfl (lv_at hl 4 rfl) ?_
    refine lv_if_lt (tgt := 73) hx hb dX10_restColumn_48 (by decide) (fun c31 => ?_) (fun c31 => ?_)
    · refine lv_iconst (v := 1) hx hb dX10_restColumn_73 (by decide) ?_
      refine lv_goto (tgt := 78) hx hb dX10_restColumn_74 (by decide) ?_
      refine lv_istore (lv' := [(6, .int 1), (5, .int (nI (r (2 * y.toNatClampNeg + 1)))), (4, .ref q14), (0, .ref (a 0)), (1, .int y), (2, .int z), (3, .int u)]) hx hb dX10_restColumn_78 hl (by decide) rfl (fun ls hl => ?_)
      refine lv_aload_n hx hb dX10_restColumn_80 rfl (lv_at hl 3 rfl) ?_
      refine lv_iconst (v := 0) hx hb dX10_restColumn_81 (by decide) ?_
      refine lv_aload hx hb dX10_restColumn_82 (lv_at hl 2 rfl) ?_
      refine gf (k0 := 6) hX hB rfl rfl in9 6 (by decide) wm_6_230 rfl rfl dX10_restColumn_84 ?_
      refine lv_iload hx hb dX10_restColumn_87 (lv_at hl 0 rfl) ?_
      refine call_V (n := 3) (k0 := 7) (As := [.int 0, .int G28, .int 1]) (rest := []) hX hB (k_X10_isThrown κ l (lA κ b17 ((r (2 * y.toNatClampNeg + 1)) * 5) F22 :: gO g16 (r (2 * y.toNatClampNeg + 1)) (r (2 * y.toNatClampNeg + 1)) b17 :: lA κ b19 ((r (2 * y.toNatClampNeg)) * 5) F23 :: gO g18 (r (2 * y.toNatClampNeg)) (r (2 * y.toNatClampNeg)) b19 :: lA κ b21 ((r (2 * y.toNatClampNeg)) * 5) F24 :: gO g20 (r (2 * y.toNatClampNeg)) (r (2 * y.toNatClampNeg + 1)) b21 :: (q14, .inr (10, [.ref g20, .ref g18, .ref g16, .int S25, .int S26, .int (nI K27), .int G28])) :: mw κ a r f (va_up q 3 t11) (tb a) w) 7 (a 0) (a 1) ((va_up q 3 t11) 0) ((va_up q 3 t11) 1) ((va_up q 3 t11) 2) ((va_up q 3 t11) 3) 0 G28 1 (mw0x (a := a) (r := r) (f := f) (q := (va_up q 3 t11)) (T := tb a) (w := w) rfl)) ⟨rfl, by decide, by decide, by decide +kernel⟩ wm_5_192 wm_5_194 wp_28 wm_1_6 wm_5_195 ⟨Nat.le_of_ble_eq_true rfl, Nat.le_of_ble_eq_true rfl⟩ ⟨Nat.le_of_ble_eq_true rfl, Nat.le_of_ble_eq_true rfl⟩ (mw0x (a := a) (r := r) (f := f) (q := (va_up q 3 t11)) (T := tb a) (w := w) rfl) rfl rfl rfl hl.1 rfl (Nat.le_of_ble_eq_true rfl) dX10_restColumn_89 (fun o w' H locs hp hB => ?_)
      obtain ⟨x32, t33, rfl, hf34, hw9⟩ := hp
      replace hB : Bd κ A s (lA κ b17 ((r (2 * y.toNatClampNeg + 1)) * 5) F22 :: gO g16 (r (2 * y.toNatClampNeg + 1)) (r (2 * y.toNatClampNeg + 1)) b17 :: lA κ b19 ((r (2 * y.toNatClampNeg)) * 5) F23 :: gO g18 (r (2 * y.toNatClampNeg)) (r (2 * y.toNatClampNeg)) b19 :: lA κ b21 ((r (2 * y.toNatClampNeg)) * 5) F24 :: gO g20 (r (2 * y.toNatClampNeg)) (r (2 * y.toNatClampNeg + 1)) b21 :: (q14, .inr (10, [.ref g20, .ref g18, .ref g16, .int S25, .int S26, .int (nI K27), .int G28])) :: mw κ a r f (va_up (va_up q 3 t11) 3 t33) (tb a) w) H locs := by exact Bd_eq (congrArg (List.cons _) (congrArg (List.cons _) (congrArg (List.cons _) (congrArg (List.cons _) (congrArg (List.cons _) (congrArg (List.cons _) (congrArg (List.cons _) (mwQ3x rfl _)))))))) (by rw [hw9] at hB; exact hB)
      obtain rfl : x32 = 1 := hf34.trans (thr_3 (by decide)).symm
      refine W.eq (g2 := F0 m 92 ls [.int 1]) rfl ?_
      refine lv_if_eq (tgt := 97) hx hb dX10_restColumn_92 (by decide) (fun c35 => False.elim (by revert c35; decide)) (fun _ => ?_)
      refine lv_iconst (v := 0) hx hb dX10_restColumn_95 (by decide) ?_
      replace hB : Bd κ A s (lA κ b17 ((r (2 * y.toNatClampNeg + 1)) * 5) F22 :: gO g16 (r (2 * y.toNatClampNeg + 1)) (r (2 * y.toNatClampNeg + 1)) b17 :: lA κ b19 ((r (2 * y.toNatClampNeg)) * 5) F23 :: gO g18 (r (2 * y.toNatClampNeg)) (r (2 * y.toNatClampNeg)) b19 :: lA κ b21 ((r (2 * y.toNatClampNeg)) * 5) F24 :: gO g20 (r (2 * y.toNatClampNeg)) (r (2 * y.toNatClampNeg + 1)) b21 :: mw κ a r f (va_up (va_up q 3 t11) 3 t33) (tb a) w) H locs := Bd_del 6 hB
      replace hB : Bd κ A s (lA κ b17 ((r (2 * y.toNatClampNeg + 1)) * 5) F22 :: gO g16 (r (2 * y.toNatClampNeg + 1)) (r (2 * y.toNatClampNeg + 1)) b17 :: lA κ b19 ((r (2 * y.toNatClampNeg)) * 5) F23 :: gO g18 (r (2 * y.toNatClampNeg)) (r (2 * y.toNatClampNeg)) b19 :: lA κ b21 ((r (2 * y.toNatClampNeg)) * 5) F24 :: mw κ a r f (va_up (va_up q 3 t11) 3 t33) (tb a) w) H locs := Bd_del 5 hB
      replace hB : Bd κ A s (lA κ b17 ((r (2 * y.toNatClampNeg + 1)) * 5) F22 :: gO g16 (r (2 * y.toNatClampNeg + 1)) (r (2 * y.toNatClampNeg + 1)) b17 :: lA κ b19 ((r (2 * y.toNatClampNeg)) * 5) F23 :: gO g18 (r (2 * y.toNatClampNeg)) (r (2 * y.toNatClampNeg)) b19 :: mw κ a r f (va_up (va_up q 3 t11) 3 t33) (tb a) w) H locs := Bd_del 4 hB
      replace hB : Bd κ A s (lA κ b17 ((r (2 * y.toNatClampNeg + 1)) * 5) F22 :: gO g16 (r (2 * y.toNatClampNeg + 1)) (r (2 * y.toNatClampNeg + 1)) b17 :: lA κ b19 ((r (2 * y.toNatClampNeg)) * 5) F23 :: mw κ a r f (va_up (va_up q 3 t11) 3 t33) (tb a) w) H locs := Bd_del 3 hB
      replace hB : Bd κ A s (lA κ b17 ((r (2 * y.toNatClampNeg + 1)) * 5) F22 :: gO g16 (r (2 * y.toNatClampNeg + 1)) (r (2 * y.toNatClampNeg + 1)) b17 :: mw κ a r f (va_up (va_up q 3 t11) 3 t33) (tb a) w) H locs := Bd_del 2 hB
      replace hB : Bd κ A s (lA κ b17 ((r (2 * y.toNatClampNeg + 1)) * 5) F22 :: mw κ a r f (va_up (va_up q 3 t11) 3 t33) (tb a) w) H locs := Bd_del 1 hB
      replace hB : Bd κ A s (mw κ a r f (va_up (va_up q 3 t11) 3 t33) (tb a) w) H locs := Bd_del 0 hB
      rw [← hQ]
      exact end_i hX hB hA3 rfl rfl ⟨0, (va_up (va_up q 3 t11) 3 t33), rfl, rfl, rfl⟩ (Nat.le_of_ble_eq_true rfl) (Nat.le_of_ble_eq_true rfl) dX10_restColumn_96
    · refine lv_iload_n hx hb dX10_restColumn_51 rfl (lv_at hl 4 rfl) ?_
      refine lv_iload hx hb dX10_restColumn_52 (lv_at hl 0 rfl) ?_
      refine lv_aload hx hb dX10_restColumn_54 (lv_at hl 1 rfl) ?_
      refine gf (k0 := 6) hX hB rfl rfl in9 5 (by decide) wm_6_228 rfl rfl dX10_restColumn_56 ?_
      have hK := hf29
      refine lv_isub hx hb dX10_restColumn_59 ?_
      refine eqi (y := nI ((r (2 * y.toNatClampNeg + 1)) - K27)) (nI_sub (a := r (2 * y.toNatClampNeg + 1)) (b := K27) (by omega)) ?_
      refine lv_icmp_ge (tgt := 73) hx hb dX10_restColumn_60 (by decide) (fun c37 => ?_) (fun c37 => ?_)
      · refine lv_iconst (v := 1) hx hb dX10_restColumn_73 (by decide) ?_
        refine lv_goto (tgt := 78) hx hb dX10_restColumn_74 (by decide) ?_
        refine lv_istore (lv' := [(6, .int 1), (5, .int (nI (r (2 * y.toNatClampNeg + 1)))), (4, .ref q14), (0, .ref (a 0)), (1, .int y), (2, .int z), (3, .int u)]) hx hb dX10_restColumn_78 hl (by decide) rfl (fun ls hl => ?_)
        refine lv_aload_n hx hb dX10_restColumn_80 rfl (lv_at hl 3 rfl) ?_
        refine lv_iconst (v := 0) hx hb dX10_restColumn_81 (by decide) ?_
        refine lv_aload hx hb dX10_restColumn_82 (lv_at hl 2 rfl) ?_
        refine gf (k0 := 6) hX hB rfl rfl in9 6 (by decide) wm_6_230 rfl rfl dX10_restColumn_84 ?_
        refine lv_iload hx hb dX10_restColumn_87 (lv_at hl 0 rfl) ?_
        refine call_V (n := 3) (k0 := 7) (As := [.int 0, .int G28, .int 1]) (rest := []) hX hB (k_X10_isThrown κ l (lA κ b17 ((r (2 * y.toNatClampNeg + 1)) * 5) F22 :: gO g16 (r (2 * y.toNatClampNeg + 1)) (r (2 * y.toNatClampNeg + 1)) b17 :: lA κ b19 ((r (2 * y.toNatClampNeg)) * 5) F23 :: gO g18 (r (2 * y.toNatClampNeg)) (r (2 * y.toNatClampNeg)) b19 :: lA κ b21 ((r (2 * y.toNatClampNeg)) * 5) F24 :: gO g20 (r (2 * y.toNatClampNeg)) (r (2 * y.toNatClampNeg + 1)) b21 :: (q14, .inr (10, [.ref g20, .ref g18, .ref g16, .int S25, .int S26, .int (nI K27), .int G28])) :: mw κ a r f (va_up q 3 t11) (tb a) w) 7 (a 0) (a 1) ((va_up q 3 t11) 0) ((va_up q 3 t11) 1) ((va_up q 3 t11) 2) ((va_up q 3 t11) 3) 0 G28 1 (mw0x (a := a) (r := r) (f := f) (q := (va_up q 3 t11)) (T := tb a) (w := w) rfl)) ⟨rfl, by decide, by decide, by decide +kernel⟩ wm_5_192 wm_5_194 wp_28 wm_1_6 wm_5_195 ⟨Nat.le_of_ble_eq_true rfl, Nat.le_of_ble_eq_true rfl⟩ ⟨Nat.le_of_ble_eq_true rfl, Nat.le_of_ble_eq_true rfl⟩ (mw0x (a := a) (r := r) (f := f) (q := (va_up q 3 t11)) (T := tb a) (w := w) rfl) rfl rfl rfl hl.1 rfl (Nat.le_of_ble_eq_true rfl) dX10_restColumn_89 (fun o w' H locs hp hB => ?_)
        obtain ⟨x38, t39, rfl, hf40, hw9⟩ := hp
        replace hB : Bd κ A s (lA κ b17 ((r (2 * y.toNatClampNeg + 1)) * 5) F22 :: gO g16 (r (2 * y.toNatClampNeg + 1)) (r (2 * y.toNatClampNeg + 1)) b17 :: lA κ b19 ((r (2 * y.toNatClampNeg)) * 5) F23 :: gO g18 (r (2 * y.toNatClampNeg)) (r (2 * y.toNatClampNeg)) b19 :: lA κ b21 ((r (2 * y.toNatClampNeg)) * 5) F24 :: gO g20 (r (2 * y.toNatClampNeg)) (r (2 * y.toNatClampNeg + 1)) b21 :: (q14, .inr (10, [.ref g20, .ref g18, .ref g16, .int S25, .int S26, .int (nI K27), .int G28])) :: mw κ a r f (va_up (va_up q 3 t11) 3 t39) (tb a) w) H locs := by exact Bd_eq (congrArg (List.cons _) (congrArg (List.cons _) (congrArg (List.cons _) (congrArg (List.cons _) (congrArg (List.cons _) (congrArg (List.cons _) (congrArg (List.cons _) (mwQ3x rfl _)))))))) (by rw [hw9] at hB; exact hB)
        obtain rfl : x38 = 1 := hf40.trans (thr_3 (by decide)).symm
        refine W.eq (g2 := F0 m 92 ls [.int 1]) rfl ?_
        refine lv_if_eq (tgt := 97) hx hb dX10_restColumn_92 (by decide) (fun c41 => False.elim (by revert c41; decide)) (fun _ => ?_)
        refine lv_iconst (v := 0) hx hb dX10_restColumn_95 (by decide) ?_
        replace hB : Bd κ A s (lA κ b17 ((r (2 * y.toNatClampNeg + 1)) * 5) F22 :: gO g16 (r (2 * y.toNatClampNeg + 1)) (r (2 * y.toNatClampNeg + 1)) b17 :: lA κ b19 ((r (2 * y.toNatClampNeg)) * 5) F23 :: gO g18 (r (2 * y.toNatClampNeg)) (r (2 * y.toNatClampNeg)) b19 :: lA κ b21 ((r (2 * y.toNatClampNeg)) * 5) F24 :: gO g20 (r (2 * y.toNatClampNeg)) (r (2 * y.toNatClampNeg + 1)) b21 :: mw κ a r f (va_up (va_up q 3 t11) 3 t39) (tb a) w) H locs := Bd_del 6 hB
        replace hB : Bd κ A s (lA κ b17 ((r (2 * y.toNatClampNeg + 1)) * 5) F22 :: gO g16 (r (2 * y.toNatClampNeg + 1)) (r (2 * y.toNatClampNeg + 1)) b17 :: lA κ b19 ((r (2 * y.toNatClampNeg)) * 5) F23 :: gO g18 (r (2 * y.toNatClampNeg)) (r (2 * y.toNatClampNeg)) b19 :: lA κ b21 ((r (2 * y.toNatClampNeg)) * 5) F24 :: mw κ a r f (va_up (va_up q 3 t11) 3 t39) (tb a) w) H locs := Bd_del 5 hB
        replace hB : Bd κ A s (lA κ b17 ((r (2 * y.toNatClampNeg + 1)) * 5) F22 :: gO g16 (r (2 * y.toNatClampNeg + 1)) (r (2 * y.toNatClampNeg + 1)) b17 :: lA κ b19 ((r (2 * y.toNatClampNeg)) * 5) F23 :: gO g18 (r (2 * y.toNatClampNeg)) (r (2 * y.toNatClampNeg)) b19 :: mw κ a r f (va_up (va_up q 3 t11) 3 t39) (tb a) w) H locs := Bd_del 4 hB
        replace hB : Bd κ A s (lA κ b17 ((r (2 * y.toNatClampNeg + 1)) * 5) F22 :: gO g16 (r (2 * y.toNatClampNeg + 1)) (r (2 * y.toNatClampNeg + 1)) b17 :: lA κ b19 ((r (2 * y.toNatClampNeg)) * 5) F23 :: mw κ a r f (va_up (va_up q 3 t11) 3 t39) (tb a) w) H locs := Bd_del 3 hB
        replace hB : Bd κ A s (lA κ b17 ((r (2 * y.toNatClampNeg + 1)) * 5) F22 :: gO g16 (r (2 * y.toNatClampNeg + 1)) (r (2 * y.toNatClampNeg + 1)) b17 :: mw κ a r f (va_up (va_up q 3 t11) 3 t39) (tb a) w) H locs := Bd_del 2 hB
        replace hB : Bd κ A s (lA κ b17 ((r (2 * y.toNatClampNeg + 1)) * 5) F22 :: mw κ a r f (va_up (va_up q 3 t11) 3 t39) (tb a) w) H locs := Bd_del 1 hB
        replace hB : Bd κ A s (mw κ a r f (va_up (va_up q 3 t11) 3 t39) (tb a) w) H locs := Bd_del 0 hB
        rw [← hQ]
        exact end_i hX hB hA3 rfl rfl ⟨0, (va_up (va_up q 3 t11) 3 t39), rfl, rfl, rfl⟩ (Nat.le_of_ble_eq_true rfl) (Nat.le_of_ble_eq_true rfl) dX10_restColumn_96
      · have hq36 := nlt_of (x := z) (n := (r (2 * y.toNatClampNeg + 1)) - K27) c31 (by omega) c37
        refine lv_iload_n hx hb dX10_restColumn_63 rfl (lv_at hl 5 rfl) ?_
        refine lv_if_lt (tgt := 73) hx hb dX10_restColumn_64 (by decide) (fun c42 => ?_) (fun c42 => ?_)
        · refine lv_iconst (v := 1) hx hb dX10_restColumn_73 (by decide) ?_
          refine lv_goto (tgt := 78) hx hb dX10_restColumn_74 (by decide) ?_
          refine lv_istore (lv' := [(6, .int 1), (5, .int (nI (r (2 * y.toNatClampNeg + 1)))), (4, .ref q14), (0, .ref (a 0)), (1, .int y), (2, .int z), (3, .int u)]) hx hb dX10_restColumn_78 hl (by decide) rfl (fun ls hl => ?_)
          refine lv_aload_n hx hb dX10_restColumn_80 rfl (lv_at hl 3 rfl) ?_
          refine lv_iconst (v := 0) hx hb dX10_restColumn_81 (by decide) ?_
          refine lv_aload hx hb dX10_restColumn_82 (lv_at hl 2 rfl) ?_
          refine gf (k0 := 6) hX hB rfl rfl in9 6 (by decide) wm_6_230 rfl rfl dX10_restColumn_84 ?_
          refine lv_iload hx hb dX10_restColumn_87 (lv_at hl 0 rfl) ?_
          refine call_V (n := 3) (k0 := 7) (As := [.int 0, .int G28, .int 1]) (rest := []) hX hB (k_X10_isThrown κ l (lA κ b17 ((r (2 * y.toNatClampNeg + 1)) * 5) F22 :: gO g16 (r (2 * y.toNatClampNeg + 1)) (r (2 * y.toNatClampNeg + 1)) b17 :: lA κ b19 ((r (2 * y.toNatClampNeg)) * 5) F23 :: gO g18 (r (2 * y.toNatClampNeg)) (r (2 * y.toNatClampNeg)) b19 :: lA κ b21 ((r (2 * y.toNatClampNeg)) * 5) F24 :: gO g20 (r (2 * y.toNatClampNeg)) (r (2 * y.toNatClampNeg + 1)) b21 :: (q14, .inr (10, [.ref g20, .ref g18, .ref g16, .int S25, .int S26, .int (nI K27), .int G28])) :: mw κ a r f (va_up q 3 t11) (tb a) w) 7 (a 0) (a 1) ((va_up q 3 t11) 0) ((va_up q 3 t11) 1) ((va_up q 3 t11) 2) ((va_up q 3 t11) 3) 0 G28 1 (mw0x (a := a) (r := r) (f := f) (q := (va_up q 3 t11)) (T := tb a) (w := w) rfl)) ⟨rfl, by decide, by decide, by decide +kernel⟩ wm_5_192 wm_5_194 wp_28 wm_1_6 wm_5_195 ⟨Nat.le_of_ble_eq_true rfl, Nat.le_of_ble_eq_true rfl⟩ ⟨Nat.le_of_ble_eq_true rfl, Nat.le_of_ble_eq_true rfl⟩ (mw0x (a := a) (r := r) (f := f) (q := (va_up q 3 t11)) (T := tb a) (w := w) rfl) rfl rfl rfl hl.1 rfl (Nat.le_of_ble_eq_true rfl) dX10_restColumn_89 (fun o w' H locs hp hB => ?_)
          obtain ⟨x43, t44, rfl, hf45, hw9⟩ := hp
          replace hB : Bd κ A s (lA κ b17 ((r (2 * y.toNatClampNeg + 1)) * 5) F22 :: gO g16 (r (2 * y.toNatClampNeg + 1)) (r (2 * y.toNatClampNeg + 1)) b17 :: lA κ b19 ((r (2 * y.toNatClampNeg)) * 5) F23 :: gO g18 (r (2 * y.toNatClampNeg)) (r (2 * y.toNatClampNeg)) b19 :: lA κ b21 ((r (2 * y.toNatClampNeg)) * 5) F24 :: gO g20 (r (2 * y.toNatClampNeg)) (r (2 * y.toNatClampNeg + 1)) b21 :: (q14, .inr (10, [.ref g20, .ref g18, .ref g16, .int S25, .int S26, .int (nI K27), .int G28])) :: mw κ a r f (va_up (va_up q 3 t11) 3 t44) (tb a) w) H locs := by exact Bd_eq (congrArg (List.cons _) (congrArg (List.cons _) (congrArg (List.cons _) (congrArg (List.cons _) (congrArg (List.cons _) (congrArg (List.cons _) (congrArg (List.cons _) (mwQ3x rfl _)))))))) (by rw [hw9] at hB; exact hB)
          obtain rfl : x43 = 1 := hf45.trans (thr_3 (by decide)).symm
          refine W.eq (g2 := F0 m 92 ls [.int 1]) rfl ?_
          refine lv_if_eq (tgt := 97) hx hb dX10_restColumn_92 (by decide) (fun c46 => False.elim (by revert c46; decide)) (fun _ => ?_)
          refine lv_iconst (v := 0) hx hb dX10_restColumn_95 (by decide) ?_
          replace hB : Bd κ A s (lA κ b17 ((r (2 * y.toNatClampNeg + 1)) * 5) F22 :: gO g16 (r (2 * y.toNatClampNeg + 1)) (r (2 * y.toNatClampNeg + 1)) b17 :: lA κ b19 ((r (2 * y.toNatClampNeg)) * 5) F23 :: gO g18 (r (2 * y.toNatClampNeg)) (r (2 * y.toNatClampNeg)) b19 :: lA κ b21 ((r (2 * y.toNatClampNeg)) * 5) F24 :: gO g20 (r (2 * y.toNatClampNeg)) (r (2 * y.toNatClampNeg + 1)) b21 :: mw κ a r f (va_up (va_up q 3 t11) 3 t44) (tb a) w) H locs := Bd_del 6 hB
          replace hB : Bd κ A s (lA κ b17 ((r (2 * y.toNatClampNeg + 1)) * 5) F22 :: gO g16 (r (2 * y.toNatClampNeg + 1)) (r (2 * y.toNatClampNeg + 1)) b17 :: lA κ b19 ((r (2 * y.toNatClampNeg)) * 5) F23 :: gO g18 (r (2 * y.toNatClampNeg)) (r (2 * y.toNatClampNeg)) b19 :: lA κ b21 ((r (2 * y.toNatClampNeg)) * 5) F24 :: mw κ a r f (va_up (va_up q 3 t11) 3 t44) (tb a) w) H locs := Bd_del 5 hB
          replace hB : Bd κ A s (lA κ b17 ((r (2 * y.toNatClampNeg + 1)) * 5) F22 :: gO g16 (r (2 * y.toNatClampNeg + 1)) (r (2 * y.toNatClampNeg + 1)) b17 :: lA κ b19 ((r (2 * y.toNatClampNeg)) * 5) F23 :: gO g18 (r (2 * y.toNatClampNeg)) (r (2 * y.toNatClampNeg)) b19 :: mw κ a r f (va_up (va_up q 3 t11) 3 t44) (tb a) w) H locs := Bd_del 4 hB
          replace hB : Bd κ A s (lA κ b17 ((r (2 * y.toNatClampNeg + 1)) * 5) F22 :: gO g16 (r (2 * y.toNatClampNeg + 1)) (r (2 * y.toNatClampNeg + 1)) b17 :: lA κ b19 ((r (2 * y.toNatClampNeg)) * 5) F23 :: mw κ a r f (va_up (va_up q 3 t11) 3 t44) (tb a) w) H locs := Bd_del 3 hB
          replace hB : Bd κ A s (lA κ b17 ((r (2 * y.toNatClampNeg + 1)) * 5) F22 :: gO g16 (r (2 * y.toNatClampNeg + 1)) (r (2 * y.toNatClampNeg + 1)) b17 :: mw κ a r f (va_up (va_up q 3 t11) 3 t44) (tb a) w) H locs := Bd_del 2 hB
          replace hB : Bd κ A s (lA κ b17 ((r (2 * y.toNatClampNeg + 1)) * 5) F22 :: mw κ a r f (va_up (va_up q 3 t11) 3 t44) (tb a) w) H locs := Bd_del 1 hB
          replace hB : Bd κ A s (mw κ a r f (va_up (va_up q 3 t11) 3 t44) (tb a) w) H locs := Bd_del 0 hB
          rw [← hQ]
          exact end_i hX hB hA3 rfl rfl ⟨0, (va_up (va_up q 3 t11) 3 t44), rfl, rfl, rfl⟩ (Nat.le_of_ble_eq_true rfl) (Nat.le_of_ble_eq_true rfl) dX10_restColumn_96
        · refine lv_iload_n hx hb dX10_restColumn_67 rfl (lv_at hl 5 rfl) ?_
          refine lv_iload hx hb dX10_restColumn_68 (lv_at hl 0 rfl) ?_
          refine lv_icmp_lt (tgt := 77) hx hb dX10_restColumn_70 (by decide) (fun c48 => ?_) (fun c48 => ?_)
          · have hq47 := nlt_of (x := u) (n := r (2 * y.toNatClampNeg + 1)) c42 (by omega) (Int32.not_le.mpr c48)
            refine lv_iconst (v := 0) hx hb dX10_restColumn_77 (by decide) ?_
            refine lv_istore (lv' := [(6, .int 0), (5, .int (nI (r (2 * y.toNatClampNeg + 1)))), (4, .ref q14), (0, .ref (a 0)), (1, .int y), (2, .int z), (3, .int u)]) hx hb dX10_restColumn_78 hl (by decide) rfl (fun ls hl => ?_)
            refine lv_aload_n hx hb dX10_restColumn_80 rfl (lv_at hl 3 rfl) ?_
            refine lv_iconst (v := 0) hx hb dX10_restColumn_81 (by decide) ?_
            refine lv_aload hx hb dX10_restColumn_82 (lv_at hl 2 rfl) ?_
            refine gf (k0 := 6) hX hB rfl rfl in9 6 (by decide) wm_6_230 rfl rfl dX10_restColumn_84 ?_
            refine lv_iload hx hb dX10_restColumn_87 (lv_at hl 0 rfl) ?_
            refine call_V (n := 3) (k0 := 7) (As := [.int 0, .int G28, .int 0]) (rest := []) hX hB (k_X10_isThrown κ l (lA κ b17 ((r (2 * y.toNatClampNeg + 1)) * 5) F22 :: gO g16 (r (2 * y.toNatClampNeg + 1)) (r (2 * y.toNatClampNeg + 1)) b17 :: lA κ b19 ((r (2 * y.toNatClampNeg)) * 5) F23 :: gO g18 (r (2 * y.toNatClampNeg)) (r (2 * y.toNatClampNeg)) b19 :: lA κ b21 ((r (2 * y.toNatClampNeg)) * 5) F24 :: gO g20 (r (2 * y.toNatClampNeg)) (r (2 * y.toNatClampNeg + 1)) b21 :: (q14, .inr (10, [.ref g20, .ref g18, .ref g16, .int S25, .int S26, .int (nI K27), .int G28])) :: mw κ a r f (va_up q 3 t11) (tb a) w) 7 (a 0) (a 1) ((va_up q 3 t11) 0) ((va_up q 3 t11) 1) ((va_up q 3 t11) 2) ((va_up q 3 t11) 3) 0 G28 0 (mw0x (a := a) (r := r) (f := f) (q := (va_up q 3 t11)) (T := tb a) (w := w) rfl)) ⟨rfl, by decide, by decide, by decide +kernel⟩ wm_5_192 wm_5_194 wp_28 wm_1_6 wm_5_195 ⟨Nat.le_of_ble_eq_true rfl, Nat.le_of_ble_eq_true rfl⟩ ⟨Nat.le_of_ble_eq_true rfl, Nat.le_of_ble_eq_true rfl⟩ (mw0x (a := a) (r := r) (f := f) (q := (va_up q 3 t11)) (T := tb a) (w := w) rfl) rfl rfl rfl hl.1 rfl (Nat.le_of_ble_eq_true rfl) dX10_restColumn_89 (fun o w' H locs hp hB => ?_)
            obtain ⟨x49, t50, rfl, hf51, hw9⟩ := hp
            replace hB : Bd κ A s (lA κ b17 ((r (2 * y.toNatClampNeg + 1)) * 5) F22 :: gO g16 (r (2 * y.toNatClampNeg + 1)) (r (2 * y.toNatClampNeg + 1)) b17 :: lA κ b19 ((r (2 * y.toNatClampNeg)) * 5) F23 :: gO g18 (r (2 * y.toNatClampNeg)) (r (2 * y.toNatClampNeg)) b19 :: lA κ b21 ((r (2 * y.toNatClampNeg)) * 5) F24 :: gO g20 (r (2 * y.toNatClampNeg)) (r (2 * y.toNatClampNeg + 1)) b21 :: (q14, .inr (10, [.ref g20, .ref g18, .ref g16, .int S25, .int S26, .int (nI K27), .int G28])) :: mw κ a r f (va_up (va_up q 3 t11) 3 t50) (tb a) w) H locs := by exact Bd_eq (congrArg (List.cons _) (congrArg (List.cons _) (congrArg (List.cons _) (congrArg (List.cons _) (congrArg (List.cons _) (congrArg (List.cons _) (congrArg (List.cons _) (mwQ3x rfl _)))))))) (by rw [hw9] at hB; exact hB)
            rcases thr_cases hf51 with ⟨rfl, hz52a, hz52b, hz52c⟩ | ⟨rfl, hz52⟩
            · refine W.eq (g2 := F0 m 92 ls [.int 0]) rfl ?_
              refine lv_if_eq (tgt := 97) hx hb dX10_restColumn_92 (by decide) (fun _ => ?_) (fun c53 => False.elim (by revert c53; decide))
              refine lv_aload hx hb dX10_restColumn_97 (lv_at hl 2 rfl) ?_
              refine gf (k0 := 6) hX hB rfl rfl in9 2 (by decide) wm_6_222 rfl rfl dX10_restColumn_99 ?_
              refine lv_iload_n hx hb dX10_restColumn_102 rfl (lv_at hl 6 rfl) ?_
              refine lv_aload hx hb dX10_restColumn_103 (lv_at hl 2 rfl) ?_
              refine gf (k0 := 6) hX hB rfl rfl in9 5 (by decide) wm_6_228 rfl rfl dX10_restColumn_105 ?_
              refine lv_iload_n hx hb dX10_restColumn_108 rfl (lv_at hl 5 rfl) ?_
              refine eqi (y := nI (z.toNatClampNeg)) (nI_rep (Int32.not_lt.mp (by assumption))) ?_
              refine lv_iadd hx hb dX10_restColumn_109 ?_
              refine eqi (y := nI (K27 + z.toNatClampNeg)) (nI_add K27 z.toNatClampNeg) ?_
              refine call_V (n := 2) (k0 := 1) (As := [.int u, .int (nI (K27 + z.toNatClampNeg))]) (rest := []) hX hB (k_X7_at κ l (lA κ b17 ((r (2 * y.toNatClampNeg + 1)) * 5) F22 :: gO g16 (r (2 * y.toNatClampNeg + 1)) (r (2 * y.toNatClampNeg + 1)) b17 :: lA κ b19 ((r (2 * y.toNatClampNeg)) * 5) F23 :: gO g18 (r (2 * y.toNatClampNeg)) (r (2 * y.toNatClampNeg)) b19 :: lA κ b21 ((r (2 * y.toNatClampNeg)) * 5) F24 :: gO g20 (r (2 * y.toNatClampNeg)) (r (2 * y.toNatClampNeg + 1)) b21 :: (q14, .inr (10, [.ref g20, .ref g18, .ref g16, .int S25, .int S26, .int (nI K27), .int G28])) :: mw κ a r f (va_up (va_up q 3 t11) 3 t50) (tb a) w) 1 0 g16 b17 (r (2 * y.toNatClampNeg + 1)) (r (2 * y.toNatClampNeg + 1)) F22 u ((u).toNatClampNeg) (nI (K27 + z.toNatClampNeg)) (K27 + z.toNatClampNeg) rfl rfl ⟨by omega, by omega, by omega, by omega⟩ (nI_rep (Int32.not_lt.mp (by assumption))) rfl (by omega)) ⟨rfl, by decide, by decide, by decide +kernel⟩ wm_5_233 wm_5_234 wm_5_235 wm_1_7 wm_5_236 ⟨Nat.le_of_ble_eq_true rfl, Nat.le_of_ble_eq_true rfl⟩ ⟨Nat.le_of_ble_eq_true rfl, Nat.le_of_ble_eq_true rfl⟩ rfl rfl rfl rfl hl.1 rfl (Nat.le_of_ble_eq_true rfl) dX10_restColumn_110 (fun o w' H locs hp hB => ?_)
              obtain ⟨rfl, hw9⟩ := hp
              replace hB : Bd κ A s (lA κ b17 ((r (2 * y.toNatClampNeg + 1)) * 5) F22 :: gO g16 (r (2 * y.toNatClampNeg + 1)) (r (2 * y.toNatClampNeg + 1)) b17 :: lA κ b19 ((r (2 * y.toNatClampNeg)) * 5) F23 :: gO g18 (r (2 * y.toNatClampNeg)) (r (2 * y.toNatClampNeg)) b19 :: lA κ b21 ((r (2 * y.toNatClampNeg)) * 5) F24 :: gO g20 (r (2 * y.toNatClampNeg)) (r (2 * y.toNatClampNeg + 1)) b21 :: (q14, .inr (10, [.ref g20, .ref g18, .ref g16, .int S25, .int S26, .int (nI K27), .int G28])) :: mw κ a r f (va_up (va_up q 3 t11) 3 t50) (tb a) w) H locs := by rw [hw9] at hB; exact hB
              refine W.eq (g2 := F0 m 113 ls [.long (F22 (((u).toNatClampNeg) * 5 + (K27 + z.toNatClampNeg)))]) rfl ?_
              refine lv_l2i hx hb dX10_restColumn_113 rfl ?_
              replace hB : Bd κ A s (lA κ b17 ((r (2 * y.toNatClampNeg + 1)) * 5) F22 :: gO g16 (r (2 * y.toNatClampNeg + 1)) (r (2 * y.toNatClampNeg + 1)) b17 :: lA κ b19 ((r (2 * y.toNatClampNeg)) * 5) F23 :: gO g18 (r (2 * y.toNatClampNeg)) (r (2 * y.toNatClampNeg)) b19 :: lA κ b21 ((r (2 * y.toNatClampNeg)) * 5) F24 :: gO g20 (r (2 * y.toNatClampNeg)) (r (2 * y.toNatClampNeg + 1)) b21 :: mw κ a r f (va_up (va_up q 3 t11) 3 t50) (tb a) w) H locs := Bd_del 6 hB
              replace hB : Bd κ A s (lA κ b17 ((r (2 * y.toNatClampNeg + 1)) * 5) F22 :: gO g16 (r (2 * y.toNatClampNeg + 1)) (r (2 * y.toNatClampNeg + 1)) b17 :: lA κ b19 ((r (2 * y.toNatClampNeg)) * 5) F23 :: gO g18 (r (2 * y.toNatClampNeg)) (r (2 * y.toNatClampNeg)) b19 :: lA κ b21 ((r (2 * y.toNatClampNeg)) * 5) F24 :: mw κ a r f (va_up (va_up q 3 t11) 3 t50) (tb a) w) H locs := Bd_del 5 hB
              replace hB : Bd κ A s (lA κ b17 ((r (2 * y.toNatClampNeg + 1)) * 5) F22 :: gO g16 (r (2 * y.toNatClampNeg + 1)) (r (2 * y.toNatClampNeg + 1)) b17 :: lA κ b19 ((r (2 * y.toNatClampNeg)) * 5) F23 :: gO g18 (r (2 * y.toNatClampNeg)) (r (2 * y.toNatClampNeg)) b19 :: mw κ a r f (va_up (va_up q 3 t11) 3 t50) (tb a) w) H locs := Bd_del 4 hB
              replace hB : Bd κ A s (lA κ b17 ((r (2 * y.toNatClampNeg + 1)) * 5) F22 :: gO g16 (r (2 * y.toNatClampNeg + 1)) (r (2 * y.toNatClampNeg + 1)) b17 :: lA κ b19 ((r (2 * y.toNatClampNeg)) * 5) F23 :: mw κ a r f (va_up (va_up q 3 t11) 3 t50) (tb a) w) H locs := Bd_del 3 hB
              replace hB : Bd κ A s (lA κ b17 ((r (2 * y.toNatClampNeg + 1)) * 5) F22 :: gO g16 (r (2 * y.toNatClampNeg + 1)) (r (2 * y.toNatClampNeg + 1)) b17 :: mw κ a r f (va_up (va_up q 3 t11) 3 t50) (tb a) w) H locs := Bd_del 2 hB
              replace hB : Bd κ A s (lA κ b17 ((r (2 * y.toNatClampNeg + 1)) * 5) F22 :: mw κ a r f (va_up (va_up q 3 t11) 3 t50) (tb a) w) H locs := Bd_del 1 hB
              replace hB : Bd κ A s (mw κ a r f (va_up (va_up q 3 t11) 3 t50) (tb a) w) H locs := Bd_del 0 hB
              rw [← hQ]
              exact end_i hX hB hA3 rfl rfl ⟨(((F22 (((u).toNatClampNeg) * 5 + (K27 + z.toNatClampNeg)))).toInt32), (va_up (va_up q 3 t11) 3 t50), rfl, rfl, rfl⟩ (Nat.le_of_ble_eq_true rfl) (Nat.le_of_ble_eq_true rfl) dX10_restColumn_114
            · refine W.eq (g2 := F0 m 92 ls [.int 1]) rfl ?_
              refine lv_if_eq (tgt := 97) hx hb dX10_restColumn_92 (by decide) (fun c54 => False.elim (by revert c54; decide)) (fun _ => ?_)
              refine lv_iconst (v := 0) hx hb dX10_restColumn_95 (by decide) ?_
              replace hB : Bd κ A s (lA κ b17 ((r (2 * y.toNatClampNeg + 1)) * 5) F22 :: gO g16 (r (2 * y.toNatClampNeg + 1)) (r (2 * y.toNatClampNeg + 1)) b17 :: lA κ b19 ((r (2 * y.toNatClampNeg)) * 5) F23 :: gO g18 (r (2 * y.toNatClampNeg)) (r (2 * y.toNatClampNeg)) b19 :: lA κ b21 ((r (2 * y.toNatClampNeg)) * 5) F24 :: gO g20 (r (2 * y.toNatClampNeg)) (r (2 * y.toNatClampNeg + 1)) b21 :: mw κ a r f (va_up (va_up q 3 t11) 3 t50) (tb a) w) H locs := Bd_del 6 hB
              replace hB : Bd κ A s (lA κ b17 ((r (2 * y.toNatClampNeg + 1)) * 5) F22 :: gO g16 (r (2 * y.toNatClampNeg + 1)) (r (2 * y.toNatClampNeg + 1)) b17 :: lA κ b19 ((r (2 * y.toNatClampNeg)) * 5) F23 :: gO g18 (r (2 * y.toNatClampNeg)) (r (2 * y.toNatClampNeg)) b19 :: lA κ b21 ((r (2 * y.toNatClampNeg)) * 5) F24 :: mw κ a r f (va_up (va_up q 3 t11) 3 t50) (tb a) w) H locs := Bd_del 5 hB
              replace hB : Bd κ A s (lA κ b17 ((r (2 * y.toNatClampNeg + 1)) * 5) F22 :: gO g16 (r (2 * y.toNatClampNeg + 1)) (r (2 * y.toNatClampNeg + 1)) b17 :: lA κ b19 ((r (2 * y.toNatClampNeg)) * 5) F23 :: gO g18 (r (2 * y.toNatClampNeg)) (r (2 * y.toNatClampNeg)) b19 :: mw κ a r f (va_up (va_up q 3 t11) 3 t50) (tb a) w) H locs := Bd_del 4 hB
              replace hB : Bd κ A s (lA κ b17 ((r (2 * y.toNatClampNeg + 1)) * 5) F22 :: gO g16 (r (2 * y.toNatClampNeg + 1)) (r (2 * y.toNatClampNeg + 1)) b17 :: lA κ b19 ((r (2 * y.toNatClampNeg)) * 5) F23 :: mw κ a r f (va_up (va_up q 3 t11) 3 t50) (tb a) w) H locs := Bd_del 3 hB
              replace hB : Bd κ A s (lA κ b17 ((r (2 * y.toNatClampNeg + 1)) * 5) F22 :: gO g16 (r (2 * y.toNatClampNeg + 1)) (r (2 * y.toNatClampNeg + 1)) b17 :: mw κ a r f (va_up (va_up q 3 t11) 3 t50) (tb a) w) H locs := Bd_del 2 hB
              replace hB : Bd κ A s (lA κ b17 ((r (2 * y.toNatClampNeg + 1)) * 5) F22 :: mw κ a r f (va_up (va_up q 3 t11) 3 t50) (tb a) w) H locs := Bd_del 1 hB
              replace hB : Bd κ A s (mw κ a r f (va_up (va_up q 3 t11) 3 t50) (tb a) w) H locs := Bd_del 0 hB
              rw [← hQ]
              exact end_i hX hB hA3 rfl rfl ⟨0, (va_up (va_up q 3 t11) 3 t50), rfl, rfl, rfl⟩ (Nat.le_of_ble_eq_true rfl) (Nat.le_of_ble_eq_true rfl) dX10_restColumn_96
          · refine lv_iconst (v := 1) hx hb dX10_restColumn_73 (by decide) ?_
            refine lv_goto (tgt := 78) hx hb dX10_restColumn_74 (by decide) ?_
            refine lv_istore (lv' := [(6, .int 1), (5, .int (nI (r (2 * y.toNatClampNeg + 1)))), (4, .ref q14), (0, .ref (a 0)), (1, .int y), (2, .int z), (3, .int u)]) hx hb dX10_restColumn_78 hl (by decide) rfl (fun ls hl => ?_)
            refine lv_aload_n hx hb dX10_restColumn_80 rfl (lv_at hl 3 rfl) ?_
            refine lv_iconst (v := 0) hx hb dX10_restColumn_81 (by decide) ?_
            refine lv_aload hx hb dX10_restColumn_82 (lv_at hl 2 rfl) ?_
            refine gf (k0 := 6) hX hB rfl rfl in9 6 (by decide) wm_6_230 rfl rfl dX10_restColumn_84 ?_
            refine lv_iload hx hb dX10_restColumn_87 (lv_at hl 0 rfl) ?_
            refine call_V (n := 3) (k0 := 7) (As := [.int 0, .int G28, .int 1]) (rest := []) hX hB (k_X10_isThrown κ l (lA κ b17 ((r (2 * y.toNatClampNeg + 1)) * 5) F22 :: gO g16 (r (2 * y.toNatClampNeg + 1)) (r (2 * y.toNatClampNeg + 1)) b17 :: lA κ b19 ((r (2 * y.toNatClampNeg)) * 5) F23 :: gO g18 (r (2 * y.toNatClampNeg)) (r (2 * y.toNatClampNeg)) b19 :: lA κ b21 ((r (2 * y.toNatClampNeg)) * 5) F24 :: gO g20 (r (2 * y.toNatClampNeg)) (r (2 * y.toNatClampNeg + 1)) b21 :: (q14, .inr (10, [.ref g20, .ref g18, .ref g16, .int S25, .int S26, .int (nI K27), .int G28])) :: mw κ a r f (va_up q 3 t11) (tb a) w) 7 (a 0) (a 1) ((va_up q 3 t11) 0) ((va_up q 3 t11) 1) ((va_up q 3 t11) 2) ((va_up q 3 t11) 3) 0 G28 1 (mw0x (a := a) (r := r) (f := f) (q := (va_up q 3 t11)) (T := tb a) (w := w) rfl)) ⟨rfl, by decide, by decide, by decide +kernel⟩ wm_5_192 wm_5_194 wp_28 wm_1_6 wm_5_195 ⟨Nat.le_of_ble_eq_true rfl, Nat.le_of_ble_eq_true rfl⟩ ⟨Nat.le_of_ble_eq_true rfl, Nat.le_of_ble_eq_true rfl⟩ (mw0x (a := a) (r := r) (f := f) (q := (va_up q 3 t11)) (T := tb a) (w := w) rfl) rfl rfl rfl hl.1 rfl (Nat.le_of_ble_eq_true rfl) dX10_restColumn_89 (fun o w' H locs hp hB => ?_)
            obtain ⟨x55, t56, rfl, hf57, hw9⟩ := hp
            replace hB : Bd κ A s (lA κ b17 ((r (2 * y.toNatClampNeg + 1)) * 5) F22 :: gO g16 (r (2 * y.toNatClampNeg + 1)) (r (2 * y.toNatClampNeg + 1)) b17 :: lA κ b19 ((r (2 * y.toNatClampNeg)) * 5) F23 :: gO g18 (r (2 * y.toNatClampNeg)) (r (2 * y.toNatClampNeg)) b19 :: lA κ b21 ((r (2 * y.toNatClampNeg)) * 5) F24 :: gO g20 (r (2 * y.toNatClampNeg)) (r (2 * y.toNatClampNeg + 1)) b21 :: (q14, .inr (10, [.ref g20, .ref g18, .ref g16, .int S25, .int S26, .int (nI K27), .int G28])) :: mw κ a r f (va_up (va_up q 3 t11) 3 t56) (tb a) w) H locs := by exact Bd_eq (congrArg (List.cons _) (congrArg (List.cons _) (congrArg (List.cons _) (congrArg (List.cons _) (congrArg (List.cons _) (congrArg (List.cons _) (congrArg (List.cons _) (mwQ3x rfl _)))))))) (by rw [hw9] at hB; exact hB)
            obtain rfl : x55 = 1 := hf57.trans (thr_3 (by decide)).symm
            refine W.eq (g2 := F0 m 92 ls [.int 1]) rfl ?_
            refine lv_if_eq (tgt := 97) hx hb dX10_restColumn_92 (by decide) (fun c58 => False.elim (by revert c58; decide)) (fun _ => ?_)
            refine lv_iconst (v := 0) hx hb dX10_restColumn_95 (by decide) ?_
            replace hB : Bd κ A s (lA κ b17 ((r (2 * y.toNatClampNeg + 1)) * 5) F22 :: gO g16 (r (2 * y.toNatClampNeg + 1)) (r (2 * y.toNatClampNeg + 1)) b17 :: lA κ b19 ((r (2 * y.toNatClampNeg)) * 5) F23 :: gO g18 (r (2 * y.toNatClampNeg)) (r (2 * y.toNatClampNeg)) b19 :: lA κ b21 ((r (2 * y.toNatClampNeg)) * 5) F24 :: gO g20 (r (2 * y.toNatClampNeg)) (r (2 * y.toNatClampNeg + 1)) b21 :: mw κ a r f (va_up (va_up q 3 t11) 3 t56) (tb a) w) H locs := Bd_del 6 hB
            replace hB : Bd κ A s (lA κ b17 ((r (2 * y.toNatClampNeg + 1)) * 5) F22 :: gO g16 (r (2 * y.toNatClampNeg + 1)) (r (2 * y.toNatClampNeg + 1)) b17 :: lA κ b19 ((r (2 * y.toNatClampNeg)) * 5) F23 :: gO g18 (r (2 * y.toNatClampNeg)) (r (2 * y.toNatClampNeg)) b19 :: lA κ b21 ((r (2 * y.toNatClampNeg)) * 5) F24 :: mw κ a r f (va_up (va_up q 3 t11) 3 t56) (tb a) w) H locs := Bd_del 5 hB
            replace hB : Bd κ A s (lA κ b17 ((r (2 * y.toNatClampNeg + 1)) * 5) F22 :: gO g16 (r (2 * y.toNatClampNeg + 1)) (r (2 * y.toNatClampNeg + 1)) b17 :: lA κ b19 ((r (2 * y.toNatClampNeg)) * 5) F23 :: gO g18 (r (2 * y.toNatClampNeg)) (r (2 * y.toNatClampNeg)) b19 :: mw κ a r f (va_up (va_up q 3 t11) 3 t56) (tb a) w) H locs := Bd_del 4 hB
            replace hB : Bd κ A s (lA κ b17 ((r (2 * y.toNatClampNeg + 1)) * 5) F22 :: gO g16 (r (2 * y.toNatClampNeg + 1)) (r (2 * y.toNatClampNeg + 1)) b17 :: lA κ b19 ((r (2 * y.toNatClampNeg)) * 5) F23 :: mw κ a r f (va_up (va_up q 3 t11) 3 t56) (tb a) w) H locs := Bd_del 3 hB
            replace hB : Bd κ A s (lA κ b17 ((r (2 * y.toNatClampNeg + 1)) * 5) F22 :: gO g16 (r (2 * y.toNatClampNeg + 1)) (r (2 * y.toNatClampNeg + 1)) b17 :: mw κ a r f (va_up (va_up q 3 t11) 3 t56) (tb a) w) H locs := Bd_del 2 hB
            replace hB : Bd κ A s (lA κ b17 ((r (2 * y.toNatClampNeg + 1)) * 5) F22 :: mw κ a r f (va_up (va_up q 3 t11) 3 t56) (tb a) w) H locs := Bd_del 1 hB
            replace hB : Bd κ A s (mw κ a r f (va_up (va_up q 3 t11) 3 t56) (tb a) w) H locs := Bd_del 0 hB
            rw [← hQ]
            exact end_i hX hB hA3 rfl rfl ⟨0, (va_up (va_up q 3 t11) 3 t56), rfl, rfl, rfl⟩ (Nat.le_of_ble_eq_true rfl) (Nat.le_of_ble_eq_true rfl) dX10_restColumn_96
set_option maxHeartbeats 4000000 in
set_option maxRecDepth 100000 in
theorem k_X10_houseNow (κ : Kt) (l : Launch) (w : va_W) (a r : Nat → Nat) (f : Nat → Nat → Int64) (q : Nat → Int32) (y : Int32) (hm : mok r f) : CM κ l yX10_houseNow cX10_houseNow 5 (some .int) 1 22 0 0 [.ref (a 0), .int y] (mw κ a r f q (tb a) w) (fun o w' => ∃ (x : Int32), o = some (.int x) ∧ w' = mw κ a r f q (tb a) w) := by
  refine CM_begin (plainFor_of_name (by decide)) (Nat.le_of_ble_eq_true rfl) ?_
  intro p e s m args below meth c A Q hX hnm hA3 hQ hB ls hl
  have hx := hX.1.1
  have hb := hX.1.2.1
  have hl : lv_has ls 5 [(0, .ref (a 0)), (1, .int y)] := hl
  refine lv_iload_n hx hb dX10_houseNow_0 rfl (lv_at hl 1 rfl) ?_
  refine lv_iconst (v := 3) hx hb dX10_houseNow_1 (by decide) ?_
  refine lv_icmp_ge (tgt := 33) hx hb dX10_houseNow_2 (by decide) (fun c1 => ?_) (fun c1 => ?_)
  · refine lv_iconst (v := 0) hx hb dX10_houseNow_33 (by decide) ?_
    refine lv_istore_n (lv' := [(2, .int 0), (0, .ref (a 0)), (1, .int y)]) hx hb dX10_houseNow_34 rfl hl (by decide) rfl (fun ls hl => ?_)
    refine lv_iconst (v := 0) hx hb dX10_houseNow_35 (by decide) ?_
    refine lv_istore_n (lv' := [(3, .int 0), (2, .int 0), (0, .ref (a 0)), (1, .int y)]) hx hb dX10_houseNow_36 rfl hl (by decide) rfl (fun ls hl => ?_)
    have lp37 : ∀ (nn : Nat) (y3_37 : Nat) (y2_37 : Nat) (H : Heap) (locs : List Loc), (y3_37 ≤ 4) → 4 + 1 - y3_37 < nn → Bd κ A s (mw κ a r f q (tb a) w) H locs → ∀ ls : Array Slot, lv_has ls 5 [(3, .int (nI y3_37)), (2, .int (nI y2_37)), (0, .ref (a 0)), (1, .int y)] → W p l e (Rm 1 22 0 0) s m args below meth c H locs 0 0 Q (F0 m 37 ls []) := by
      intro nn
      induction nn with
      | zero => intro y3_37 y2_37 H locs hn3_37 hμ; exact absurd hμ (Nat.not_lt_zero _)
      | succ nn ih37 =>
        intro y3_37 y2_37 H locs hn3_37 hμ37 hB ls hl
        refine lv_iload_n hx hb dX10_houseNow_37 rfl (lv_at hl 0 rfl) ?_
        refine lv_iconst (v := 4) hx hb dX10_houseNow_38 (by decide) ?_
        refine lv_icmp_ge (tgt := 90) hx hb dX10_houseNow_39 (by decide) (fun c49 => ?_) (fun c49 => ?_)
        · replace c49 : nI 4 ≤ nI y3_37 := c49
          rw [nleP (by omega) (by omega)] at c49
          refine lv_iload_n hx hb dX10_houseNow_90 rfl (lv_at hl 1 rfl) ?_
          rw [← hQ]
          exact end_i hX hB hA3 rfl rfl ⟨(nI y2_37), rfl, rfl⟩ (Nat.le_of_ble_eq_true rfl) (Nat.le_of_ble_eq_true rfl) dX10_houseNow_91
        · replace c49 : ¬ nI 4 ≤ nI y3_37 := c49
          rw [nleP (by omega) (by omega)] at c49
          refine lv_iconst (v := 0) hx hb dX10_houseNow_42 (by decide) ?_
          refine lv_istore (lv' := [(4, .int 0), (3, .int (nI y3_37)), (2, .int (nI y2_37)), (0, .ref (a 0)), (1, .int y)]) hx hb dX10_houseNow_43 hl (by decide) rfl (fun ls hl => ?_)
          have lp45 : ∀ (nn : Nat) (y4_45 : Nat) (y2_45 : Nat) (H : Heap) (locs : List Loc), (y4_45 ≤ y3_37) → y3_37 + 1 - y4_45 < nn → Bd κ A s (mw κ a r f q (tb a) w) H locs → ∀ ls : Array Slot, lv_has ls 5 [(4, .int (nI y4_45)), (3, .int (nI y3_37)), (2, .int (nI y2_45)), (0, .ref (a 0)), (1, .int y)] → W p l e (Rm 1 22 0 0) s m args below meth c H locs 0 0 Q (F0 m 45 ls []) := by
            intro nn
            induction nn with
            | zero => intro y4_45 y2_45 H locs hn4_45 hμ; exact absurd hμ (Nat.not_lt_zero _)
            | succ nn ih45 =>
              intro y4_45 y2_45 H locs hn4_45 hμ45 hB ls hl
              refine lv_iload hx hb dX10_houseNow_45 (lv_at hl 0 rfl) ?_
              refine lv_iload_n hx hb dX10_houseNow_47 rfl (lv_at hl 1 rfl) ?_
              refine lv_icmp_ge (tgt := 84) hx hb dX10_houseNow_48 (by decide) (fun c64 => ?_) (fun c64 => ?_)
              · rw [nleP (a := y3_37) (b := y4_45) (by omega) (by omega)] at c64
                refine lv_iinc (v := nI (y3_37 + 1)) (lv' := [(3, .int (nI (y3_37 + 1))), (4, .int (nI y4_45)), (2, .int (nI y2_45)), (0, .ref (a 0)), (1, .int y)]) hx hb dX10_houseNow_84 hl (k := 1) rfl (nI_add y3_37 1) (by decide) rfl (fun ls hl => ?_)
                refine lv_goto (tgt := 37) hx hb dX10_houseNow_87 (by decide) ?_
                exact ih37 (y3_37 + 1) y2_45 _ _ (by omega) (by omega) hB _ (lv_sub hl [0, 2, 3, 4] rfl)
              · rw [nleP (a := y3_37) (b := y4_45) (by omega) (by omega)] at c64
                refine lv_iload_n hx hb dX10_houseNow_51 rfl (lv_at hl 2 rfl) ?_
                refine lv_aload_n hx hb dX10_houseNow_52 rfl (lv_at hl 3 rfl) ?_
                refine gf (k0 := 0) hX hB (mw0x (a := a) (r := r) (f := f) (q := q) (T := tb a) (w := w) rfl) rfl in10 0 (by decide) wm_5_162 rfl rfl dX10_houseNow_53 ?_
                refine lv_iload_n hx hb dX10_houseNow_56 rfl (lv_at hl 1 rfl) ?_
                refine aaldM (k0 := 1) hX hB (mw1 (a := a) (r := r) (f := f) (q := q) (T := tb a) (w := w)) (vp_in_nI (n := y3_37) (by omega) (by omega)) (congrArg (tb a) (nI_clamp (n := y3_37) (by omega))) dX10_houseNow_57 ?_
                have hb65 := mok_r hm y3_37 (by omega)
                refine lv_aload_n hx hb dX10_houseNow_58 rfl (lv_at hl 3 rfl) ?_
                refine gf (k0 := 0) hX hB (mw0x (a := a) (r := r) (f := f) (q := q) (T := tb a) (w := w) rfl) rfl in10 0 (by decide) wm_5_162 rfl rfl dX10_houseNow_59 ?_
                refine lv_iload hx hb dX10_houseNow_62 (lv_at hl 0 rfl) ?_
                refine aaldM (k0 := 1) hX hB (mw1 (a := a) (r := r) (f := f) (q := q) (T := tb a) (w := w)) (vp_in_nI (n := y4_45) (by omega) (by omega)) (congrArg (tb a) (nI_clamp (n := y4_45) (by omega))) dX10_houseNow_64 ?_
                have hb66 := mok_r hm y4_45 (by omega)
                refine call_V (n := 1) (k0 := (2 + 2 * y3_37)) (As := [.ref (a (2 + 2 * y4_45))]) (rest := [.int (nI y2_45)]) hX hB (k_X7_isSame κ l (mw κ a r f q (tb a) w) (2 + 2 * y3_37) (3 + 2 * y3_37) (a (2 + 2 * y3_37)) (a (3 + 2 * y3_37)) (r (2 * y3_37)) (r (2 * y3_37 + 1)) (f y3_37) (2 + 2 * y4_45) (3 + 2 * y4_45) (a (2 + 2 * y4_45)) (a (3 + 2 * y4_45)) (r (2 * y4_45)) (r (2 * y4_45 + 1)) (f y4_45) (mwG (i := y3_37) (a := a) (r := r) (f := f) (q := q) (T := tb a) (w := w) (by omega)) (mwA (i := y3_37) (a := a) (r := r) (f := f) (q := q) (T := tb a) (w := w) (by omega)) (mok_shp (i := y3_37) hm (by omega)) (mwG (i := y4_45) (a := a) (r := r) (f := f) (q := q) (T := tb a) (w := w) (by omega)) (mwA (i := y4_45) (a := a) (r := r) (f := f) (q := q) (T := tb a) (w := w) (by omega)) (mok_shp (i := y4_45) hm (by omega))) ⟨rfl, by decide, by decide, by decide +kernel⟩ wm_6_15 wm_6_16 wm_6_17 wm_1_7 wm_6_18 ⟨Nat.le_of_ble_eq_true rfl, Nat.le_of_ble_eq_true rfl⟩ ⟨Nat.le_of_ble_eq_true rfl, Nat.le_of_ble_eq_true rfl⟩ (mwG (i := y3_37) (a := a) (r := r) (f := f) (q := q) (T := tb a) (w := w) (by omega)) rfl rfl rfl hl.1 rfl (Nat.le_of_ble_eq_true rfl) dX10_houseNow_65 (fun o w' H locs hp hB => ?_)
                obtain ⟨x67, rfl, hf68, hw9⟩ := hp
                replace hB : Bd κ A s (mw κ a r f q (tb a) w) H locs := by rw [hw9] at hB; exact hB
                rcases hf68 with rfl | rfl
                · refine W.eq (g2 := F0 m 68 ls [.int 0, .int (nI y2_45)]) rfl ?_
                  refine lv_if_eq (tgt := 75) hx hb dX10_houseNow_68 (by decide) (fun _ => ?_) (fun c69 => False.elim (by revert c69; decide))
                  refine lv_iconst (v := 0) hx hb dX10_houseNow_75 (by decide) ?_
                  refine lv_iadd hx hb dX10_houseNow_76 ?_
                  refine eqi (y := nI (y2_45 + 0)) (nI_add y2_45 0) ?_
                  refine lv_istore_n (lv' := [(2, .int (nI (y2_45 + 0))), (4, .int (nI y4_45)), (3, .int (nI y3_37)), (0, .ref (a 0)), (1, .int y)]) hx hb dX10_houseNow_77 rfl hl (by decide) rfl (fun ls hl => ?_)
                  refine lv_iinc (v := nI (y4_45 + 1)) (lv' := [(4, .int (nI (y4_45 + 1))), (2, .int (nI (y2_45 + 0))), (3, .int (nI y3_37)), (0, .ref (a 0)), (1, .int y)]) hx hb dX10_houseNow_78 hl (k := 1) rfl (nI_add y4_45 1) (by decide) rfl (fun ls hl => ?_)
                  refine lv_goto (tgt := 45) hx hb dX10_houseNow_81 (by decide) ?_
                  exact ih45 (y4_45 + 1) (y2_45 + 0) _ _ (by omega) (by omega) hB _ (lv_sub hl [0, 2, 1, 3, 4] rfl)
                · refine W.eq (g2 := F0 m 68 ls [.int 1, .int (nI y2_45)]) rfl ?_
                  refine lv_if_eq (tgt := 75) hx hb dX10_houseNow_68 (by decide) (fun c70 => False.elim (by revert c70; decide)) (fun _ => ?_)
                  refine lv_iconst (v := 1) hx hb dX10_houseNow_71 (by decide) ?_
                  refine lv_goto (tgt := 76) hx hb dX10_houseNow_72 (by decide) ?_
                  refine lv_iadd hx hb dX10_houseNow_76 ?_
                  refine eqi (y := nI (y2_45 + 1)) (nI_add y2_45 1) ?_
                  refine lv_istore_n (lv' := [(2, .int (nI (y2_45 + 1))), (4, .int (nI y4_45)), (3, .int (nI y3_37)), (0, .ref (a 0)), (1, .int y)]) hx hb dX10_houseNow_77 rfl hl (by decide) rfl (fun ls hl => ?_)
                  refine lv_iinc (v := nI (y4_45 + 1)) (lv' := [(4, .int (nI (y4_45 + 1))), (2, .int (nI (y2_45 + 1))), (3, .int (nI y3_37)), (0, .ref (a 0)), (1, .int y)]) hx hb dX10_houseNow_78 hl (k := 1) rfl (nI_add y4_45 1) (by decide) rfl (fun ls hl => ?_)
                  refine lv_goto (tgt := 45) hx hb dX10_houseNow_81 (by decide) ?_
                  exact ih45 (y4_45 + 1) (y2_45 + 1) _ _ (by omega) (by omega) hB _ (lv_sub hl [0, 2, 1, 3, 4] rfl)
          exact lp45 _ 0 y2_37 _ _ (by omega) (Nat.lt_succ_self _) hB _ hl
    exact lp37 _ 0 0 _ _ (by omega) (Nat.lt_succ_self _) hB _ hl
  · refine lv_iload_n hx hb dX10_houseNow_5 rfl (lv_at hl 1 rfl) ?_
    refine lv_if_ne (tgt := 16) hx hb dX10_houseNow_6 (by decide) (fun c71 => ?_) (fun c71 => ?_)
    · refine lv_iload_n hx hb dX10_houseNow_16 rfl (lv_at hl 1 rfl) ?_
      refine lv_iconst (v := 1) hx hb dX10_houseNow_17 (by decide) ?_
      refine lv_icmp_ne (tgt := 28) hx hb dX10_houseNow_18 (by decide) (fun c72 => ?_) (fun c72 => ?_)
      · refine lv_aload_n hx hb dX10_houseNow_28 rfl (lv_at hl 0 rfl) ?_
        refine gf (k0 := 0) hX hB (mw0x (a := a) (r := r) (f := f) (q := q) (T := tb a) (w := w) rfl) rfl in10 3 (by decide) wm_5_165 rfl rfl dX10_houseNow_29 ?_
        rw [← hQ]
        exact end_i hX hB hA3 rfl rfl ⟨(q 2), rfl, rfl⟩ (Nat.le_of_ble_eq_true rfl) (Nat.le_of_ble_eq_true rfl) dX10_houseNow_32
      · refine lv_aload_n hx hb dX10_houseNow_21 rfl (lv_at hl 0 rfl) ?_
        refine gf (k0 := 0) hX hB (mw0x (a := a) (r := r) (f := f) (q := q) (T := tb a) (w := w) rfl) rfl in10 2 (by decide) wm_5_164 rfl rfl dX10_houseNow_22 ?_
        refine lv_goto (tgt := 32) hx hb dX10_houseNow_25 (by decide) ?_
        rw [← hQ]
        exact end_i hX hB hA3 rfl rfl ⟨(q 1), rfl, rfl⟩ (Nat.le_of_ble_eq_true rfl) (Nat.le_of_ble_eq_true rfl) dX10_houseNow_32
    · refine lv_aload_n hx hb dX10_houseNow_9 rfl (lv_at hl 0 rfl) ?_
      refine gf (k0 := 0) hX hB (mw0x (a := a) (r := r) (f := f) (q := q) (T := tb a) (w := w) rfl) rfl in10 1 (by decide) wm_5_163 rfl rfl dX10_houseNow_10 ?_
      refine lv_goto (tgt := 32) hx hb dX10_houseNow_13 (by decide) ?_
      rw [← hQ]
      exact end_i hX hB hA3 rfl rfl ⟨(q 0), rfl, rfl⟩ (Nat.le_of_ble_eq_true rfl) (Nat.le_of_ble_eq_true rfl) dX10_houseNow_32
set_option maxHeartbeats 4000000 in
set_option maxRecDepth 100000 in
theorem k_X10_house (κ : Kt) (l : Launch) (w : va_W) (a r : Nat → Nat) (f : Nat → Nat → Int64) (q : Nat → Int32) (y : Int32) (hm : mok r f) : CM κ l yX10_house cX10_house 2 (some .int) 2 46 0 0 [.ref (a 0), .int y] (mw κ a r f q (tb a) w) (fun o w' => ∃ (x : Int32) (q' : Nat → Int32), o = some (.int x) ∧ (q' 2 = q 2) ∧ w' = mw κ a r f q' (tb a) w) := by
  refine CM_begin (plainFor_of_name (by decide)) (Nat.le_of_ble_eq_true rfl) ?_
  intro p e s m args below meth c A Q hX hnm hA3 hQ hB ls hl
  have hx := hX.1.1
  have hb := hX.1.2.1
  have hl : lv_has ls 2 [(0, .ref (a 0)), (1, .int y)] := hl
  refine lv_aload_n hx hb dX10_house_0 rfl (lv_at hl 0 rfl) ?_
  refine lv_iload_n hx hb dX10_house_1 rfl (lv_at hl 1 rfl) ?_
  refine lv_if_lt (tgt := 10) hx hb dX10_house_2 (by decide) (fun c1 => ?_) (fun c1 => ?_)
  · refine lv_iconst (v := 1) hx hb dX10_house_10 (by decide) ?_
    refine lv_goto (tgt := 15) hx hb dX10_house_11 (by decide) ?_
    refine call_V (n := 1) (k0 := 0) (As := [.int 1]) (rest := []) hX hB (k_X10_isThrown__ κ l (mw κ a r f q (tb a) w) 0 (a 0) (a 1) (q 0) (q 1) (q 2) (q 3) 1 (mw0x (a := a) (r := r) (f := f) (q := q) (T := tb a) (w := w) rfl)) ⟨rfl, by decide, by decide, by decide +kernel⟩ wm_6_11 wm_6_13 wp_33 wm_1_6 wm_6_14 ⟨Nat.le_of_ble_eq_true rfl, Nat.le_of_ble_eq_true rfl⟩ ⟨Nat.le_of_ble_eq_true rfl, Nat.le_of_ble_eq_true rfl⟩ (mw0x (a := a) (r := r) (f := f) (q := q) (T := tb a) (w := w) rfl) rfl rfl rfl hl.1 rfl (Nat.le_of_ble_eq_true rfl) dX10_house_15 (fun o w' H locs hp hB => ?_)
    obtain ⟨x2, t3, rfl, hf4, hw9⟩ := hp
    replace hB : Bd κ A s (mw κ a r f (va_up q 3 t3) (tb a) w) H locs := by exact Bd_eq (mwQ3x rfl _) (by rw [hw9] at hB; exact hB)
    obtain rfl : x2 = 1 := hf4.trans (by decide)
    refine W.eq (g2 := F0 m 18 ls [.int 1]) rfl ?_
    refine lv_if_eq (tgt := 25) hx hb dX10_house_18 (by decide) (fun c5 => False.elim (by revert c5; decide)) (fun _ => ?_)
    refine lv_iconst (v := 0) hx hb dX10_house_21 (by decide) ?_
    refine lv_goto (tgt := 30) hx hb dX10_house_22 (by decide) ?_
    rw [← hQ]
    exact end_i hX hB hA3 rfl rfl ⟨0, (va_up q 3 t3), rfl, rfl, rfl⟩ (Nat.le_of_ble_eq_true rfl) (Nat.le_of_ble_eq_true rfl) dX10_house_30
  · refine lv_iload_n hx hb dX10_house_5 rfl (lv_at hl 1 rfl) ?_
    refine lv_iconst (v := 3) hx hb dX10_house_6 (by decide) ?_
    refine lv_icmp_le (tgt := 14) hx hb dX10_house_7 (by decide) (fun c6 => ?_) (fun c6 => ?_)
    · refine lv_iconst (v := 0) hx hb dX10_house_14 (by decide) ?_
      refine call_V (n := 1) (k0 := 0) (As := [.int 0]) (rest := []) hX hB (k_X10_isThrown__ κ l (mw κ a r f q (tb a) w) 0 (a 0) (a 1) (q 0) (q 1) (q 2) (q 3) 0 (mw0x (a := a) (r := r) (f := f) (q := q) (T := tb a) (w := w) rfl)) ⟨rfl, by decide, by decide, by decide +kernel⟩ wm_6_11 wm_6_13 wp_33 wm_1_6 wm_6_14 ⟨Nat.le_of_ble_eq_true rfl, Nat.le_of_ble_eq_true rfl⟩ ⟨Nat.le_of_ble_eq_true rfl, Nat.le_of_ble_eq_true rfl⟩ (mw0x (a := a) (r := r) (f := f) (q := q) (T := tb a) (w := w) rfl) rfl rfl rfl hl.1 rfl (Nat.le_of_ble_eq_true rfl) dX10_house_15 (fun o w' H locs hp hB => ?_)
      obtain ⟨x7, t8, rfl, hf9, hw9⟩ := hp
      replace hB : Bd κ A s (mw κ a r f (va_up q 3 t8) (tb a) w) H locs := by exact Bd_eq (mwQ3x rfl _) (by rw [hw9] at hB; exact hB)
      obtain rfl : x7 = 0 := hf9.trans (by decide)
      refine W.eq (g2 := F0 m 18 ls [.int 0]) rfl ?_
      refine lv_if_eq (tgt := 25) hx hb dX10_house_18 (by decide) (fun _ => ?_) (fun c10 => False.elim (by revert c10; decide))
      refine lv_aload_n hx hb dX10_house_25 rfl (lv_at hl 0 rfl) ?_
      refine lv_iload_n hx hb dX10_house_26 rfl (lv_at hl 1 rfl) ?_
      refine call_V (n := 1) (k0 := 0) (As := [.int y]) (rest := []) hX hB (k_X10_houseNow κ l w a r f (va_up q 3 t8) y hm) ⟨rfl, by decide, by decide, by decide +kernel⟩ wm_7_158 wm_7_160 wp_49 wm_1_6 wm_7_161 ⟨Nat.le_of_ble_eq_true rfl, Nat.le_of_ble_eq_true rfl⟩ ⟨Nat.le_of_ble_eq_true rfl, Nat.le_of_ble_eq_true rfl⟩ (mw0x (a := a) (r := r) (f := f) (q := (va_up q 3 t8)) (T := tb a) (w := w) rfl) rfl rfl rfl hl.1 rfl (Nat.le_of_ble_eq_true rfl) dX10_house_27 (fun o w' H locs hp hB => ?_)
      obtain ⟨x11, rfl, hw9⟩ := hp
      replace hB : Bd κ A s (mw κ a r f (va_up q 3 t8) (tb a) w) H locs := by rw [hw9] at hB; exact hB
      refine W.eq (g2 := F0 m 30 ls [.int x11]) rfl ?_
      rw [← hQ]
      exact end_i hX hB hA3 rfl rfl ⟨x11, (va_up q 3 t8), rfl, rfl, rfl⟩ (Nat.le_of_ble_eq_true rfl) (Nat.le_of_ble_eq_true rfl) dX10_house_30
    · refine lv_iconst (v := 1) hx hb dX10_house_10 (by decide) ?_
      refine lv_goto (tgt := 15) hx hb dX10_house_11 (by decide) ?_
      refine call_V (n := 1) (k0 := 0) (As := [.int 1]) (rest := []) hX hB (k_X10_isThrown__ κ l (mw κ a r f q (tb a) w) 0 (a 0) (a 1) (q 0) (q 1) (q 2) (q 3) 1 (mw0x (a := a) (r := r) (f := f) (q := q) (T := tb a) (w := w) rfl)) ⟨rfl, by decide, by decide, by decide +kernel⟩ wm_6_11 wm_6_13 wp_33 wm_1_6 wm_6_14 ⟨Nat.le_of_ble_eq_true rfl, Nat.le_of_ble_eq_true rfl⟩ ⟨Nat.le_of_ble_eq_true rfl, Nat.le_of_ble_eq_true rfl⟩ (mw0x (a := a) (r := r) (f := f) (q := q) (T := tb a) (w := w) rfl) rfl rfl rfl hl.1 rfl (Nat.le_of_ble_eq_true rfl) dX10_house_15 (fun o w' H locs hp hB => ?_)
      obtain ⟨x12, t13, rfl, hf14, hw9⟩ := hp
      replace hB : Bd κ A s (mw κ a r f (va_up q 3 t13) (tb a) w) H locs := by exact Bd_eq (mwQ3x rfl _) (by rw [hw9] at hB; exact hB)
      obtain rfl : x12 = 1 := hf14.trans (by decide)
      refine W.eq (g2 := F0 m 18 ls [.int 1]) rfl ?_
      refine lv_if_eq (tgt := 25) hx hb dX10_house_18 (by decide) (fun c15 => False.elim (by revert c15; decide)) (fun _ => ?_)
      refine lv_iconst (v := 0) hx hb dX10_house_21 (by decide) ?_
      refine lv_goto (tgt := 30) hx hb dX10_house_22 (by decide) ?_
      rw [← hQ]
      exact end_i hX hB hA3 rfl rfl ⟨0, (va_up q 3 t13), rfl, rfl, rfl⟩ (Nat.le_of_ble_eq_true rfl) (Nat.le_of_ble_eq_true rfl) dX10_house_30
set_option maxHeartbeats 4000000 in
set_option maxRecDepth 100000 in
theorem k_X10_knock (κ : Kt) (l : Launch) (w : va_W) (a r : Nat → Nat) (f : Nat → Nat → Int64) (q : Nat → Int32) (hm : mok r f) : CM κ l yX10_knock cX10_knock 1 (some .int) 0 0 0 0 [.ref (a 0)] (mw κ a r f q (tb a) w) (fun o w' => o = some (.int (q 2 + 1)) ∧ w' = mw κ a r f (va_up (va_up q 3 0) 2 (q 2 + 1)) (tb a) w) := by
  refine CM_begin (plainFor_of_name (by decide)) (Nat.le_of_ble_eq_true rfl) ?_
  intro p e s m args below meth c A Q hX hnm hA3 hQ hB ls hl
  have hx := hX.1.1
  have hb := hX.1.2.1
  have hl : lv_has ls 1 [(0, .ref (a 0))] := hl
  refine lv_aload_n hx hb dX10_knock_0 rfl (lv_at hl 0 rfl) ?_
  refine lv_iconst (v := 0) hx hb dX10_knock_1 (by decide) ?_
  refine pf (ty := .int) (k0 := 0) hX hB (mw0x (a := a) (r := r) (f := f) (q := q) (T := tb a) (w := w) rfl) rfl in10 tyX10_ok nmX10 4 (by decide) wm_5_166 rfl rfl rfl rfl rfl (Nat.le_of_ble_eq_true rfl) (w1 := mw κ a r f (va_up q 3 0) (tb a) w) (mwQ3x rfl _) dX10_knock_2 (fun H locs hB => ?_)
  refine lv_aload_n hx hb dX10_knock_5 rfl (lv_at hl 0 rfl) ?_
  refine lv_dup hx hb dX10_knock_6 rfl ?_
  refine gf (k0 := 0) hX hB (mw0x (a := a) (r := r) (f := f) (q := (va_up q 3 0)) (T := tb a) (w := w) rfl) rfl in10 3 (by decide) wm_5_165 rfl rfl dX10_knock_7 ?_
  refine lv_iconst (v := 1) hx hb dX10_knock_10 (by decide) ?_
  refine lv_iadd hx hb dX10_knock_11 ?_
  refine pf (ty := .int) (k0 := 0) hX hB (mw0x (a := a) (r := r) (f := f) (q := (va_up q 3 0)) (T := tb a) (w := w) rfl) rfl in10 tyX10_ok nmX10 3 (by decide) wm_5_165 rfl rfl rfl rfl rfl (Nat.le_of_ble_eq_true rfl) (w1 := mw κ a r f (va_up (va_up q 3 0) 2 (((va_up q 3 0) 2) + 1)) (tb a) w) (mwQ2x rfl _) dX10_knock_12 (fun H locs hB => ?_)
  refine lv_aload_n hx hb dX10_knock_15 rfl (lv_at hl 0 rfl) ?_
  refine gf (k0 := 0) hX hB (mw0x (a := a) (r := r) (f := f) (q := (va_up (va_up q 3 0) 2 (((va_up q 3 0) 2) + 1))) (T := tb a) (w := w) rfl) rfl in10 3 (by decide) wm_5_165 rfl rfl dX10_knock_16 ?_
  rw [← hQ]
  exact end_i hX hB hA3 rfl rfl ⟨rfl, rfl⟩ (Nat.le_of_ble_eq_true rfl) (Nat.le_of_ble_eq_true rfl) dX10_knock_19
set_option maxHeartbeats 4000000 in
set_option maxRecDepth 100000 in
theorem k_X10_isSoundNow (κ : Kt) (l : Launch) (w : va_W) (a r : Nat → Nat) (f : Nat → Nat → Int64) (q : Nat → Int32) (hm : mok r f) : CM κ l yX10_isSoundNow cX10_isSoundNow 7 (some .boolean) 132 3037 11 122 [.ref (a 0)] (mw κ a r f q (tb a) w) (fun o w' => ∃ (x : Int32), o = some (.int x) ∧ (x = 0 ∨ x = 1) ∧ w' = mw κ a r f q (tb a) w) := by
  refine CM_begin (plainFor_of_name (by decide)) (Nat.le_of_ble_eq_true rfl) ?_
  intro p e s m args below meth c A Q hX hnm hA3 hQ hB ls hl
  have hx := hX.1.1
  have hb := hX.1.2.1
  have hl : lv_has ls 7 [(0, .ref (a 0))] := hl
  refine lv_aload_n hx hb dX10_isSoundNow_0 rfl (lv_at hl 0 rfl) ?_
  refine gf (k0 := 0) hX hB (mw0x (a := a) (r := r) (f := f) (q := q) (T := tb a) (w := w) rfl) rfl in10 0 (by decide) wm_5_162 rfl rfl dX10_isSoundNow_1 ?_
  refine lv_iconst (v := 0) hx hb dX10_isSoundNow_4 (by decide) ?_
  refine aaldM (k0 := 1) hX hB (mw1 (a := a) (r := r) (f := f) (q := q) (T := tb a) (w := w)) (vp_in_nI (n := 0) (by omega) (by omega)) rfl dX10_isSoundNow_5 ?_
  have hb1 := mok_r hm 0 (by omega)
  refine lv_astore_n (lv' := [(1, .ref (a (2 + 2 * 0))), (0, .ref (a 0))]) hx hb dX10_isSoundNow_6 rfl hl (by decide) rfl (fun ls hl => ?_)
  refine lv_aload_n hx hb dX10_isSoundNow_7 rfl (lv_at hl 0 rfl) ?_
  refine gf (k0 := 2 + 2 * 0) hX hB (mwG (i := 0) (a := a) (r := r) (f := f) (q := q) (T := tb a) (w := w) (by omega)) rfl in7 0 (by decide) wm_5_148 rfl rfl dX10_isSoundNow_8 ?_
  refine lv_iconst (v := 3) hx hb dX10_isSoundNow_11 (by decide) ?_
  refine lv_icmp_gt (tgt := 23) hx hb dX10_isSoundNow_12 (by decide) (fun c2 => ?_) (fun c2 => ?_)
  · replace c2 : nI 3 < nI (r (2 * 0)) := c2
    rw [nltP (by omega) (by omega)] at c2
    refine lv_iconst (v := 1) hx hb dX10_isSoundNow_23 (by decide) ?_
    rw [← hQ]
    exact end_i hX hB hA3 rfl rfl ⟨1, rfl, (Or.inr rfl), rfl⟩ (Nat.le_of_ble_eq_true rfl) (Nat.le_of_ble_eq_true rfl) dX10_isSoundNow_24
  · replace c2 : ¬ nI 3 < nI (r (2 * 0)) := c2
    rw [nltP (by omega) (by omega)] at c2
    refine lv_aload_n hx hb dX10_isSoundNow_15 rfl (lv_at hl 0 rfl) ?_
    refine gf (k0 := 2 + 2 * 0) hX hB (mwG (i := 0) (a := a) (r := r) (f := f) (q := q) (T := tb a) (w := w) (by omega)) rfl in7 1 (by decide) wm_5_152 rfl rfl dX10_isSoundNow_16 ?_
    refine lv_iconst (v := 3) hx hb dX10_isSoundNow_19 (by decide) ?_
    refine lv_icmp_le (tgt := 25) hx hb dX10_isSoundNow_20 (by decide) (fun c3 => ?_) (fun c3 => ?_)
    · replace c3 : nI (r (2 * 0 + 1)) ≤ nI 3 := c3
      rw [nleP (by omega) (by omega)] at c3
      refine newO (fs := [.null, .null, .null, .int 0, .int 0, .int 0, .int 0]) hX hB (ci := 10) rfl in9 tyX9_ok wm_6_172 wm_6_173 wm_1_16 df10 (Nat.le_of_ble_eq_true rfl) (Nat.le_of_ble_eq_true rfl) dX10_isSoundNow_25 (fun q4 H hB => ?_)
      refine lv_dup hx hb dX10_isSoundNow_28 rfl ?_
      refine lv_aload_n hx hb dX10_isSoundNow_29 rfl (lv_at hl 0 rfl) ?_
      refine call_I (n := 1) (As := [.ref (a (2 + 2 * 0))]) (rest := [.ref q4]) hX hB (k_X9_init κ l (mw κ a r f q (tb a) w) q4 (2 + 2 * 0) (3 + 2 * 0) (a (2 + 2 * 0)) (a (3 + 2 * 0)) (r (2 * 0)) (r (2 * 0 + 1)) (f 0) (mwG (i := 0) (a := a) (r := r) (f := f) (q := q) (T := tb a) (w := w) (by omega)) (mwA (i := 0) (a := a) (r := r) (f := f) (q := q) (T := tb a) (w := w) (by omega)) (mok_shp (i := 0) hm (by omega)) (by omega) (fun k hk => sm_ng ((hm _ (by omega)).2 k hk))) ⟨by decide, by decide, by decide +kernel⟩ rfl wm_6_174 wm_6_175 wm_1_16 wm_6_176 ⟨Nat.le_of_ble_eq_true rfl, Nat.le_of_ble_eq_true rfl⟩ ⟨Nat.le_of_ble_eq_true rfl, Nat.le_of_ble_eq_true rfl⟩ rfl hl.1 rfl (Nat.le_of_ble_eq_true rfl) dX10_isSoundNow_30 (fun o w' H locs hp hB => ?_)
      obtain ⟨g5, b6, g7, b8, g9, b10, F11, F12, F13, S14, S15, K16, G17, rfl, hf18, hw9⟩ := hp
      replace hB : Bd κ A s (lA κ b6 ((r (2 * 0 + 1)) * 5) F11 :: gO g5 (r (2 * 0 + 1)) (r (2 * 0 + 1)) b6 :: lA κ b8 ((r (2 * 0)) * 5) F12 :: gO g7 (r (2 * 0)) (r (2 * 0)) b8 :: lA κ b10 ((r (2 * 0)) * 5) F13 :: gO g9 (r (2 * 0)) (r (2 * 0 + 1)) b10 :: (q4, .inr (10, [.ref g9, .ref g7, .ref g5, .int S14, .int S15, .int (nI K16), .int G17])) :: mw κ a r f q (tb a) w) H locs := by rw [hw9] at hB; exact hB
      refine W.eq (g2 := F0 m 33 ls [.ref q4]) rfl ?_
      refine lv_astore_n (lv' := [(2, .ref q4), (1, .ref (a (2 + 2 * 0))), (0, .ref (a 0))]) hx hb dX10_isSoundNow_33 rfl hl (by decide) rfl (fun ls hl => ?_)
      refine lv_iconst (v := 1) hx hb dX10_isSoundNow_34 (by decide) ?_
      refine lv_istore_n (lv' := [(3, .int 1), (2, .ref q4), (1, .ref (a (2 + 2 * 0))), (0, .ref (a 0))]) hx hb dX10_isSoundNow_35 rfl hl (by decide) rfl (fun ls hl => ?_)
      have hK := hf18
      refine lv_lconst (v := 1) hx hb dX10_isSoundNow_36 (by decide) ?_
      refine lv_lstore (lv' := [(4, .long 1), (3, .int 1), (2, .ref q4), (1, .ref (a (2 + 2 * 0))), (0, .ref (a 0))]) hx hb dX10_isSoundNow_37 hl (by decide) rfl (fun ls hl => ?_)
      refine lv_iconst (v := 0) hx hb dX10_isSoundNow_39 (by decide) ?_
      refine lv_istore (lv' := [(6, .int 0), (4, .long 1), (3, .int 1), (2, .ref q4), (1, .ref (a (2 + 2 * 0))), (0, .ref (a 0))]) hx hb dX10_isSoundNow_40 hl (by decide) rfl (fun ls hl => ?_)
      have lp42 : ∀ (nn : Nat) (y6_42 : Nat) (y4_42 : Int64) (y3_42 : Int32) (H : Heap) (locs : List Loc), (y6_42 ≤ (r (2 * 0))) → (r (2 * 0)) + 1 - y6_42 < nn → Bd κ A s (lA κ b6 ((r (2 * 0 + 1)) * 5) F11 :: gO g5 (r (2 * 0 + 1)) (r (2 * 0 + 1)) b6 :: lA κ b8 ((r (2 * 0)) * 5) F12 :: gO g7 (r (2 * 0)) (r (2 * 0)) b8 :: lA κ b10 ((r (2 * 0)) * 5) F13 :: gO g9 (r (2 * 0)) (r (2 * 0 + 1)) b10 :: (q4, .inr (10, [.ref g9, .ref g7, .ref g5, .int S14, .int S15, .int (nI K16), .int G17])) :: mw κ a r f q (tb a) w) H locs → ∀ ls : Array Slot, lv_has ls 7 [(6, .int (nI y6_42)), (4, .long y4_42), (3, .int y3_42), (2, .ref q4), (1, .ref (a (2 + 2 * 0))), (0, .ref (a 0))] → W p l e (Rm 132 3037 11 122) s m args below meth c H locs 7 76 Q (F0 m 42 ls []) := by
        intro nn
        induction nn with
        | zero => intro y6_42 y4_42 y3_42 H locs hn6_42 hμ; exact absurd hμ (Nat.not_lt_zero _)
        | succ nn ih42 =>
          intro y6_42 y4_42 y3_42 H locs hn6_42 hμ42 hB ls hl
          refine lv_aload_n hx hb dX10_isSoundNow_42 rfl (lv_at hl 3 rfl) ?_
          refine gf (k0 := 6) hX hB rfl rfl in9 6 (by decide) wm_6_230 rfl rfl dX10_isSoundNow_43 ?_
          refine lv_if_ne (tgt := 111) hx hb dX10_isSoundNow_46 (by decide) (fun c139 => ?_) (fun c139 => ?_)
          · refine lv_iload_n hx hb dX10_isSoundNow_111 rfl (lv_at hl 2 rfl) ?_
            refine lv_aload_n hx hb dX10_isSoundNow_112 rfl (lv_at hl 3 rfl) ?_
            refine gf (k0 := 6) hX hB rfl rfl in9 6 (by decide) wm_6_230 rfl rfl dX10_isSoundNow_113 ?_
            refine lv_if_ne (tgt := 155) hx hb dX10_isSoundNow_116 (by decide) (fun _ => ?_) (fun c140 => False.elim (c139 c140))
            refine lv_iconst (v := 1) hx hb dX10_isSoundNow_155 (by decide) ?_
            refine lv_goto (tgt := 160) hx hb dX10_isSoundNow_156 (by decide) ?_
            refine lv_iand hx hb dX10_isSoundNow_160 ?_
            refine lv_istore_n (lv' := [(3, .int (y3_42 &&& 1)), (6, .int (nI y6_42)), (4, .long y4_42), (2, .ref q4), (1, .ref (a (2 + 2 * 0))), (0, .ref (a 0))]) hx hb dX10_isSoundNow_161 rfl hl (by decide) rfl (fun ls hl => ?_)
            refine lv_iload_n hx hb dX10_isSoundNow_162 rfl (lv_at hl 0 rfl) ?_
            refine lv_if_eq (tgt := 195) hx hb dX10_isSoundNow_163 (by decide) (fun c141 => ?_) (fun c141 => ?_)
            · refine lv_iconst (v := 0) hx hb dX10_isSoundNow_195 (by decide) ?_
              replace hB : Bd κ A s (lA κ b6 ((r (2 * 0 + 1)) * 5) F11 :: gO g5 (r (2 * 0 + 1)) (r (2 * 0 + 1)) b6 :: lA κ b8 ((r (2 * 0)) * 5) F12 :: gO g7 (r (2 * 0)) (r (2 * 0)) b8 :: lA κ b10 ((r (2 * 0)) * 5) F13 :: gO g9 (r (2 * 0)) (r (2 * 0 + 1)) b10 :: mw κ a r f q (tb a) w) H locs := Bd_del 6 hB
              replace hB : Bd κ A s (lA κ b6 ((r (2 * 0 + 1)) * 5) F11 :: gO g5 (r (2 * 0 + 1)) (r (2 * 0 + 1)) b6 :: lA κ b8 ((r (2 * 0)) * 5) F12 :: gO g7 (r (2 * 0)) (r (2 * 0)) b8 :: lA κ b10 ((r (2 * 0)) * 5) F13 :: mw κ a r f q (tb a) w) H locs := Bd_del 5 hB
              replace hB : Bd κ A s (lA κ b6 ((r (2 * 0 + 1)) * 5) F11 :: gO g5 (r (2 * 0 + 1)) (r (2 * 0 + 1)) b6 :: lA κ b8 ((r (2 * 0)) * 5) F12 :: gO g7 (r (2 * 0)) (r (2 * 0)) b8 :: mw κ a r f q (tb a) w) H locs := Bd_del 4 hB
              replace hB : Bd κ A s (lA κ b6 ((r (2 * 0 + 1)) * 5) F11 :: gO g5 (r (2 * 0 + 1)) (r (2 * 0 + 1)) b6 :: lA κ b8 ((r (2 * 0)) * 5) F12 :: mw κ a r f q (tb a) w) H locs := Bd_del 3 hB
              replace hB : Bd κ A s (lA κ b6 ((r (2 * 0 + 1)) * 5) F11 :: gO g5 (r (2 * 0 + 1)) (r (2 * 0 + 1)) b6 :: mw κ a r f q (tb a) w) H locs := Bd_del 2 hB
              replace hB : Bd κ A s (lA κ b6 ((r (2 * 0 + 1)) * 5) F11 :: mw κ a r f q (tb a) w) H locs := Bd_del 1 hB
              replace hB : Bd κ A s (mw κ a r f q (tb a) w) H locs := Bd_del 0 hB
              rw [← hQ]
              exact end_i hX hB hA3 rfl rfl ⟨0, rfl, (Or.inl rfl), rfl⟩ (Nat.le_of_ble_eq_true rfl) (Nat.le_of_ble_eq_true rfl) dX10_isSoundNow_196
            · refine lv_aload_n hx hb dX10_isSoundNow_166 rfl (lv_at hl 4 rfl) ?_
              refine gf (k0 := 2 + 2 * 0 + 7) hX hB (mwG (i := 0) (a := a) (r := r) (f := f) (q := q) (T := tb a) (w := w) (by omega)) rfl in7 0 (by decide) wm_5_148 rfl rfl dX10_isSoundNow_167 ?_
              refine lv_aload_n hx hb dX10_isSoundNow_170 rfl (lv_at hl 4 rfl) ?_
              refine gf (k0 := 2 + 2 * 0 + 7) hX hB (mwG (i := 0) (a := a) (r := r) (f := f) (q := q) (T := tb a) (w := w) (by omega)) rfl in7 1 (by decide) wm_5_152 rfl rfl dX10_isSoundNow_171 ?_
              refine lv_icmp_ne (tgt := 191) hx hb dX10_isSoundNow_174 (by decide) (fun c142 => ?_) (fun c142 => ?_)
              · rw [neqP (a := r (2 * 0)) (b := r (2 * 0 + 1)) (by omega) (by omega)] at c142
                refine lv_iconst (v := 1) hx hb dX10_isSoundNow_191 (by decide) ?_
                refine lv_goto (tgt := 196) hx hb dX10_isSoundNow_192 (by decide) ?_
                replace hB : Bd κ A s (lA κ b6 ((r (2 * 0 + 1)) * 5) F11 :: gO g5 (r (2 * 0 + 1)) (r (2 * 0 + 1)) b6 :: lA κ b8 ((r (2 * 0)) * 5) F12 :: gO g7 (r (2 * 0)) (r (2 * 0)) b8 :: lA κ b10 ((r (2 * 0)) * 5) F13 :: gO g9 (r (2 * 0)) (r (2 * 0 + 1)) b10 :: mw κ a r f q (tb a) w) H locs := Bd_del 6 hB
                replace hB : Bd κ A s (lA κ b6 ((r (2 * 0 + 1)) * 5) F11 :: gO g5 (r (2 * 0 + 1)) (r (2 * 0 + 1)) b6 :: lA κ b8 ((r (2 * 0)) * 5) F12 :: gO g7 (r (2 * 0)) (r (2 * 0)) b8 :: lA κ b10 ((r (2 * 0)) * 5) F13 :: mw κ a r f q (tb a) w) H locs := Bd_del 5 hB
                replace hB : Bd κ A s (lA κ b6 ((r (2 * 0 + 1)) * 5) F11 :: gO g5 (r (2 * 0 + 1)) (r (2 * 0 + 1)) b6 :: lA κ b8 ((r (2 * 0)) * 5) F12 :: gO g7 (r (2 * 0)) (r (2 * 0)) b8 :: mw κ a r f q (tb a) w) H locs := Bd_del 4 hB
                replace hB : Bd κ A s (lA κ b6 ((r (2 * 0 + 1)) * 5) F11 :: gO g5 (r (2 * 0 + 1)) (r (2 * 0 + 1)) b6 :: lA κ b8 ((r (2 * 0)) * 5) F12 :: mw κ a r f q (tb a) w) H locs := Bd_del 3 hB
                replace hB : Bd κ A s (lA κ b6 ((r (2 * 0 + 1)) * 5) F11 :: gO g5 (r (2 * 0 + 1)) (r (2 * 0 + 1)) b6 :: mw κ a r f q (tb a) w) H locs := Bd_del 2 hB
                replace hB : Bd κ A s (lA κ b6 ((r (2 * 0 + 1)) * 5) F11 :: mw κ a r f q (tb a) w) H locs := Bd_del 1 hB
                replace hB : Bd κ A s (mw κ a r f q (tb a) w) H locs := Bd_del 0 hB
                rw [← hQ]
                exact end_i hX hB hA3 rfl rfl ⟨1, rfl, (Or.inr rfl), rfl⟩ (Nat.le_of_ble_eq_true rfl) (Nat.le_of_ble_eq_true rfl) dX10_isSoundNow_196
              · rw [neqP (a := r (2 * 0)) (b := r (2 * 0 + 1)) (by omega) (by omega)] at c142
                refine lv_aload_n hx hb dX10_isSoundNow_177 rfl (lv_at hl 4 rfl) ?_
                refine call_S (n := 1) (As := [.ref (a (2 + 2 * 0))]) (rest := []) hX hB (k_X10_determinantOf κ l (lA κ b6 ((r (2 * 0 + 1)) * 5) F11 :: gO g5 (r (2 * 0 + 1)) (r (2 * 0 + 1)) b6 :: lA κ b8 ((r (2 * 0)) * 5) F12 :: gO g7 (r (2 * 0)) (r (2 * 0)) b8 :: lA κ b10 ((r (2 * 0)) * 5) F13 :: gO g9 (r (2 * 0)) (r (2 * 0 + 1)) b10 :: (q4, .inr (10, [.ref g9, .ref g7, .ref g5, .int S14, .int S15, .int (nI K16), .int G17])) :: mw κ a r f q (tb a) w) (2 + 2 * 0 + 7) (3 + 2 * 0 + 7) (a (2 + 2 * 0)) (a (3 + 2 * 0)) (r (2 * 0)) (r (2 * 0 + 1)) (f 0) (mwG (i := 0) (a := a) (r := r) (f := f) (q := q) (T := tb a) (w := w) (by omega)) (mwA (i := 0) (a := a) (r := r) (f := f) (q := q) (T := tb a) (w := w) (by omega)) (mok_shp (i := 0) hm (by omega)) (by omega)) ⟨by decide, by decide, by decide +kernel⟩ wm_7_72 wm_7_73 wm_1_6 wm_7_74 ⟨Nat.le_of_ble_eq_true rfl, Nat.le_of_ble_eq_true rfl⟩ ⟨Nat.le_of_ble_eq_true rfl, Nat.le_of_ble_eq_true rfl⟩ rfl hl.1 rfl (Nat.le_of_ble_eq_true rfl) dX10_isSoundNow_178 (fun o w' H locs hp hB => ?_)
                obtain ⟨rfl, hw9⟩ := hp
                replace hB : Bd κ A s (lA κ b6 ((r (2 * 0 + 1)) * 5) F11 :: gO g5 (r (2 * 0 + 1)) (r (2 * 0 + 1)) b6 :: lA κ b8 ((r (2 * 0)) * 5) F12 :: gO g7 (r (2 * 0)) (r (2 * 0)) b8 :: lA κ b10 ((r (2 * 0)) * 5) F13 :: gO g9 (r (2 * 0)) (r (2 * 0 + 1)) b10 :: (q4, .inr (10, [.ref g9, .ref g7, .ref g5, .int S14, .int S15, .int (nI K16), .int G17])) :: mw κ a r f q (tb a) w) H locs := by rw [hw9] at hB; exact hB
                refine W.eq (g2 := F0 m 181 ls [.long (mnv (f 0) (r (2 * 0 + 1)) (r (2 * 0)) (2 ^ (r (2 * 0)) - 1) (2 ^ (r (2 * 0 + 1)) - 1))]) rfl ?_
                refine lv_aload_n hx hb dX10_isSoundNow_181 rfl (lv_at hl 4 rfl) ?_
                refine lv_iconst (v := 0) hx hb dX10_isSoundNow_182 (by decide) ?_
                refine lv_iconst (v := 0) hx hb dX10_isSoundNow_183 (by decide) ?_
                refine call_S (n := 3) (As := [.ref (a (2 + 2 * 0)), .int 0, .int 0]) (rest := [.long (mnv (f 0) (r (2 * 0 + 1)) (r (2 * 0)) (2 ^ (r (2 * 0)) - 1) (2 ^ (r (2 * 0 + 1)) - 1))]) hX hB (k_X10_bySequences κ l (lA κ b6 ((r (2 * 0 + 1)) * 5) F11 :: gO g5 (r (2 * 0 + 1)) (r (2 * 0 + 1)) b6 :: lA κ b8 ((r (2 * 0)) * 5) F12 :: gO g7 (r (2 * 0)) (r (2 * 0)) b8 :: lA κ b10 ((r (2 * 0)) * 5) F13 :: gO g9 (r (2 * 0)) (r (2 * 0 + 1)) b10 :: (q4, .inr (10, [.ref g9, .ref g7, .ref g5, .int S14, .int S15, .int (nI K16), .int G17])) :: mw κ a r f q (tb a) w) (2 + 2 * 0 + 7) (3 + 2 * 0 + 7) (a (2 + 2 * 0)) (a (3 + 2 * 0)) (r (2 * 0)) (r (2 * 0 + 1)) (f 0) 0 0 0 (mwG (i := 0) (a := a) (r := r) (f := f) (q := q) (T := tb a) (w := w) (by omega)) (mwA (i := 0) (a := a) (r := r) (f := f) (q := q) (T := tb a) (w := w) (by omega)) (mok_shp (i := 0) hm (by omega)) rfl (by omega)) ⟨by decide, by decide, by decide +kernel⟩ wm_7_84 wm_7_85 wm_1_6 wm_7_86 ⟨Nat.le_of_ble_eq_true rfl, Nat.le_of_ble_eq_true rfl⟩ ⟨Nat.le_of_ble_eq_true rfl, Nat.le_of_ble_eq_true rfl⟩ rfl hl.1 rfl (Nat.le_of_ble_eq_true rfl) dX10_isSoundNow_184 (fun o w' H locs hp hB => ?_)
                obtain ⟨z143, rfl, hw9⟩ := hp
                replace hB : Bd κ A s (lA κ b6 ((r (2 * 0 + 1)) * 5) F11 :: gO g5 (r (2 * 0 + 1)) (r (2 * 0 + 1)) b6 :: lA κ b8 ((r (2 * 0)) * 5) F12 :: gO g7 (r (2 * 0)) (r (2 * 0)) b8 :: lA κ b10 ((r (2 * 0)) * 5) F13 :: gO g9 (r (2 * 0)) (r (2 * 0 + 1)) b10 :: (q4, .inr (10, [.ref g9, .ref g7, .ref g5, .int S14, .int S15, .int (nI K16), .int G17])) :: mw κ a r f q (tb a) w) H locs := by rw [hw9] at hB; exact hB
                refine W.eq (g2 := F0 m 187 ls [.long z143, .long (mnv (f 0) (r (2 * 0 + 1)) (r (2 * 0)) (2 ^ (r (2 * 0)) - 1) (2 ^ (r (2 * 0 + 1)) - 1))]) rfl ?_
                refine W.lcmp hx hb dX10_isSoundNow_187 ?_
                refine lv_if_ne (tgt := 195) hx hb dX10_isSoundNow_188 (by decide) (fun c144 => ?_) (fun c144 => ?_)
                · refine lv_iconst (v := 0) hx hb dX10_isSoundNow_195 (by decide) ?_
                  replace hB : Bd κ A s (lA κ b6 ((r (2 * 0 + 1)) * 5) F11 :: gO g5 (r (2 * 0 + 1)) (r (2 * 0 + 1)) b6 :: lA κ b8 ((r (2 * 0)) * 5) F12 :: gO g7 (r (2 * 0)) (r (2 * 0)) b8 :: lA κ b10 ((r (2 * 0)) * 5) F13 :: gO g9 (r (2 * 0)) (r (2 * 0 + 1)) b10 :: mw κ a r f q (tb a) w) H locs := Bd_del 6 hB
                  replace hB : Bd κ A s (lA κ b6 ((r (2 * 0 + 1)) * 5) F11 :: gO g5 (r (2 * 0 + 1)) (r (2 * 0 + 1)) b6 :: lA κ b8 ((r (2 * 0)) * 5) F12 :: gO g7 (r (2 * 0)) (r (2 * 0)) b8 :: lA κ b10 ((r (2 * 0)) * 5) F13 :: mw κ a r f q (tb a) w) H locs := Bd_del 5 hB
                  replace hB : Bd κ A s (lA κ b6 ((r (2 * 0 + 1)) * 5) F11 :: gO g5 (r (2 * 0 + 1)) (r (2 * 0 + 1)) b6 :: lA κ b8 ((r (2 * 0)) * 5) F12 :: gO g7 (r (2 * 0)) (r (2 * 0)) b8 :: mw κ a r f q (tb a) w) H locs := Bd_del 4 hB
                  replace hB : Bd κ A s (lA κ b6 ((r (2 * 0 + 1)) * 5) F11 :: gO g5 (r (2 * 0 + 1)) (r (2 * 0 + 1)) b6 :: lA κ b8 ((r (2 * 0)) * 5) F12 :: mw κ a r f q (tb a) w) H locs := Bd_del 3 hB
                  replace hB : Bd κ A s (lA κ b6 ((r (2 * 0 + 1)) * 5) F11 :: gO g5 (r (2 * 0 + 1)) (r (2 * 0 + 1)) b6 :: mw κ a r f q (tb a) w) H locs := Bd_del 2 hB
                  replace hB : Bd κ A s (lA κ b6 ((r (2 * 0 + 1)) * 5) F11 :: mw κ a r f q (tb a) w) H locs := Bd_del 1 hB
                  replace hB : Bd κ A s (mw κ a r f q (tb a) w) H locs := Bd_del 0 hB
                  rw [← hQ]
                  exact end_i hX hB hA3 rfl rfl ⟨0, rfl, (Or.inl rfl), rfl⟩ (Nat.le_of_ble_eq_true rfl) (Nat.le_of_ble_eq_true rfl) dX10_isSoundNow_196
                · refine lv_iconst (v := 1) hx hb dX10_isSoundNow_191 (by decide) ?_
                  refine lv_goto (tgt := 196) hx hb dX10_isSoundNow_192 (by decide) ?_
                  replace hB : Bd κ A s (lA κ b6 ((r (2 * 0 + 1)) * 5) F11 :: gO g5 (r (2 * 0 + 1)) (r (2 * 0 + 1)) b6 :: lA κ b8 ((r (2 * 0)) * 5) F12 :: gO g7 (r (2 * 0)) (r (2 * 0)) b8 :: lA κ b10 ((r (2 * 0)) * 5) F13 :: gO g9 (r (2 * 0)) (r (2 * 0 + 1)) b10 :: mw κ a r f q (tb a) w) H locs := Bd_del 6 hB
                  replace hB : Bd κ A s (lA κ b6 ((r (2 * 0 + 1)) * 5) F11 :: gO g5 (r (2 * 0 + 1)) (r (2 * 0 + 1)) b6 :: lA κ b8 ((r (2 * 0)) * 5) F12 :: gO g7 (r (2 * 0)) (r (2 * 0)) b8 :: lA κ b10 ((r (2 * 0)) * 5) F13 :: mw κ a r f q (tb a) w) H locs := Bd_del 5 hB
                  replace hB : Bd κ A s (lA κ b6 ((r (2 * 0 + 1)) * 5) F11 :: gO g5 (r (2 * 0 + 1)) (r (2 * 0 + 1)) b6 :: lA κ b8 ((r (2 * 0)) * 5) F12 :: gO g7 (r (2 * 0)) (r (2 * 0)) b8 :: mw κ a r f q (tb a) w) H locs := Bd_del 4 hB
                  replace hB : Bd κ A s (lA κ b6 ((r (2 * 0 + 1)) * 5) F11 :: gO g5 (r (2 * 0 + 1)) (r (2 * 0 + 1)) b6 :: lA κ b8 ((r (2 * 0)) * 5) F12 :: mw κ a r f q (tb a) w) H locs := Bd_del 3 hB
                  replace hB : Bd κ A s (lA κ b6 ((r (2 * 0 + 1)) * 5) F11 :: gO g5 (r (2 * 0 + 1)) (r (2 * 0 + 1)) b6 :: mw κ a r f q (tb a) w) H locs := Bd_del 2 hB
                  replace hB : Bd κ A s (lA κ b6 ((r (2 * 0 + 1)) * 5) F11 :: mw κ a r f q (tb a) w) H locs := Bd_del 1 hB
                  replace hB : Bd κ A s (mw κ a r f q (tb a) w) H locs := Bd_del 0 hB
                  rw [← hQ]
                  exact end_i hX hB hA3 rfl rfl ⟨1, rfl, (Or.inr rfl), rfl⟩ (Nat.le_of_ble_eq_true rfl) (Nat.le_of_ble_eq_true rfl) dX10_isSoundNow_196
          · refine lv_iload hx hb dX10_isSoundNow_49 (lv_at hl 0 rfl) ?_
            refine lv_aload_n hx hb dX10_isSoundNow_51 rfl (lv_at hl 4 rfl) ?_
            refine gf (k0 := 2 + 2 * 0 + 7) hX hB (mwG (i := 0) (a := a) (r := r) (f := f) (q := q) (T := tb a) (w := w) (by omega)) rfl in7 0 (by decide) wm_5_148 rfl rfl dX10_isSoundNow_52 ?_
            refine lv_icmp_ge (tgt := 111) hx hb dX10_isSoundNow_55 (by decide) (fun c145 => ?_) (fun c145 => ?_)
            · rw [nleP (a := r (2 * 0)) (b := y6_42) (by omega) (by omega)] at c145
              refine lv_iload_n hx hb dX10_isSoundNow_111 rfl (lv_at hl 2 rfl) ?_
              refine lv_aload_n hx hb dX10_isSoundNow_112 rfl (lv_at hl 3 rfl) ?_
              refine gf (k0 := 6) hX hB rfl rfl in9 6 (by decide) wm_6_230 rfl rfl dX10_isSoundNow_113 ?_
              refine lv_if_ne (tgt := 155) hx hb dX10_isSoundNow_116 (by decide) (fun c146 => False.elim (c146 c139)) (fun _ => ?_)
              refine lv_aload_n hx hb dX10_isSoundNow_119 rfl (lv_at hl 3 rfl) ?_
              refine gf (k0 := 6) hX hB rfl rfl in9 5 (by decide) wm_6_228 rfl rfl dX10_isSoundNow_120 ?_
              refine lv_aload_n hx hb dX10_isSoundNow_123 rfl (lv_at hl 4 rfl) ?_
              refine call_V (n := 0) (k0 := (2 + 2 * 0 + 7)) (As := []) (rest := [.int (nI K16), .int y3_42]) hX hB (k_X7_rank κ l (lA κ b6 ((r (2 * 0 + 1)) * 5) F11 :: gO g5 (r (2 * 0 + 1)) (r (2 * 0 + 1)) b6 :: lA κ b8 ((r (2 * 0)) * 5) F12 :: gO g7 (r (2 * 0)) (r (2 * 0)) b8 :: lA κ b10 ((r (2 * 0)) * 5) F13 :: gO g9 (r (2 * 0)) (r (2 * 0 + 1)) b10 :: (q4, .inr (10, [.ref g9, .ref g7, .ref g5, .int S14, .int S15, .int (nI K16), .int G17])) :: mw κ a r f q (tb a) w) (2 + 2 * 0 + 7) (3 + 2 * 0 + 7) (a (2 + 2 * 0)) (a (3 + 2 * 0)) (r (2 * 0)) (r (2 * 0 + 1)) (f 0) (mwG (i := 0) (a := a) (r := r) (f := f) (q := q) (T := tb a) (w := w) (by omega)) (mwA (i := 0) (a := a) (r := r) (f := f) (q := q) (T := tb a) (w := w) (by omega)) (mok_shp (i := 0) hm (by omega))) ⟨rfl, by decide, by decide, by decide +kernel⟩ wm_7_111 wm_7_112 wm_7_113 wm_1_7 wm_7_114 ⟨Nat.le_of_ble_eq_true rfl, Nat.le_of_ble_eq_true rfl⟩ ⟨Nat.le_of_ble_eq_true rfl, Nat.le_of_ble_eq_true rfl⟩ (mwG (i := 0) (a := a) (r := r) (f := f) (q := q) (T := tb a) (w := w) (by omega)) rfl rfl rfl hl.1 rfl (Nat.le_of_ble_eq_true rfl) dX10_isSoundNow_124 (fun o w' H locs hp hB => ?_)
              obtain ⟨x147, rfl, hw9⟩ := hp
              replace hB : Bd κ A s (lA κ b6 ((r (2 * 0 + 1)) * 5) F11 :: gO g5 (r (2 * 0 + 1)) (r (2 * 0 + 1)) b6 :: lA κ b8 ((r (2 * 0)) * 5) F12 :: gO g7 (r (2 * 0)) (r (2 * 0)) b8 :: lA κ b10 ((r (2 * 0)) * 5) F13 :: gO g9 (r (2 * 0)) (r (2 * 0 + 1)) b10 :: (q4, .inr (10, [.ref g9, .ref g7, .ref g5, .int S14, .int S15, .int (nI K16), .int G17])) :: mw κ a r f q (tb a) w) H locs := by rw [hw9] at hB; exact hB
              refine W.eq (g2 := F0 m 127 ls [.int x147, .int (nI K16), .int y3_42]) rfl ?_
              refine lv_icmp_ne (tgt := 159) hx hb dX10_isSoundNow_127 (by decide) (fun c148 => ?_) (fun c148 => ?_)
              · refine lv_iconst (v := 0) hx hb dX10_isSoundNow_159 (by decide) ?_
                refine lv_iand hx hb dX10_isSoundNow_160 ?_
                refine lv_istore_n (lv' := [(3, .int (y3_42 &&& 0)), (6, .int (nI y6_42)), (4, .long y4_42), (2, .ref q4), (1, .ref (a (2 + 2 * 0))), (0, .ref (a 0))]) hx hb dX10_isSoundNow_161 rfl hl (by decide) rfl (fun ls hl => ?_)
                refine lv_iload_n hx hb dX10_isSoundNow_162 rfl (lv_at hl 0 rfl) ?_
                refine lv_if_eq (tgt := 195) hx hb dX10_isSoundNow_163 (by decide) (fun c149 => ?_) (fun c149 => ?_)
                · refine lv_iconst (v := 0) hx hb dX10_isSoundNow_195 (by decide) ?_
                  replace hB : Bd κ A s (lA κ b6 ((r (2 * 0 + 1)) * 5) F11 :: gO g5 (r (2 * 0 + 1)) (r (2 * 0 + 1)) b6 :: lA κ b8 ((r (2 * 0)) * 5) F12 :: gO g7 (r (2 * 0)) (r (2 * 0)) b8 :: lA κ b10 ((r (2 * 0)) * 5) F13 :: gO g9 (r (2 * 0)) (r (2 * 0 + 1)) b10 :: mw κ a r f q (tb a) w) H locs := Bd_del 6 hB
                  replace hB : Bd κ A s (lA κ b6 ((r (2 * 0 + 1)) * 5) F11 :: gO g5 (r (2 * 0 + 1)) (r (2 * 0 + 1)) b6 :: lA κ b8 ((r (2 * 0)) * 5) F12 :: gO g7 (r (2 * 0)) (r (2 * 0)) b8 :: lA κ b10 ((r (2 * 0)) * 5) F13 :: mw κ a r f q (tb a) w) H locs := Bd_del 5 hB
                  replace hB : Bd κ A s (lA κ b6 ((r (2 * 0 + 1)) * 5) F11 :: gO g5 (r (2 * 0 + 1)) (r (2 * 0 + 1)) b6 :: lA κ b8 ((r (2 * 0)) * 5) F12 :: gO g7 (r (2 * 0)) (r (2 * 0)) b8 :: mw κ a r f q (tb a) w) H locs := Bd_del 4 hB
                  replace hB : Bd κ A s (lA κ b6 ((r (2 * 0 + 1)) * 5) F11 :: gO g5 (r (2 * 0 + 1)) (r (2 * 0 + 1)) b6 :: lA κ b8 ((r (2 * 0)) * 5) F12 :: mw κ a r f q (tb a) w) H locs := Bd_del 3 hB
                  replace hB : Bd κ A s (lA κ b6 ((r (2 * 0 + 1)) * 5) F11 :: gO g5 (r (2 * 0 + 1)) (r (2 * 0 + 1)) b6 :: mw κ a r f q (tb a) w) H locs := Bd_del 2 hB
                  replace hB : Bd κ A s (lA κ b6 ((r (2 * 0 + 1)) * 5) F11 :: mw κ a r f q (tb a) w) H locs := Bd_del 1 hB
                  replace hB : Bd κ A s (mw κ a r f q (tb a) w) H locs := Bd_del 0 hB
                  rw [← hQ]
                  exact end_i hX hB hA3 rfl rfl ⟨0, rfl, (Or.inl rfl), rfl⟩ (Nat.le_of_ble_eq_true rfl) (Nat.le_of_ble_eq_true rfl) dX10_isSoundNow_196
                · refine lv_aload_n hx hb dX10_isSoundNow_166 rfl (lv_at hl 4 rfl) ?_
                  refine gf (k0 := 2 + 2 * 0 + 7) hX hB (mwG (i := 0) (a := a) (r := r) (f := f) (q := q) (T := tb a) (w := w) (by omega)) rfl in7 0 (by decide) wm_5_148 rfl rfl dX10_isSoundNow_167 ?_
                  refine lv_aload_n hx hb dX10_isSoundNow_170 rfl (lv_at hl 4 rfl) ?_
                  refine gf (k0 := 2 + 2 * 0 + 7) hX hB (mwG (i := 0) (a := a) (r := r) (f := f) (q := q) (T := tb a) (w := w) (by omega)) rfl in7 1 (by decide) wm_5_152 rfl rfl dX10_isSoundNow_171 ?_
                  refine lv_icmp_ne (tgt := 191) hx hb dX10_isSoundNow_174 (by decide) (fun c150 => ?_) (fun c150 => ?_)
                  · rw [neqP (a := r (2 * 0)) (b := r (2 * 0 + 1)) (by omega) (by omega)] at c150
                    refine lv_iconst (v := 1) hx hb dX10_isSoundNow_191 (by decide) ?_
                    refine lv_goto (tgt := 196) hx hb dX10_isSoundNow_192 (by decide) ?_
                    replace hB : Bd κ A s (lA κ b6 ((r (2 * 0 + 1)) * 5) F11 :: gO g5 (r (2 * 0 + 1)) (r (2 * 0 + 1)) b6 :: lA κ b8 ((r (2 * 0)) * 5) F12 :: gO g7 (r (2 * 0)) (r (2 * 0)) b8 :: lA κ b10 ((r (2 * 0)) * 5) F13 :: gO g9 (r (2 * 0)) (r (2 * 0 + 1)) b10 :: mw κ a r f q (tb a) w) H locs := Bd_del 6 hB
                    replace hB : Bd κ A s (lA κ b6 ((r (2 * 0 + 1)) * 5) F11 :: gO g5 (r (2 * 0 + 1)) (r (2 * 0 + 1)) b6 :: lA κ b8 ((r (2 * 0)) * 5) F12 :: gO g7 (r (2 * 0)) (r (2 * 0)) b8 :: lA κ b10 ((r (2 * 0)) * 5) F13 :: mw κ a r f q (tb a) w) H locs := Bd_del 5 hB
                    replace hB : Bd κ A s (lA κ b6 ((r (2 * 0 + 1)) * 5) F11 :: gO g5 (r (2 * 0 + 1)) (r (2 * 0 + 1)) b6 :: lA κ b8 ((r (2 * 0)) * 5) F12 :: gO g7 (r (2 * 0)) (r (2 * 0)) b8 :: mw κ a r f q (tb a) w) H locs := Bd_del 4 hB
                    replace hB : Bd κ A s (lA κ b6 ((r (2 * 0 + 1)) * 5) F11 :: gO g5 (r (2 * 0 + 1)) (r (2 * 0 + 1)) b6 :: lA κ b8 ((r (2 * 0)) * 5) F12 :: mw κ a r f q (tb a) w) H locs := Bd_del 3 hB
                    replace hB : Bd κ A s (lA κ b6 ((r (2 * 0 + 1)) * 5) F11 :: gO g5 (r (2 * 0 + 1)) (r (2 * 0 + 1)) b6 :: mw κ a r f q (tb a) w) H locs := Bd_del 2 hB
                    replace hB : Bd κ A s (lA κ b6 ((r (2 * 0 + 1)) * 5) F11 :: mw κ a r f q (tb a) w) H locs := Bd_del 1 hB
                    replace hB : Bd κ A s (mw κ a r f q (tb a) w) H locs := Bd_del 0 hB
                    rw [← hQ]
                    exact end_i hX hB hA3 rfl rfl ⟨1, rfl, (Or.inr rfl), rfl⟩ (Nat.le_of_ble_eq_true rfl) (Nat.le_of_ble_eq_true rfl) dX10_isSoundNow_196
                  · rw [neqP (a := r (2 * 0)) (b := r (2 * 0 + 1)) (by omega) (by omega)] at c150
                    refine lv_aload_n hx hb dX10_isSoundNow_177 rfl (lv_at hl 4 rfl) ?_
                    refine call_S (n := 1) (As := [.ref (a (2 + 2 * 0))]) (rest := []) hX hB (k_X10_determinantOf κ l (lA κ b6 ((r (2 * 0 + 1)) * 5) F11 :: gO g5 (r (2 * 0 + 1)) (r (2 * 0 + 1)) b6 :: lA κ b8 ((r (2 * 0)) * 5) F12 :: gO g7 (r (2 * 0)) (r (2 * 0)) b8 :: lA κ b10 ((r (2 * 0)) * 5) F13 :: gO g9 (r (2 * 0)) (r (2 * 0 + 1)) b10 :: (q4, .inr (10, [.ref g9, .ref g7, .ref g5, .int S14, .int S15, .int (nI K16), .int G17])) :: mw κ a r f q (tb a) w) (2 + 2 * 0 + 7) (3 + 2 * 0 + 7) (a (2 + 2 * 0)) (a (3 + 2 * 0)) (r (2 * 0)) (r (2 * 0 + 1)) (f 0) (mwG (i := 0) (a := a) (r := r) (f := f) (q := q) (T := tb a) (w := w) (by omega)) (mwA (i := 0) (a := a) (r := r) (f := f) (q := q) (T := tb a) (w := w) (by omega)) (mok_shp (i := 0) hm (by omega)) (by omega)) ⟨by decide, by decide, by decide +kernel⟩ wm_7_72 wm_7_73 wm_1_6 wm_7_74 ⟨Nat.le_of_ble_eq_true rfl, Nat.le_of_ble_eq_true rfl⟩ ⟨Nat.le_of_ble_eq_true rfl, Nat.le_of_ble_eq_true rfl⟩ rfl hl.1 rfl (Nat.le_of_ble_eq_true rfl) dX10_isSoundNow_178 (fun o w' H locs hp hB => ?_)
                    obtain ⟨rfl, hw9⟩ := hp
                    replace hB : Bd κ A s (lA κ b6 ((r (2 * 0 + 1)) * 5) F11 :: gO g5 (r (2 * 0 + 1)) (r (2 * 0 + 1)) b6 :: lA κ b8 ((r (2 * 0)) * 5) F12 :: gO g7 (r (2 * 0)) (r (2 * 0)) b8 :: lA κ b10 ((r (2 * 0)) * 5) F13 :: gO g9 (r (2 * 0)) (r (2 * 0 + 1)) b10 :: (q4, .inr (10, [.ref g9, .ref g7, .ref g5, .int S14, .int S15, .int (nI K16), .int G17])) :: mw κ a r f q (tb a) w) H locs := by rw [hw9] at hB; exact hB
                    refine W.eq (g2 := F0 m 181 ls [.long (mnv (f 0) (r (2 * 0 + 1)) (r (2 * 0)) (2 ^ (r (2 * 0)) - 1) (2 ^ (r (2 * 0 + 1)) - 1))]) rfl ?_
                    refine lv_aload_n hx hb dX10_isSoundNow_181 rfl (lv_at hl 4 rfl) ?_
                    refine lv_iconst (v := 0) hx hb dX10_isSoundNow_182 (by decide) ?_
                    refine lv_iconst (v := 0) hx hb dX10_isSoundNow_183 (by decide) ?_
                    refine call_S (n := 3) (As := [.ref (a (2 + 2 * 0)), .int 0, .int 0]) (rest := [.long (mnv (f 0) (r (2 * 0 + 1)) (r (2 * 0)) (2 ^ (r (2 * 0)) - 1) (2 ^ (r (2 * 0 + 1)) - 1))]) hX hB (k_X10_bySequences κ l (lA κ b6 ((r (2 * 0 + 1)) * 5) F11 :: gO g5 (r (2 * 0 + 1)) (r (2 * 0 + 1)) b6 :: lA κ b8 ((r (2 * 0)) * 5) F12 :: gO g7 (r (2 * 0)) (r (2 * 0)) b8 :: lA κ b10 ((r (2 * 0)) * 5) F13 :: gO g9 (r (2 * 0)) (r (2 * 0 + 1)) b10 :: (q4, .inr (10, [.ref g9, .ref g7, .ref g5, .int S14, .int S15, .int (nI K16), .int G17])) :: mw κ a r f q (tb a) w) (2 + 2 * 0 + 7) (3 + 2 * 0 + 7) (a (2 + 2 * 0)) (a (3 + 2 * 0)) (r (2 * 0)) (r (2 * 0 + 1)) (f 0) 0 0 0 (mwG (i := 0) (a := a) (r := r) (f := f) (q := q) (T := tb a) (w := w) (by omega)) (mwA (i := 0) (a := a) (r := r) (f := f) (q := q) (T := tb a) (w := w) (by omega)) (mok_shp (i := 0) hm (by omega)) rfl (by omega)) ⟨by decide, by decide, by decide +kernel⟩ wm_7_84 wm_7_85 wm_1_6 wm_7_86 ⟨Nat.le_of_ble_eq_true rfl, Nat.le_of_ble_eq_true rfl⟩ ⟨Nat.le_of_ble_eq_true rfl, Nat.le_of_ble_eq_true rfl⟩ rfl hl.1 rfl (Nat.le_of_ble_eq_true rfl) dX10_isSoundNow_184 (fun o w' H locs hp hB => ?_)
                    obtain ⟨z151, rfl, hw9⟩ := hp
                    replace hB : Bd κ A s (lA κ b6 ((r (2 * 0 + 1)) * 5) F11 :: gO g5 (r (2 * 0 + 1)) (r (2 * 0 + 1)) b6 :: lA κ b8 ((r (2 * 0)) * 5) F12 :: gO g7 (r (2 * 0)) (r (2 * 0)) b8 :: lA κ b10 ((r (2 * 0)) * 5) F13 :: gO g9 (r (2 * 0)) (r (2 * 0 + 1)) b10 :: (q4, .inr (10, [.ref g9, .ref g7, .ref g5, .int S14, .int S15, .int (nI K16), .int G17])) :: mw κ a r f q (tb a) w) H locs := by rw [hw9] at hB; exact hB
                    refine W.eq (g2 := F0 m 187 ls [.long z151, .long (mnv (f 0) (r (2 * 0 + 1)) (r (2 * 0)) (2 ^ (r (2 * 0)) - 1) (2 ^ (r (2 * 0 + 1)) - 1))]) rfl ?_
                    refine W.lcmp hx hb dX10_isSoundNow_187 ?_
                    refine lv_if_ne (tgt := 195) hx hb dX10_isSoundNow_188 (by decide) (fun c152 => ?_) (fun c152 => ?_)
                    · refine lv_iconst (v := 0) hx hb dX10_isSoundNow_195 (by decide) ?_
                      replace hB : Bd κ A s (lA κ b6 ((r (2 * 0 + 1)) * 5) F11 :: gO g5 (r (2 * 0 + 1)) (r (2 * 0 + 1)) b6 :: lA κ b8 ((r (2 * 0)) * 5) F12 :: gO g7 (r (2 * 0)) (r (2 * 0)) b8 :: lA κ b10 ((r (2 * 0)) * 5) F13 :: gO g9 (r (2 * 0)) (r (2 * 0 + 1)) b10 :: mw κ a r f q (tb a) w) H locs := Bd_del 6 hB
                      replace hB : Bd κ A s (lA κ b6 ((r (2 * 0 + 1)) * 5) F11 :: gO g5 (r (2 * 0 + 1)) (r (2 * 0 + 1)) b6 :: lA κ b8 ((r (2 * 0)) * 5) F12 :: gO g7 (r (2 * 0)) (r (2 * 0)) b8 :: lA κ b10 ((r (2 * 0)) * 5) F13 :: mw κ a r f q (tb a) w) H locs := Bd_del 5 hB
                      replace hB : Bd κ A s (lA κ b6 ((r (2 * 0 + 1)) * 5) F11 :: gO g5 (r (2 * 0 + 1)) (r (2 * 0 + 1)) b6 :: lA κ b8 ((r (2 * 0)) * 5) F12 :: gO g7 (r (2 * 0)) (r (2 * 0)) b8 :: mw κ a r f q (tb a) w) H locs := Bd_del 4 hB
                      replace hB : Bd κ A s (lA κ b6 ((r (2 * 0 + 1)) * 5) F11 :: gO g5 (r (2 * 0 + 1)) (r (2 * 0 + 1)) b6 :: lA κ b8 ((r (2 * 0)) * 5) F12 :: mw κ a r f q (tb a) w) H locs := Bd_del 3 hB
                      replace hB : Bd κ A s (lA κ b6 ((r (2 * 0 + 1)) * 5) F11 :: gO g5 (r (2 * 0 + 1)) (r (2 * 0 + 1)) b6 :: mw κ a r f q (tb a) w) H locs := Bd_del 2 hB
                      replace hB : Bd κ A s (lA κ b6 ((r (2 * 0 + 1)) * 5) F11 :: mw κ a r f q (tb a) w) H locs := Bd_del 1 hB
                      replace hB : Bd κ A s (mw κ a r f q (tb a) w) H locs := Bd_del 0 hB
                      rw [← hQ]
                      exact end_i hX hB hA3 rfl rfl ⟨0, rfl, (Or.inl rfl), rfl⟩ (Nat.le_of_ble_eq_true rfl) (Nat.le_of_ble_eq_true rfl) dX10_isSoundNow_196
                    · refine lv_iconst (v := 1) hx hb dX10_isSoundNow_191 (by decide) ?_
                      refine lv_goto (tgt := 196) hx hb dX10_isSoundNow_192 (by decide) ?_
                      replace hB : Bd κ A s (lA κ b6 ((r (2 * 0 + 1)) * 5) F11 :: gO g5 (r (2 * 0 + 1)) (r (2 * 0 + 1)) b6 :: lA κ b8 ((r (2 * 0)) * 5) F12 :: gO g7 (r (2 * 0)) (r (2 * 0)) b8 :: lA κ b10 ((r (2 * 0)) * 5) F13 :: gO g9 (r (2 * 0)) (r (2 * 0 + 1)) b10 :: mw κ a r f q (tb a) w) H locs := Bd_del 6 hB
                      replace hB : Bd κ A s (lA κ b6 ((r (2 * 0 + 1)) * 5) F11 :: gO g5 (r (2 * 0 + 1)) (r (2 * 0 + 1)) b6 :: lA κ b8 ((r (2 * 0)) * 5) F12 :: gO g7 (r (2 * 0)) (r (2 * 0)) b8 :: lA κ b10 ((r (2 * 0)) * 5) F13 :: mw κ a r f q (tb a) w) H locs := Bd_del 5 hB
                      replace hB : Bd κ A s (lA κ b6 ((r (2 * 0 + 1)) * 5) F11 :: gO g5 (r (2 * 0 + 1)) (r (2 * 0 + 1)) b6 :: lA κ b8 ((r (2 * 0)) * 5) F12 :: gO g7 (r (2 * 0)) (r (2 * 0)) b8 :: mw κ a r f q (tb a) w) H locs := Bd_del 4 hB
                      replace hB : Bd κ A s (lA κ b6 ((r (2 * 0 + 1)) * 5) F11 :: gO g5 (r (2 * 0 + 1)) (r (2 * 0 + 1)) b6 :: lA κ b8 ((r (2 * 0)) * 5) F12 :: mw κ a r f q (tb a) w) H locs := Bd_del 3 hB
                      replace hB : Bd κ A s (lA κ b6 ((r (2 * 0 + 1)) * 5) F11 :: gO g5 (r (2 * 0 + 1)) (r (2 * 0 + 1)) b6 :: mw κ a r f q (tb a) w) H locs := Bd_del 2 hB
                      replace hB : Bd κ A s (lA κ b6 ((r (2 * 0 + 1)) * 5) F11 :: mw κ a r f q (tb a) w) H locs := Bd_del 1 hB
                      replace hB : Bd κ A s (mw κ a r f q (tb a) w) H locs := Bd_del 0 hB
                      rw [← hQ]
                      exact end_i hX hB hA3 rfl rfl ⟨1, rfl, (Or.inr rfl), rfl⟩ (Nat.le_of_ble_eq_true rfl) (Nat.le_of_ble_eq_true rfl) dX10_isSoundNow_196
              · refine lv_aload_n hx hb dX10_isSoundNow_130 rfl (lv_at hl 3 rfl) ?_
                refine gf (k0 := 6) hX hB rfl rfl in9 1 (by decide) wm_6_220 rfl rfl dX10_isSoundNow_131 ?_
                refine lv_aload_n hx hb dX10_isSoundNow_134 rfl (lv_at hl 4 rfl) ?_
                refine call_V (n := 1) (k0 := 3) (As := [.ref (a (2 + 2 * 0))]) (rest := [.int y3_42]) hX hB (k_X7_product κ l (lA κ b6 ((r (2 * 0 + 1)) * 5) F11 :: gO g5 (r (2 * 0 + 1)) (r (2 * 0 + 1)) b6 :: lA κ b8 ((r (2 * 0)) * 5) F12 :: gO g7 (r (2 * 0)) (r (2 * 0)) b8 :: lA κ b10 ((r (2 * 0)) * 5) F13 :: gO g9 (r (2 * 0)) (r (2 * 0 + 1)) b10 :: (q4, .inr (10, [.ref g9, .ref g7, .ref g5, .int S14, .int S15, .int (nI K16), .int G17])) :: mw κ a r f q (tb a) w) 3 2 g7 b8 (r (2 * 0)) (r (2 * 0)) F12 (2 + 2 * 0 + 7) (3 + 2 * 0 + 7) (a (2 + 2 * 0)) (a (3 + 2 * 0)) (r (2 * 0)) (r (2 * 0 + 1)) (f 0) rfl rfl ⟨by omega, by omega, by omega, by omega⟩ (mwG (i := 0) (a := a) (r := r) (f := f) (q := q) (T := tb a) (w := w) (by omega)) (mwA (i := 0) (a := a) (r := r) (f := f) (q := q) (T := tb a) (w := w) (by omega)) (mok_shp (i := 0) hm (by omega)) (by omega)) ⟨rfl, by decide, by decide, by decide +kernel⟩ wm_6_112 wm_6_113 wm_6_114 wm_1_7 wm_6_115 ⟨Nat.le_of_ble_eq_true rfl, Nat.le_of_ble_eq_true rfl⟩ ⟨Nat.le_of_ble_eq_true rfl, Nat.le_of_ble_eq_true rfl⟩ rfl rfl rfl rfl hl.1 rfl (Nat.le_of_ble_eq_true rfl) dX10_isSoundNow_135 (fun o w' H locs hp hB => ?_)
                obtain ⟨q153, q154, F155, rfl, hw9⟩ := hp
                replace hB : Bd κ A s (lA κ q154 ((r (2 * 0)) * 5) F155 :: gO q153 (r (2 * 0)) (r (2 * 0 + 1)) q154 :: lA κ b6 ((r (2 * 0 + 1)) * 5) F11 :: gO g5 (r (2 * 0 + 1)) (r (2 * 0 + 1)) b6 :: lA κ b8 ((r (2 * 0)) * 5) F12 :: gO g7 (r (2 * 0)) (r (2 * 0)) b8 :: lA κ b10 ((r (2 * 0)) * 5) F13 :: gO g9 (r (2 * 0)) (r (2 * 0 + 1)) b10 :: (q4, .inr (10, [.ref g9, .ref g7, .ref g5, .int S14, .int S15, .int (nI K16), .int G17])) :: mw κ a r f q (tb a) w) H locs := by rw [hw9] at hB; exact hB
                refine W.eq (g2 := F0 m 138 ls [.ref q153, .int y3_42]) rfl ?_
                refine lv_aload_n hx hb dX10_isSoundNow_138 rfl (lv_at hl 3 rfl) ?_
                refine gf (k0 := 8) hX hB rfl rfl in9 2 (by decide) wm_6_222 rfl rfl dX10_isSoundNow_139 ?_
                refine call_V (n := 1) (k0 := 1) (As := [.ref g5]) (rest := [.int y3_42]) hX hB (k_X7_product κ l (lA κ q154 ((r (2 * 0)) * 5) F155 :: gO q153 (r (2 * 0)) (r (2 * 0 + 1)) q154 :: lA κ b6 ((r (2 * 0 + 1)) * 5) F11 :: gO g5 (r (2 * 0 + 1)) (r (2 * 0 + 1)) b6 :: lA κ b8 ((r (2 * 0)) * 5) F12 :: gO g7 (r (2 * 0)) (r (2 * 0)) b8 :: lA κ b10 ((r (2 * 0)) * 5) F13 :: gO g9 (r (2 * 0)) (r (2 * 0 + 1)) b10 :: (q4, .inr (10, [.ref g9, .ref g7, .ref g5, .int S14, .int S15, .int (nI K16), .int G17])) :: mw κ a r f q (tb a) w) 1 0 q153 q154 (r (2 * 0)) (r (2 * 0 + 1)) F155 3 2 g5 b6 (r (2 * 0 + 1)) (r (2 * 0 + 1)) F11 rfl rfl ⟨by omega, by omega, by omega, by omega⟩ rfl rfl ⟨by omega, by omega, by omega, by omega⟩ (by omega)) ⟨rfl, by decide, by decide, by decide +kernel⟩ wm_6_112 wm_6_113 wm_6_114 wm_1_7 wm_6_115 ⟨Nat.le_of_ble_eq_true rfl, Nat.le_of_ble_eq_true rfl⟩ ⟨Nat.le_of_ble_eq_true rfl, Nat.le_of_ble_eq_true rfl⟩ rfl rfl rfl rfl hl.1 rfl (Nat.le_of_ble_eq_true rfl) dX10_isSoundNow_142 (fun o w' H locs hp hB => ?_)
                obtain ⟨q156, q157, F158, rfl, hw9⟩ := hp
                replace hB : Bd κ A s (lA κ q157 ((r (2 * 0)) * 5) F158 :: gO q156 (r (2 * 0)) (r (2 * 0 + 1)) q157 :: lA κ q154 ((r (2 * 0)) * 5) F155 :: gO q153 (r (2 * 0)) (r (2 * 0 + 1)) q154 :: lA κ b6 ((r (2 * 0 + 1)) * 5) F11 :: gO g5 (r (2 * 0 + 1)) (r (2 * 0 + 1)) b6 :: lA κ b8 ((r (2 * 0)) * 5) F12 :: gO g7 (r (2 * 0)) (r (2 * 0)) b8 :: lA κ b10 ((r (2 * 0)) * 5) F13 :: gO g9 (r (2 * 0)) (r (2 * 0 + 1)) b10 :: (q4, .inr (10, [.ref g9, .ref g7, .ref g5, .int S14, .int S15, .int (nI K16), .int G17])) :: mw κ a r f q (tb a) w) H locs := by rw [hw9] at hB; exact hB
                refine W.eq (g2 := F0 m 145 ls [.ref q156, .int y3_42]) rfl ?_
                refine lv_aload_n hx hb dX10_isSoundNow_145 rfl (lv_at hl 3 rfl) ?_
                refine gf (k0 := 10) hX hB rfl rfl in9 0 (by decide) wm_6_218 rfl rfl dX10_isSoundNow_146 ?_
                refine call_V (n := 1) (k0 := 1) (As := [.ref g9]) (rest := [.int y3_42]) hX hB (k_X7_isSame κ l (lA κ q157 ((r (2 * 0)) * 5) F158 :: gO q156 (r (2 * 0)) (r (2 * 0 + 1)) q157 :: lA κ q154 ((r (2 * 0)) * 5) F155 :: gO q153 (r (2 * 0)) (r (2 * 0 + 1)) q154 :: lA κ b6 ((r (2 * 0 + 1)) * 5) F11 :: gO g5 (r (2 * 0 + 1)) (r (2 * 0 + 1)) b6 :: lA κ b8 ((r (2 * 0)) * 5) F12 :: gO g7 (r (2 * 0)) (r (2 * 0)) b8 :: lA κ b10 ((r (2 * 0)) * 5) F13 :: gO g9 (r (2 * 0)) (r (2 * 0 + 1)) b10 :: (q4, .inr (10, [.ref g9, .ref g7, .ref g5, .int S14, .int S15, .int (nI K16), .int G17])) :: mw κ a r f q (tb a) w) 1 0 q156 q157 (r (2 * 0)) (r (2 * 0 + 1)) F158 9 8 g9 b10 (r (2 * 0)) (r (2 * 0 + 1)) F13 rfl rfl ⟨by omega, by omega, by omega, by omega⟩ rfl rfl (mok_shp (i := 0) hm (by omega))) ⟨rfl, by decide, by decide, by decide +kernel⟩ wm_6_15 wm_6_16 wm_6_17 wm_1_7 wm_6_18 ⟨Nat.le_of_ble_eq_true rfl, Nat.le_of_ble_eq_true rfl⟩ ⟨Nat.le_of_ble_eq_true rfl, Nat.le_of_ble_eq_true rfl⟩ rfl rfl rfl rfl hl.1 rfl (Nat.le_of_ble_eq_true rfl) dX10_isSoundNow_149 (fun o w' H locs hp hB => ?_)
                obtain ⟨x159, rfl, hf160, hw9⟩ := hp
                replace hB : Bd κ A s (lA κ q157 ((r (2 * 0)) * 5) F158 :: gO q156 (r (2 * 0)) (r (2 * 0 + 1)) q157 :: lA κ q154 ((r (2 * 0)) * 5) F155 :: gO q153 (r (2 * 0)) (r (2 * 0 + 1)) q154 :: lA κ b6 ((r (2 * 0 + 1)) * 5) F11 :: gO g5 (r (2 * 0 + 1)) (r (2 * 0 + 1)) b6 :: lA κ b8 ((r (2 * 0)) * 5) F12 :: gO g7 (r (2 * 0)) (r (2 * 0)) b8 :: lA κ b10 ((r (2 * 0)) * 5) F13 :: gO g9 (r (2 * 0)) (r (2 * 0 + 1)) b10 :: (q4, .inr (10, [.ref g9, .ref g7, .ref g5, .int S14, .int S15, .int (nI K16), .int G17])) :: mw κ a r f q (tb a) w) H locs := by rw [hw9] at hB; exact hB
                rcases hf160 with rfl | rfl
                · refine W.eq (g2 := F0 m 152 ls [.int 0, .int y3_42]) rfl ?_
                  refine lv_if_eq (tgt := 159) hx hb dX10_isSoundNow_152 (by decide) (fun _ => ?_) (fun c161 => False.elim (by revert c161; decide))
                  refine lv_iconst (v := 0) hx hb dX10_isSoundNow_159 (by decide) ?_
                  refine lv_iand hx hb dX10_isSoundNow_160 ?_
                  refine lv_istore_n (lv' := [(3, .int (y3_42 &&& 0)), (6, .int (nI y6_42)), (4, .long y4_42), (2, .ref q4), (1, .ref (a (2 + 2 * 0))), (0, .ref (a 0))]) hx hb dX10_isSoundNow_161 rfl hl (by decide) rfl (fun ls hl => ?_)
                  refine lv_iload_n hx hb dX10_isSoundNow_162 rfl (lv_at hl 0 rfl) ?_
                  refine lv_if_eq (tgt := 195) hx hb dX10_isSoundNow_163 (by decide) (fun c162 => ?_) (fun c162 => ?_)
                  · refine lv_iconst (v := 0) hx hb dX10_isSoundNow_195 (by decide) ?_
                    replace hB : Bd κ A s (lA κ q157 ((r (2 * 0)) * 5) F158 :: gO q156 (r (2 * 0)) (r (2 * 0 + 1)) q157 :: lA κ q154 ((r (2 * 0)) * 5) F155 :: gO q153 (r (2 * 0)) (r (2 * 0 + 1)) q154 :: lA κ b6 ((r (2 * 0 + 1)) * 5) F11 :: gO g5 (r (2 * 0 + 1)) (r (2 * 0 + 1)) b6 :: lA κ b8 ((r (2 * 0)) * 5) F12 :: gO g7 (r (2 * 0)) (r (2 * 0)) b8 :: lA κ b10 ((r (2 * 0)) * 5) F13 :: gO g9 (r (2 * 0)) (r (2 * 0 + 1)) b10 :: mw κ a r f q (tb a) w) H locs := Bd_del 10 hB
                    replace hB : Bd κ A s (lA κ q157 ((r (2 * 0)) * 5) F158 :: gO q156 (r (2 * 0)) (r (2 * 0 + 1)) q157 :: lA κ q154 ((r (2 * 0)) * 5) F155 :: gO q153 (r (2 * 0)) (r (2 * 0 + 1)) q154 :: lA κ b6 ((r (2 * 0 + 1)) * 5) F11 :: gO g5 (r (2 * 0 + 1)) (r (2 * 0 + 1)) b6 :: lA κ b8 ((r (2 * 0)) * 5) F12 :: gO g7 (r (2 * 0)) (r (2 * 0)) b8 :: lA κ b10 ((r (2 * 0)) * 5) F13 :: mw κ a r f q (tb a) w) H locs := Bd_del 9 hB
                    replace hB : Bd κ A s (lA κ q157 ((r (2 * 0)) * 5) F158 :: gO q156 (r (2 * 0)) (r (2 * 0 + 1)) q157 :: lA κ q154 ((r (2 * 0)) * 5) F155 :: gO q153 (r (2 * 0)) (r (2 * 0 + 1)) q154 :: lA κ b6 ((r (2 * 0 + 1)) * 5) F11 :: gO g5 (r (2 * 0 + 1)) (r (2 * 0 + 1)) b6 :: lA κ b8 ((r (2 * 0)) * 5) F12 :: gO g7 (r (2 * 0)) (r (2 * 0)) b8 :: mw κ a r f q (tb a) w) H locs := Bd_del 8 hB
                    replace hB : Bd κ A s (lA κ q157 ((r (2 * 0)) * 5) F158 :: gO q156 (r (2 * 0)) (r (2 * 0 + 1)) q157 :: lA κ q154 ((r (2 * 0)) * 5) F155 :: gO q153 (r (2 * 0)) (r (2 * 0 + 1)) q154 :: lA κ b6 ((r (2 * 0 + 1)) * 5) F11 :: gO g5 (r (2 * 0 + 1)) (r (2 * 0 + 1)) b6 :: lA κ b8 ((r (2 * 0)) * 5) F12 :: mw κ a r f q (tb a) w) H locs := Bd_del 7 hB
                    replace hB : Bd κ A s (lA κ q157 ((r (2 * 0)) * 5) F158 :: gO q156 (r (2 * 0)) (r (2 * 0 + 1)) q157 :: lA κ q154 ((r (2 * 0)) * 5) F155 :: gO q153 (r (2 * 0)) (r (2 * 0 + 1)) q154 :: lA κ b6 ((r (2 * 0 + 1)) * 5) F11 :: gO g5 (r (2 * 0 + 1)) (r (2 * 0 + 1)) b6 :: mw κ a r f q (tb a) w) H locs := Bd_del 6 hB
                    replace hB : Bd κ A s (lA κ q157 ((r (2 * 0)) * 5) F158 :: gO q156 (r (2 * 0)) (r (2 * 0 + 1)) q157 :: lA κ q154 ((r (2 * 0)) * 5) F155 :: gO q153 (r (2 * 0)) (r (2 * 0 + 1)) q154 :: lA κ b6 ((r (2 * 0 + 1)) * 5) F11 :: mw κ a r f q (tb a) w) H locs := Bd_del 5 hB
                    replace hB : Bd κ A s (lA κ q157 ((r (2 * 0)) * 5) F158 :: gO q156 (r (2 * 0)) (r (2 * 0 + 1)) q157 :: lA κ q154 ((r (2 * 0)) * 5) F155 :: gO q153 (r (2 * 0)) (r (2 * 0 + 1)) q154 :: mw κ a r f q (tb a) w) H locs := Bd_del 4 hB
                    replace hB : Bd κ A s (lA κ q157 ((r (2 * 0)) * 5) F158 :: gO q156 (r (2 * 0)) (r (2 * 0 + 1)) q157 :: lA κ q154 ((r (2 * 0)) * 5) F155 :: mw κ a r f q (tb a) w) H locs := Bd_del 3 hB
                    replace hB : Bd κ A s (lA κ q157 ((r (2 * 0)) * 5) F158 :: gO q156 (r (2 * 0)) (r (2 * 0 + 1)) q157 :: mw κ a r f q (tb a) w) H locs := Bd_del 2 hB
                    replace hB : Bd κ A s (lA κ q157 ((r (2 * 0)) * 5) F158 :: mw κ a r f q (tb a) w) H locs := Bd_del 1 hB
                    replace hB : Bd κ A s (mw κ a r f q (tb a) w) H locs := Bd_del 0 hB
                    rw [← hQ]
                    exact end_i hX hB hA3 rfl rfl ⟨0, rfl, (Or.inl rfl), rfl⟩ (Nat.le_of_ble_eq_true rfl) (Nat.le_of_ble_eq_true rfl) dX10_isSoundNow_196
                  · refine lv_aload_n hx hb dX10_isSoundNow_166 rfl (lv_at hl 4 rfl) ?_
                    refine gf (k0 := 2 + 2 * 0 + 11) hX hB (mwG (i := 0) (a := a) (r := r) (f := f) (q := q) (T := tb a) (w := w) (by omega)) rfl in7 0 (by decide) wm_5_148 rfl rfl dX10_isSoundNow_167 ?_
                    refine lv_aload_n hx hb dX10_isSoundNow_170 rfl (lv_at hl 4 rfl) ?_
                    refine gf (k0 := 2 + 2 * 0 + 11) hX hB (mwG (i := 0) (a := a) (r := r) (f := f) (q := q) (T := tb a) (w := w) (by omega)) rfl in7 1 (by decide) wm_5_152 rfl rfl dX10_isSoundNow_171 ?_
                    refine lv_icmp_ne (tgt := 191) hx hb dX10_isSoundNow_174 (by decide) (fun c163 => ?_) (fun c163 => ?_)
                    · rw [neqP (a := r (2 * 0)) (b := r (2 * 0 + 1)) (by omega) (by omega)] at c163
                      refine lv_iconst (v := 1) hx hb dX10_isSoundNow_191 (by decide) ?_
                      refine lv_goto (tgt := 196) hx hb dX10_isSoundNow_192 (by decide) ?_
                      replace hB : Bd κ A s (lA κ q157 ((r (2 * 0)) * 5) F158 :: gO q156 (r (2 * 0)) (r (2 * 0 + 1)) q157 :: lA κ q154 ((r (2 * 0)) * 5) F155 :: gO q153 (r (2 * 0)) (r (2 * 0 + 1)) q154 :: lA κ b6 ((r (2 * 0 + 1)) * 5) F11 :: gO g5 (r (2 * 0 + 1)) (r (2 * 0 + 1)) b6 :: lA κ b8 ((r (2 * 0)) * 5) F12 :: gO g7 (r (2 * 0)) (r (2 * 0)) b8 :: lA κ b10 ((r (2 * 0)) * 5) F13 :: gO g9 (r (2 * 0)) (r (2 * 0 + 1)) b10 :: mw κ a r f q (tb a) w) H locs := Bd_del 10 hB
                      replace hB : Bd κ A s (lA κ q157 ((r (2 * 0)) * 5) F158 :: gO q156 (r (2 * 0)) (r (2 * 0 + 1)) q157 :: lA κ q154 ((r (2 * 0)) * 5) F155 :: gO q153 (r (2 * 0)) (r (2 * 0 + 1)) q154 :: lA κ b6 ((r (2 * 0 + 1)) * 5) F11 :: gO g5 (r (2 * 0 + 1)) (r (2 * 0 + 1)) b6 :: lA κ b8 ((r (2 * 0)) * 5) F12 :: gO g7 (r (2 * 0)) (r (2 * 0)) b8 :: lA κ b10 ((r (2 * 0)) * 5) F13 :: mw κ a r f q (tb a) w) H locs := Bd_del 9 hB
                      replace hB : Bd κ A s (lA κ q157 ((r (2 * 0)) * 5) F158 :: gO q156 (r (2 * 0)) (r (2 * 0 + 1)) q157 :: lA κ q154 ((r (2 * 0)) * 5) F155 :: gO q153 (r (2 * 0)) (r (2 * 0 + 1)) q154 :: lA κ b6 ((r (2 * 0 + 1)) * 5) F11 :: gO g5 (r (2 * 0 + 1)) (r (2 * 0 + 1)) b6 :: lA κ b8 ((r (2 * 0)) * 5) F12 :: gO g7 (r (2 * 0)) (r (2 * 0)) b8 :: mw κ a r f q (tb a) w) H locs := Bd_del 8 hB
                      replace hB : Bd κ A s (lA κ q157 ((r (2 * 0)) * 5) F158 :: gO q156 (r (2 * 0)) (r (2 * 0 + 1)) q157 :: lA κ q154 ((r (2 * 0)) * 5) F155 :: gO q153 (r (2 * 0)) (r (2 * 0 + 1)) q154 :: lA κ b6 ((r (2 * 0 + 1)) * 5) F11 :: gO g5 (r (2 * 0 + 1)) (r (2 * 0 + 1)) b6 :: lA κ b8 ((r (2 * 0)) * 5) F12 :: mw κ a r f q (tb a) w) H locs := Bd_del 7 hB
                      replace hB : Bd κ A s (lA κ q157 ((r (2 * 0)) * 5) F158 :: gO q156 (r (2 * 0)) (r (2 * 0 + 1)) q157 :: lA κ q154 ((r (2 * 0)) * 5) F155 :: gO q153 (r (2 * 0)) (r (2 * 0 + 1)) q154 :: lA κ b6 ((r (2 * 0 + 1)) * 5) F11 :: gO g5 (r (2 * 0 + 1)) (r (2 * 0 + 1)) b6 :: mw κ a r f q (tb a) w) H locs := Bd_del 6 hB
                      replace hB : Bd κ A s (lA κ q157 ((r (2 * 0)) * 5) F158 :: gO q156 (r (2 * 0)) (r (2 * 0 + 1)) q157 :: lA κ q154 ((r (2 * 0)) * 5) F155 :: gO q153 (r (2 * 0)) (r (2 * 0 + 1)) q154 :: lA κ b6 ((r (2 * 0 + 1)) * 5) F11 :: mw κ a r f q (tb a) w) H locs := Bd_del 5 hB
                      replace hB : Bd κ A s (lA κ q157 ((r (2 * 0)) * 5) F158 :: gO q156 (r (2 * 0)) (r (2 * 0 + 1)) q157 :: lA κ q154 ((r (2 * 0)) * 5) F155 :: gO q153 (r (2 * 0)) (r (2 * 0 + 1)) q154 :: mw κ a r f q (tb a) w) H locs := Bd_del 4 hB
                      replace hB : Bd κ A s (lA κ q157 ((r (2 * 0)) * 5) F158 :: gO q156 (r (2 * 0)) (r (2 * 0 + 1)) q157 :: lA κ q154 ((r (2 * 0)) * 5) F155 :: mw κ a r f q (tb a) w) H locs := Bd_del 3 hB
                      replace hB : Bd κ A s (lA κ q157 ((r (2 * 0)) * 5) F158 :: gO q156 (r (2 * 0)) (r (2 * 0 + 1)) q157 :: mw κ a r f q (tb a) w) H locs := Bd_del 2 hB
                      replace hB : Bd κ A s (lA κ q157 ((r (2 * 0)) * 5) F158 :: mw κ a r f q (tb a) w) H locs := Bd_del 1 hB
                      replace hB : Bd κ A s (mw κ a r f q (tb a) w) H locs := Bd_del 0 hB
                      rw [← hQ]
                      exact end_i hX hB hA3 rfl rfl ⟨1, rfl, (Or.inr rfl), rfl⟩ (Nat.le_of_ble_eq_true rfl) (Nat.le_of_ble_eq_true rfl) dX10_isSoundNow_196
                    · rw [neqP (a := r (2 * 0)) (b := r (2 * 0 + 1)) (by omega) (by omega)] at c163
                      refine lv_aload_n hx hb dX10_isSoundNow_177 rfl (lv_at hl 4 rfl) ?_
                      refine call_S (n := 1) (As := [.ref (a (2 + 2 * 0))]) (rest := []) hX hB (k_X10_determinantOf κ l (lA κ q157 ((r (2 * 0)) * 5) F158 :: gO q156 (r (2 * 0)) (r (2 * 0 + 1)) q157 :: lA κ q154 ((r (2 * 0)) * 5) F155 :: gO q153 (r (2 * 0)) (r (2 * 0 + 1)) q154 :: lA κ b6 ((r (2 * 0 + 1)) * 5) F11 :: gO g5 (r (2 * 0 + 1)) (r (2 * 0 + 1)) b6 :: lA κ b8 ((r (2 * 0)) * 5) F12 :: gO g7 (r (2 * 0)) (r (2 * 0)) b8 :: lA κ b10 ((r (2 * 0)) * 5) F13 :: gO g9 (r (2 * 0)) (r (2 * 0 + 1)) b10 :: (q4, .inr (10, [.ref g9, .ref g7, .ref g5, .int S14, .int S15, .int (nI K16), .int G17])) :: mw κ a r f q (tb a) w) (2 + 2 * 0 + 11) (3 + 2 * 0 + 11) (a (2 + 2 * 0)) (a (3 + 2 * 0)) (r (2 * 0)) (r (2 * 0 + 1)) (f 0) (mwG (i := 0) (a := a) (r := r) (f := f) (q := q) (T := tb a) (w := w) (by omega)) (mwA (i := 0) (a := a) (r := r) (f := f) (q := q) (T := tb a) (w := w) (by omega)) (mok_shp (i := 0) hm (by omega)) (by omega)) ⟨by decide, by decide, by decide +kernel⟩ wm_7_72 wm_7_73 wm_1_6 wm_7_74 ⟨Nat.le_of_ble_eq_true rfl, Nat.le_of_ble_eq_true rfl⟩ ⟨Nat.le_of_ble_eq_true rfl, Nat.le_of_ble_eq_true rfl⟩ rfl hl.1 rfl (Nat.le_of_ble_eq_true rfl) dX10_isSoundNow_178 (fun o w' H locs hp hB => ?_)
                      obtain ⟨rfl, hw9⟩ := hp
                      replace hB : Bd κ A s (lA κ q157 ((r (2 * 0)) * 5) F158 :: gO q156 (r (2 * 0)) (r (2 * 0 + 1)) q157 :: lA κ q154 ((r (2 * 0)) * 5) F155 :: gO q153 (r (2 * 0)) (r (2 * 0 + 1)) q154 :: lA κ b6 ((r (2 * 0 + 1)) * 5) F11 :: gO g5 (r (2 * 0 + 1)) (r (2 * 0 + 1)) b6 :: lA κ b8 ((r (2 * 0)) * 5) F12 :: gO g7 (r (2 * 0)) (r (2 * 0)) b8 :: lA κ b10 ((r (2 * 0)) * 5) F13 :: gO g9 (r (2 * 0)) (r (2 * 0 + 1)) b10 :: (q4, .inr (10, [.ref g9, .ref g7, .ref g5, .int S14, .int S15, .int (nI K16), .int G17])) :: mw κ a r f q (tb a) w) H locs := by rw [hw9] at hB; exact hB
                      refine W.eq (g2 := F0 m 181 ls [.long (mnv (f 0) (r (2 * 0 + 1)) (r (2 * 0)) (2 ^ (r (2 * 0)) - 1) (2 ^ (r (2 * 0 + 1)) - 1))]) rfl ?_
                      refine lv_aload_n hx hb dX10_isSoundNow_181 rfl (lv_at hl 4 rfl) ?_
                      refine lv_iconst (v := 0) hx hb dX10_isSoundNow_182 (by decide) ?_
                      refine lv_iconst (v := 0) hx hb dX10_isSoundNow_183 (by decide) ?_
                      refine call_S (n := 3) (As := [.ref (a (2 + 2 * 0)), .int 0, .int 0]) (rest := [.long (mnv (f 0) (r (2 * 0 + 1)) (r (2 * 0)) (2 ^ (r (2 * 0)) - 1) (2 ^ (r (2 * 0 + 1)) - 1))]) hX hB (k_X10_bySequences κ l (lA κ q157 ((r (2 * 0)) * 5) F158 :: gO q156 (r (2 * 0)) (r (2 * 0 + 1)) q157 :: lA κ q154 ((r (2 * 0)) * 5) F155 :: gO q153 (r (2 * 0)) (r (2 * 0 + 1)) q154 :: lA κ b6 ((r (2 * 0 + 1)) * 5) F11 :: gO g5 (r (2 * 0 + 1)) (r (2 * 0 + 1)) b6 :: lA κ b8 ((r (2 * 0)) * 5) F12 :: gO g7 (r (2 * 0)) (r (2 * 0)) b8 :: lA κ b10 ((r (2 * 0)) * 5) F13 :: gO g9 (r (2 * 0)) (r (2 * 0 + 1)) b10 :: (q4, .inr (10, [.ref g9, .ref g7, .ref g5, .int S14, .int S15, .int (nI K16), .int G17])) :: mw κ a r f q (tb a) w) (2 + 2 * 0 + 11) (3 + 2 * 0 + 11) (a (2 + 2 * 0)) (a (3 + 2 * 0)) (r (2 * 0)) (r (2 * 0 + 1)) (f 0) 0 0 0 (mwG (i := 0) (a := a) (r := r) (f := f) (q := q) (T := tb a) (w := w) (by omega)) (mwA (i := 0) (a := a) (r := r) (f := f) (q := q) (T := tb a) (w := w) (by omega)) (mok_shp (i := 0) hm (by omega)) rfl (by omega)) ⟨by decide, by decide, by decide +kernel⟩ wm_7_84 wm_7_85 wm_1_6 wm_7_86 ⟨Nat.le_of_ble_eq_true rfl, Nat.le_of_ble_eq_true rfl⟩ ⟨Nat.le_of_ble_eq_true rfl, Nat.le_of_ble_eq_true rfl⟩ rfl hl.1 rfl (Nat.le_of_ble_eq_true rfl) dX10_isSoundNow_184 (fun o w' H locs hp hB => ?_)
                      obtain ⟨z164, rfl, hw9⟩ := hp
                      replace hB : Bd κ A s (lA κ q157 ((r (2 * 0)) * 5) F158 :: gO q156 (r (2 * 0)) (r (2 * 0 + 1)) q157 :: lA κ q154 ((r (2 * 0)) * 5) F155 :: gO q153 (r (2 * 0)) (r (2 * 0 + 1)) q154 :: lA κ b6 ((r (2 * 0 + 1)) * 5) F11 :: gO g5 (r (2 * 0 + 1)) (r (2 * 0 + 1)) b6 :: lA κ b8 ((r (2 * 0)) * 5) F12 :: gO g7 (r (2 * 0)) (r (2 * 0)) b8 :: lA κ b10 ((r (2 * 0)) * 5) F13 :: gO g9 (r (2 * 0)) (r (2 * 0 + 1)) b10 :: (q4, .inr (10, [.ref g9, .ref g7, .ref g5, .int S14, .int S15, .int (nI K16), .int G17])) :: mw κ a r f q (tb a) w) H locs := by rw [hw9] at hB; exact hB
                      refine W.eq (g2 := F0 m 187 ls [.long z164, .long (mnv (f 0) (r (2 * 0 + 1)) (r (2 * 0)) (2 ^ (r (2 * 0)) - 1) (2 ^ (r (2 * 0 + 1)) - 1))]) rfl ?_
                      refine W.lcmp hx hb dX10_isSoundNow_187 ?_
                      refine lv_if_ne (tgt := 195) hx hb dX10_isSoundNow_188 (by decide) (fun c165 => ?_) (fun c165 => ?_)
                      · refine lv_iconst (v := 0) hx hb dX10_isSoundNow_195 (by decide) ?_
                        replace hB : Bd κ A s (lA κ q157 ((r (2 * 0)) * 5) F158 :: gO q156 (r (2 * 0)) (r (2 * 0 + 1)) q157 :: lA κ q154 ((r (2 * 0)) * 5) F155 :: gO q153 (r (2 * 0)) (r (2 * 0 + 1)) q154 :: lA κ b6 ((r (2 * 0 + 1)) * 5) F11 :: gO g5 (r (2 * 0 + 1)) (r (2 * 0 + 1)) b6 :: lA κ b8 ((r (2 * 0)) * 5) F12 :: gO g7 (r (2 * 0)) (r (2 * 0)) b8 :: lA κ b10 ((r (2 * 0)) * 5) F13 :: gO g9 (r (2 * 0)) (r (2 * 0 + 1)) b10 :: mw κ a r f q (tb a) w) H locs := Bd_del 10 hB
                        replace hB : Bd κ A s (lA κ q157 ((r (2 * 0)) * 5) F158 :: gO q156 (r (2 * 0)) (r (2 * 0 + 1)) q157 :: lA κ q154 ((r (2 * 0)) * 5) F155 :: gO q153 (r (2 * 0)) (r (2 * 0 + 1)) q154 :: lA κ b6 ((r (2 * 0 + 1)) * 5) F11 :: gO g5 (r (2 * 0 + 1)) (r (2 * 0 + 1)) b6 :: lA κ b8 ((r (2 * 0)) * 5) F12 :: gO g7 (r (2 * 0)) (r (2 * 0)) b8 :: lA κ b10 ((r (2 * 0)) * 5) F13 :: mw κ a r f q (tb a) w) H locs := Bd_del 9 hB
                        replace hB : Bd κ A s (lA κ q157 ((r (2 * 0)) * 5) F158 :: gO q156 (r (2 * 0)) (r (2 * 0 + 1)) q157 :: lA κ q154 ((r (2 * 0)) * 5) F155 :: gO q153 (r (2 * 0)) (r (2 * 0 + 1)) q154 :: lA κ b6 ((r (2 * 0 + 1)) * 5) F11 :: gO g5 (r (2 * 0 + 1)) (r (2 * 0 + 1)) b6 :: lA κ b8 ((r (2 * 0)) * 5) F12 :: gO g7 (r (2 * 0)) (r (2 * 0)) b8 :: mw κ a r f q (tb a) w) H locs := Bd_del 8 hB
                        replace hB : Bd κ A s (lA κ q157 ((r (2 * 0)) * 5) F158 :: gO q156 (r (2 * 0)) (r (2 * 0 + 1)) q157 :: lA κ q154 ((r (2 * 0)) * 5) F155 :: gO q153 (r (2 * 0)) (r (2 * 0 + 1)) q154 :: lA κ b6 ((r (2 * 0 + 1)) * 5) F11 :: gO g5 (r (2 * 0 + 1)) (r (2 * 0 + 1)) b6 :: lA κ b8 ((r (2 * 0)) * 5) F12 :: mw κ a r f q (tb a) w) H locs := Bd_del 7 hB
                        replace hB : Bd κ A s (lA κ q157 ((r (2 * 0)) * 5) F158 :: gO q156 (r (2 * 0)) (r (2 * 0 + 1)) q157 :: lA κ q154 ((r (2 * 0)) * 5) F155 :: gO q153 (r (2 * 0)) (r (2 * 0 + 1)) q154 :: lA κ b6 ((r (2 * 0 + 1)) * 5) F11 :: gO g5 (r (2 * 0 + 1)) (r (2 * 0 + 1)) b6 :: mw κ a r f q (tb a) w) H locs := Bd_del 6 hB
                        replace hB : Bd κ A s (lA κ q157 ((r (2 * 0)) * 5) F158 :: gO q156 (r (2 * 0)) (r (2 * 0 + 1)) q157 :: lA κ q154 ((r (2 * 0)) * 5) F155 :: gO q153 (r (2 * 0)) (r (2 * 0 + 1)) q154 :: lA κ b6 ((r (2 * 0 + 1)) * 5) F11 :: mw κ a r f q (tb a) w) H locs := Bd_del 5 hB
                        replace hB : Bd κ A s (lA κ q157 ((r (2 * 0)) * 5) F158 :: gO q156 (r (2 * 0)) (r (2 * 0 + 1)) q157 :: lA κ q154 ((r (2 * 0)) * 5) F155 :: gO q153 (r (2 * 0)) (r (2 * 0 + 1)) q154 :: mw κ a r f q (tb a) w) H locs := Bd_del 4 hB
                        replace hB : Bd κ A s (lA κ q157 ((r (2 * 0)) * 5) F158 :: gO q156 (r (2 * 0)) (r (2 * 0 + 1)) q157 :: lA κ q154 ((r (2 * 0)) * 5) F155 :: mw κ a r f q (tb a) w) H locs := Bd_del 3 hB
                        replace hB : Bd κ A s (lA κ q157 ((r (2 * 0)) * 5) F158 :: gO q156 (r (2 * 0)) (r (2 * 0 + 1)) q157 :: mw κ a r f q (tb a) w) H locs := Bd_del 2 hB
                        replace hB : Bd κ A s (lA κ q157 ((r (2 * 0)) * 5) F158 :: mw κ a r f q (tb a) w) H locs := Bd_del 1 hB
                        replace hB : Bd κ A s (mw κ a r f q (tb a) w) H locs := Bd_del 0 hB
                        rw [← hQ]
                        exact end_i hX hB hA3 rfl rfl ⟨0, rfl, (Or.inl rfl), rfl⟩ (Nat.le_of_ble_eq_true rfl) (Nat.le_of_ble_eq_true rfl) dX10_isSoundNow_196
                      · refine lv_iconst (v := 1) hx hb dX10_isSoundNow_191 (by decide) ?_
                        refine lv_goto (tgt := 196) hx hb dX10_isSoundNow_192 (by decide) ?_
                        replace hB : Bd κ A s (lA κ q157 ((r (2 * 0)) * 5) F158 :: gO q156 (r (2 * 0)) (r (2 * 0 + 1)) q157 :: lA κ q154 ((r (2 * 0)) * 5) F155 :: gO q153 (r (2 * 0)) (r (2 * 0 + 1)) q154 :: lA κ b6 ((r (2 * 0 + 1)) * 5) F11 :: gO g5 (r (2 * 0 + 1)) (r (2 * 0 + 1)) b6 :: lA κ b8 ((r (2 * 0)) * 5) F12 :: gO g7 (r (2 * 0)) (r (2 * 0)) b8 :: lA κ b10 ((r (2 * 0)) * 5) F13 :: gO g9 (r (2 * 0)) (r (2 * 0 + 1)) b10 :: mw κ a r f q (tb a) w) H locs := Bd_del 10 hB
                        replace hB : Bd κ A s (lA κ q157 ((r (2 * 0)) * 5) F158 :: gO q156 (r (2 * 0)) (r (2 * 0 + 1)) q157 :: lA κ q154 ((r (2 * 0)) * 5) F155 :: gO q153 (r (2 * 0)) (r (2 * 0 + 1)) q154 :: lA κ b6 ((r (2 * 0 + 1)) * 5) F11 :: gO g5 (r (2 * 0 + 1)) (r (2 * 0 + 1)) b6 :: lA κ b8 ((r (2 * 0)) * 5) F12 :: gO g7 (r (2 * 0)) (r (2 * 0)) b8 :: lA κ b10 ((r (2 * 0)) * 5) F13 :: mw κ a r f q (tb a) w) H locs := Bd_del 9 hB
                        replace hB : Bd κ A s (lA κ q157 ((r (2 * 0)) * 5) F158 :: gO q156 (r (2 * 0)) (r (2 * 0 + 1)) q157 :: lA κ q154 ((r (2 * 0)) * 5) F155 :: gO q153 (r (2 * 0)) (r (2 * 0 + 1)) q154 :: lA κ b6 ((r (2 * 0 + 1)) * 5) F11 :: gO g5 (r (2 * 0 + 1)) (r (2 * 0 + 1)) b6 :: lA κ b8 ((r (2 * 0)) * 5) F12 :: gO g7 (r (2 * 0)) (r (2 * 0)) b8 :: mw κ a r f q (tb a) w) H locs := Bd_del 8 hB
                        replace hB : Bd κ A s (lA κ q157 ((r (2 * 0)) * 5) F158 :: gO q156 (r (2 * 0)) (r (2 * 0 + 1)) q157 :: lA κ q154 ((r (2 * 0)) * 5) F155 :: gO q153 (r (2 * 0)) (r (2 * 0 + 1)) q154 :: lA κ b6 ((r (2 * 0 + 1)) * 5) F11 :: gO g5 (r (2 * 0 + 1)) (r (2 * 0 + 1)) b6 :: lA κ b8 ((r (2 * 0)) * 5) F12 :: mw κ a r f q (tb a) w) H locs := Bd_del 7 hB
                        replace hB : Bd κ A s (lA κ q157 ((r (2 * 0)) * 5) F158 :: gO q156 (r (2 * 0)) (r (2 * 0 + 1)) q157 :: lA κ q154 ((r (2 * 0)) * 5) F155 :: gO q153 (r (2 * 0)) (r (2 * 0 + 1)) q154 :: lA κ b6 ((r (2 * 0 + 1)) * 5) F11 :: gO g5 (r (2 * 0 + 1)) (r (2 * 0 + 1)) b6 :: mw κ a r f q (tb a) w) H locs := Bd_del 6 hB
                        replace hB : Bd κ A s (lA κ q157 ((r (2 * 0)) * 5) F158 :: gO q156 (r (2 * 0)) (r (2 * 0 + 1)) q157 :: lA κ q154 ((r (2 * 0)) * 5) F155 :: gO q153 (r (2 * 0)) (r (2 * 0 + 1)) q154 :: lA κ b6 ((r (2 * 0 + 1)) * 5) F11 :: mw κ a r f q (tb a) w) H locs := Bd_del 5 hB
                        replace hB : Bd κ A s (lA κ q157 ((r (2 * 0)) * 5) F158 :: gO q156 (r (2 * 0)) (r (2 * 0 + 1)) q157 :: lA κ q154 ((r (2 * 0)) * 5) F155 :: gO q153 (r (2 * 0)) (r (2 * 0 + 1)) q154 :: mw κ a r f q (tb a) w) H locs := Bd_del 4 hB
                        replace hB : Bd κ A s (lA κ q157 ((r (2 * 0)) * 5) F158 :: gO q156 (r (2 * 0)) (r (2 * 0 + 1)) q157 :: lA κ q154 ((r (2 * 0)) * 5) F155 :: mw κ a r f q (tb a) w) H locs := Bd_del 3 hB
                        replace hB : Bd κ A s (lA κ q157 ((r (2 * 0)) * 5) F158 :: gO q156 (r (2 * 0)) (r (2 * 0 + 1)) q157 :: mw κ a r f q (tb a) w) H locs := Bd_del 2 hB
                        replace hB : Bd κ A s (lA κ q157 ((r (2 * 0)) * 5) F158 :: mw κ a r f q (tb a) w) H locs := Bd_del 1 hB
                        replace hB : Bd κ A s (mw κ a r f q (tb a) w) H locs := Bd_del 0 hB
                        rw [← hQ]
                        exact end_i hX hB hA3 rfl rfl ⟨1, rfl, (Or.inr rfl), rfl⟩ (Nat.le_of_ble_eq_true rfl) (Nat.le_of_ble_eq_true rfl) dX10_isSoundNow_196
                · refine W.eq (g2 := F0 m 152 ls [.int 1, .int y3_42]) rfl ?_
                  refine lv_if_eq (tgt := 159) hx hb dX10_isSoundNow_152 (by decide) (fun c166 => False.elim (by revert c166; decide)) (fun _ => ?_)
                  refine lv_iconst (v := 1) hx hb dX10_isSoundNow_155 (by decide) ?_
                  refine lv_goto (tgt := 160) hx hb dX10_isSoundNow_156 (by decide) ?_
                  refine lv_iand hx hb dX10_isSoundNow_160 ?_
                  refine lv_istore_n (lv' := [(3, .int (y3_42 &&& 1)), (6, .int (nI y6_42)), (4, .long y4_42), (2, .ref q4), (1, .ref (a (2 + 2 * 0))), (0, .ref (a 0))]) hx hb dX10_isSoundNow_161 rfl hl (by decide) rfl (fun ls hl => ?_)
                  refine lv_iload_n hx hb dX10_isSoundNow_162 rfl (lv_at hl 0 rfl) ?_
                  refine lv_if_eq (tgt := 195) hx hb dX10_isSoundNow_163 (by decide) (fun c167 => ?_) (fun c167 => ?_)
                  · refine lv_iconst (v := 0) hx hb dX10_isSoundNow_195 (by decide) ?_
                    replace hB : Bd κ A s (lA κ q157 ((r (2 * 0)) * 5) F158 :: gO q156 (r (2 * 0)) (r (2 * 0 + 1)) q157 :: lA κ q154 ((r (2 * 0)) * 5) F155 :: gO q153 (r (2 * 0)) (r (2 * 0 + 1)) q154 :: lA κ b6 ((r (2 * 0 + 1)) * 5) F11 :: gO g5 (r (2 * 0 + 1)) (r (2 * 0 + 1)) b6 :: lA κ b8 ((r (2 * 0)) * 5) F12 :: gO g7 (r (2 * 0)) (r (2 * 0)) b8 :: lA κ b10 ((r (2 * 0)) * 5) F13 :: gO g9 (r (2 * 0)) (r (2 * 0 + 1)) b10 :: mw κ a r f q (tb a) w) H locs := Bd_del 10 hB
                    replace hB : Bd κ A s (lA κ q157 ((r (2 * 0)) * 5) F158 :: gO q156 (r (2 * 0)) (r (2 * 0 + 1)) q157 :: lA κ q154 ((r (2 * 0)) * 5) F155 :: gO q153 (r (2 * 0)) (r (2 * 0 + 1)) q154 :: lA κ b6 ((r (2 * 0 + 1)) * 5) F11 :: gO g5 (r (2 * 0 + 1)) (r (2 * 0 + 1)) b6 :: lA κ b8 ((r (2 * 0)) * 5) F12 :: gO g7 (r (2 * 0)) (r (2 * 0)) b8 :: lA κ b10 ((r (2 * 0)) * 5) F13 :: mw κ a r f q (tb a) w) H locs := Bd_del 9 hB
                    replace hB : Bd κ A s (lA κ q157 ((r (2 * 0)) * 5) F158 :: gO q156 (r (2 * 0)) (r (2 * 0 + 1)) q157 :: lA κ q154 ((r (2 * 0)) * 5) F155 :: gO q153 (r (2 * 0)) (r (2 * 0 + 1)) q154 :: lA κ b6 ((r (2 * 0 + 1)) * 5) F11 :: gO g5 (r (2 * 0 + 1)) (r (2 * 0 + 1)) b6 :: lA κ b8 ((r (2 * 0)) * 5) F12 :: gO g7 (r (2 * 0)) (r (2 * 0)) b8 :: mw κ a r f q (tb a) w) H locs := Bd_del 8 hB
                    replace hB : Bd κ A s (lA κ q157 ((r (2 * 0)) * 5) F158 :: gO q156 (r (2 * 0)) (r (2 * 0 + 1)) q157 :: lA κ q154 ((r (2 * 0)) * 5) F155 :: gO q153 (r (2 * 0)) (r (2 * 0 + 1)) q154 :: lA κ b6 ((r (2 * 0 + 1)) * 5) F11 :: gO g5 (r (2 * 0 + 1)) (r (2 * 0 + 1)) b6 :: lA κ b8 ((r (2 * 0)) * 5) F12 :: mw κ a r f q (tb a) w) H locs := Bd_del 7 hB
                    replace hB : Bd κ A s (lA κ q157 ((r (2 * 0)) * 5) F158 :: gO q156 (r (2 * 0)) (r (2 * 0 + 1)) q157 :: lA κ q154 ((r (2 * 0)) * 5) F155 :: gO q153 (r (2 * 0)) (r (2 * 0 + 1)) q154 :: lA κ b6 ((r (2 * 0 + 1)) * 5) F11 :: gO g5 (r (2 * 0 + 1)) (r (2 * 0 + 1)) b6 :: mw κ a r f q (tb a) w) H locs := Bd_del 6 hB
                    replace hB : Bd κ A s (lA κ q157 ((r (2 * 0)) * 5) F158 :: gO q156 (r (2 * 0)) (r (2 * 0 + 1)) q157 :: lA κ q154 ((r (2 * 0)) * 5) F155 :: gO q153 (r (2 * 0)) (r (2 * 0 + 1)) q154 :: lA κ b6 ((r (2 * 0 + 1)) * 5) F11 :: mw κ a r f q (tb a) w) H locs := Bd_del 5 hB
                    replace hB : Bd κ A s (lA κ q157 ((r (2 * 0)) * 5) F158 :: gO q156 (r (2 * 0)) (r (2 * 0 + 1)) q157 :: lA κ q154 ((r (2 * 0)) * 5) F155 :: gO q153 (r (2 * 0)) (r (2 * 0 + 1)) q154 :: mw κ a r f q (tb a) w) H locs := Bd_del 4 hB
                    replace hB : Bd κ A s (lA κ q157 ((r (2 * 0)) * 5) F158 :: gO q156 (r (2 * 0)) (r (2 * 0 + 1)) q157 :: lA κ q154 ((r (2 * 0)) * 5) F155 :: mw κ a r f q (tb a) w) H locs := Bd_del 3 hB
                    replace hB : Bd κ A s (lA κ q157 ((r (2 * 0)) * 5) F158 :: gO q156 (r (2 * 0)) (r (2 * 0 + 1)) q157 :: mw κ a r f q (tb a) w) H locs := Bd_del 2 hB
                    replace hB : Bd κ A s (lA κ q157 ((r (2 * 0)) * 5) F158 :: mw κ a r f q (tb a) w) H locs := Bd_del 1 hB
                    replace hB : Bd κ A s (mw κ a r f q (tb a) w) H locs := Bd_del 0 hB
                    rw [← hQ]
                    exact end_i hX hB hA3 rfl rfl ⟨0, rfl, (Or.inl rfl), rfl⟩ (Nat.le_of_ble_eq_true rfl) (Nat.le_of_ble_eq_true rfl) dX10_isSoundNow_196
                  · refine lv_aload_n hx hb dX10_isSoundNow_166 rfl (lv_at hl 4 rfl) ?_
                    refine gf (k0 := 2 + 2 * 0 + 11) hX hB (mwG (i := 0) (a := a) (r := r) (f := f) (q := q) (T := tb a) (w := w) (by omega)) rfl in7 0 (by decide) wm_5_148 rfl rfl dX10_isSoundNow_167 ?_
                    refine lv_aload_n hx hb dX10_isSoundNow_170 rfl (lv_at hl 4 rfl) ?_
                    refine gf (k0 := 2 + 2 * 0 + 11) hX hB (mwG (i := 0) (a := a) (r := r) (f := f) (q := q) (T := tb a) (w := w) (by omega)) rfl in7 1 (by decide) wm_5_152 rfl rfl dX10_isSoundNow_171 ?_
                    refine lv_icmp_ne (tgt := 191) hx hb dX10_isSoundNow_174 (by decide) (fun c168 => ?_) (fun c168 => ?_)
                    · rw [neqP (a := r (2 * 0)) (b := r (2 * 0 + 1)) (by omega) (by omega)] at c168
                      refine lv_iconst (v := 1) hx hb dX10_isSoundNow_191 (by decide) ?_
                      refine lv_goto (tgt := 196) hx hb dX10_isSoundNow_192 (by decide) ?_
                      replace hB : Bd κ A s (lA κ q157 ((r (2 * 0)) * 5) F158 :: gO q156 (r (2 * 0)) (r (2 * 0 + 1)) q157 :: lA κ q154 ((r (2 * 0)) * 5) F155 :: gO q153 (r (2 * 0)) (r (2 * 0 + 1)) q154 :: lA κ b6 ((r (2 * 0 + 1)) * 5) F11 :: gO g5 (r (2 * 0 + 1)) (r (2 * 0 + 1)) b6 :: lA κ b8 ((r (2 * 0)) * 5) F12 :: gO g7 (r (2 * 0)) (r (2 * 0)) b8 :: lA κ b10 ((r (2 * 0)) * 5) F13 :: gO g9 (r (2 * 0)) (r (2 * 0 + 1)) b10 :: mw κ a r f q (tb a) w) H locs := Bd_del 10 hB
                      replace hB : Bd κ A s (lA κ q157 ((r (2 * 0)) * 5) F158 :: gO q156 (r (2 * 0)) (r (2 * 0 + 1)) q157 :: lA κ q154 ((r (2 * 0)) * 5) F155 :: gO q153 (r (2 * 0)) (r (2 * 0 + 1)) q154 :: lA κ b6 ((r (2 * 0 + 1)) * 5) F11 :: gO g5 (r (2 * 0 + 1)) (r (2 * 0 + 1)) b6 :: lA κ b8 ((r (2 * 0)) * 5) F12 :: gO g7 (r (2 * 0)) (r (2 * 0)) b8 :: lA κ b10 ((r (2 * 0)) * 5) F13 :: mw κ a r f q (tb a) w) H locs := Bd_del 9 hB
                      replace hB : Bd κ A s (lA κ q157 ((r (2 * 0)) * 5) F158 :: gO q156 (r (2 * 0)) (r (2 * 0 + 1)) q157 :: lA κ q154 ((r (2 * 0)) * 5) F155 :: gO q153 (r (2 * 0)) (r (2 * 0 + 1)) q154 :: lA κ b6 ((r (2 * 0 + 1)) * 5) F11 :: gO g5 (r (2 * 0 + 1)) (r (2 * 0 + 1)) b6 :: lA κ b8 ((r (2 * 0)) * 5) F12 :: gO g7 (r (2 * 0)) (r (2 * 0)) b8 :: mw κ a r f q (tb a) w) H locs := Bd_del 8 hB
                      replace hB : Bd κ A s (lA κ q157 ((r (2 * 0)) * 5) F158 :: gO q156 (r (2 * 0)) (r (2 * 0 + 1)) q157 :: lA κ q154 ((r (2 * 0)) * 5) F155 :: gO q153 (r (2 * 0)) (r (2 * 0 + 1)) q154 :: lA κ b6 ((r (2 * 0 + 1)) * 5) F11 :: gO g5 (r (2 * 0 + 1)) (r (2 * 0 + 1)) b6 :: lA κ b8 ((r (2 * 0)) * 5) F12 :: mw κ a r f q (tb a) w) H locs := Bd_del 7 hB
                      replace hB : Bd κ A s (lA κ q157 ((r (2 * 0)) * 5) F158 :: gO q156 (r (2 * 0)) (r (2 * 0 + 1)) q157 :: lA κ q154 ((r (2 * 0)) * 5) F155 :: gO q153 (r (2 * 0)) (r (2 * 0 + 1)) q154 :: lA κ b6 ((r (2 * 0 + 1)) * 5) F11 :: gO g5 (r (2 * 0 + 1)) (r (2 * 0 + 1)) b6 :: mw κ a r f q (tb a) w) H locs := Bd_del 6 hB
                      replace hB : Bd κ A s (lA κ q157 ((r (2 * 0)) * 5) F158 :: gO q156 (r (2 * 0)) (r (2 * 0 + 1)) q157 :: lA κ q154 ((r (2 * 0)) * 5) F155 :: gO q153 (r (2 * 0)) (r (2 * 0 + 1)) q154 :: lA κ b6 ((r (2 * 0 + 1)) * 5) F11 :: mw κ a r f q (tb a) w) H locs := Bd_del 5 hB
                      replace hB : Bd κ A s (lA κ q157 ((r (2 * 0)) * 5) F158 :: gO q156 (r (2 * 0)) (r (2 * 0 + 1)) q157 :: lA κ q154 ((r (2 * 0)) * 5) F155 :: gO q153 (r (2 * 0)) (r (2 * 0 + 1)) q154 :: mw κ a r f q (tb a) w) H locs := Bd_del 4 hB
                      replace hB : Bd κ A s (lA κ q157 ((r (2 * 0)) * 5) F158 :: gO q156 (r (2 * 0)) (r (2 * 0 + 1)) q157 :: lA κ q154 ((r (2 * 0)) * 5) F155 :: mw κ a r f q (tb a) w) H locs := Bd_del 3 hB
                      replace hB : Bd κ A s (lA κ q157 ((r (2 * 0)) * 5) F158 :: gO q156 (r (2 * 0)) (r (2 * 0 + 1)) q157 :: mw κ a r f q (tb a) w) H locs := Bd_del 2 hB
                      replace hB : Bd κ A s (lA κ q157 ((r (2 * 0)) * 5) F158 :: mw κ a r f q (tb a) w) H locs := Bd_del 1 hB
                      replace hB : Bd κ A s (mw κ a r f q (tb a) w) H locs := Bd_del 0 hB
                      rw [← hQ]
                      exact end_i hX hB hA3 rfl rfl ⟨1, rfl, (Or.inr rfl), rfl⟩ (Nat.le_of_ble_eq_true rfl) (Nat.le_of_ble_eq_true rfl) dX10_isSoundNow_196
                    · rw [neqP (a := r (2 * 0)) (b := r (2 * 0 + 1)) (by omega) (by omega)] at c168
                      refine lv_aload_n hx hb dX10_isSoundNow_177 rfl (lv_at hl 4 rfl) ?_
                      refine call_S (n := 1) (As := [.ref (a (2 + 2 * 0))]) (rest := []) hX hB (k_X10_determinantOf κ l (lA κ q157 ((r (2 * 0)) * 5) F158 :: gO q156 (r (2 * 0)) (r (2 * 0 + 1)) q157 :: lA κ q154 ((r (2 * 0)) * 5) F155 :: gO q153 (r (2 * 0)) (r (2 * 0 + 1)) q154 :: lA κ b6 ((r (2 * 0 + 1)) * 5) F11 :: gO g5 (r (2 * 0 + 1)) (r (2 * 0 + 1)) b6 :: lA κ b8 ((r (2 * 0)) * 5) F12 :: gO g7 (r (2 * 0)) (r (2 * 0)) b8 :: lA κ b10 ((r (2 * 0)) * 5) F13 :: gO g9 (r (2 * 0)) (r (2 * 0 + 1)) b10 :: (q4, .inr (10, [.ref g9, .ref g7, .ref g5, .int S14, .int S15, .int (nI K16), .int G17])) :: mw κ a r f q (tb a) w) (2 + 2 * 0 + 11) (3 + 2 * 0 + 11) (a (2 + 2 * 0)) (a (3 + 2 * 0)) (r (2 * 0)) (r (2 * 0 + 1)) (f 0) (mwG (i := 0) (a := a) (r := r) (f := f) (q := q) (T := tb a) (w := w) (by omega)) (mwA (i := 0) (a := a) (r := r) (f := f) (q := q) (T := tb a) (w := w) (by omega)) (mok_shp (i := 0) hm (by omega)) (by omega)) ⟨by decide, by decide, by decide +kernel⟩ wm_7_72 wm_7_73 wm_1_6 wm_7_74 ⟨Nat.le_of_ble_eq_true rfl, Nat.le_of_ble_eq_true rfl⟩ ⟨Nat.le_of_ble_eq_true rfl, Nat.le_of_ble_eq_true rfl⟩ rfl hl.1 rfl (Nat.le_of_ble_eq_true rfl) dX10_isSoundNow_178 (fun o w' H locs hp hB => ?_)
                      obtain ⟨rfl, hw9⟩ := hp
                      replace hB : Bd κ A s (lA κ q157 ((r (2 * 0)) * 5) F158 :: gO q156 (r (2 * 0)) (r (2 * 0 + 1)) q157 :: lA κ q154 ((r (2 * 0)) * 5) F155 :: gO q153 (r (2 * 0)) (r (2 * 0 + 1)) q154 :: lA κ b6 ((r (2 * 0 + 1)) * 5) F11 :: gO g5 (r (2 * 0 + 1)) (r (2 * 0 + 1)) b6 :: lA κ b8 ((r (2 * 0)) * 5) F12 :: gO g7 (r (2 * 0)) (r (2 * 0)) b8 :: lA κ b10 ((r (2 * 0)) * 5) F13 :: gO g9 (r (2 * 0)) (r (2 * 0 + 1)) b10 :: (q4, .inr (10, [.ref g9, .ref g7, .ref g5, .int S14, .int S15, .int (nI K16), .int G17])) :: mw κ a r f q (tb a) w) H locs := by rw [hw9] at hB; exact hB
                      refine W.eq (g2 := F0 m 181 ls [.long (mnv (f 0) (r (2 * 0 + 1)) (r (2 * 0)) (2 ^ (r (2 * 0)) - 1) (2 ^ (r (2 * 0 + 1)) - 1))]) rfl ?_
                      refine lv_aload_n hx hb dX10_isSoundNow_181 rfl (lv_at hl 4 rfl) ?_
                      refine lv_iconst (v := 0) hx hb dX10_isSoundNow_182 (by decide) ?_
                      refine lv_iconst (v := 0) hx hb dX10_isSoundNow_183 (by decide) ?_
                      refine call_S (n := 3) (As := [.ref (a (2 + 2 * 0)), .int 0, .int 0]) (rest := [.long (mnv (f 0) (r (2 * 0 + 1)) (r (2 * 0)) (2 ^ (r (2 * 0)) - 1) (2 ^ (r (2 * 0 + 1)) - 1))]) hX hB (k_X10_bySequences κ l (lA κ q157 ((r (2 * 0)) * 5) F158 :: gO q156 (r (2 * 0)) (r (2 * 0 + 1)) q157 :: lA κ q154 ((r (2 * 0)) * 5) F155 :: gO q153 (r (2 * 0)) (r (2 * 0 + 1)) q154 :: lA κ b6 ((r (2 * 0 + 1)) * 5) F11 :: gO g5 (r (2 * 0 + 1)) (r (2 * 0 + 1)) b6 :: lA κ b8 ((r (2 * 0)) * 5) F12 :: gO g7 (r (2 * 0)) (r (2 * 0)) b8 :: lA κ b10 ((r (2 * 0)) * 5) F13 :: gO g9 (r (2 * 0)) (r (2 * 0 + 1)) b10 :: (q4, .inr (10, [.ref g9, .ref g7, .ref g5, .int S14, .int S15, .int (nI K16), .int G17])) :: mw κ a r f q (tb a) w) (2 + 2 * 0 + 11) (3 + 2 * 0 + 11) (a (2 + 2 * 0)) (a (3 + 2 * 0)) (r (2 * 0)) (r (2 * 0 + 1)) (f 0) 0 0 0 (mwG (i := 0) (a := a) (r := r) (f := f) (q := q) (T := tb a) (w := w) (by omega)) (mwA (i := 0) (a := a) (r := r) (f := f) (q := q) (T := tb a) (w := w) (by omega)) (mok_shp (i := 0) hm (by omega)) rfl (by omega)) ⟨by decide, by decide, by decide +kernel⟩ wm_7_84 wm_7_85 wm_1_6 wm_7_86 ⟨Nat.le_of_ble_eq_true rfl, Nat.le_of_ble_eq_true rfl⟩ ⟨Nat.le_of_ble_eq_true rfl, Nat.le_of_ble_eq_true rfl⟩ rfl hl.1 rfl (Nat.le_of_ble_eq_true rfl) dX10_isSoundNow_184 (fun o w' H locs hp hB => ?_)
                      obtain ⟨z169, rfl, hw9⟩ := hp
                      replace hB : Bd κ A s (lA κ q157 ((r (2 * 0)) * 5) F158 :: gO q156 (r (2 * 0)) (r (2 * 0 + 1)) q157 :: lA κ q154 ((r (2 * 0)) * 5) F155 :: gO q153 (r (2 * 0)) (r (2 * 0 + 1)) q154 :: lA κ b6 ((r (2 * 0 + 1)) * 5) F11 :: gO g5 (r (2 * 0 + 1)) (r (2 * 0 + 1)) b6 :: lA κ b8 ((r (2 * 0)) * 5) F12 :: gO g7 (r (2 * 0)) (r (2 * 0)) b8 :: lA κ b10 ((r (2 * 0)) * 5) F13 :: gO g9 (r (2 * 0)) (r (2 * 0 + 1)) b10 :: (q4, .inr (10, [.ref g9, .ref g7, .ref g5, .int S14, .int S15, .int (nI K16), .int G17])) :: mw κ a r f q (tb a) w) H locs := by rw [hw9] at hB; exact hB
                      refine W.eq (g2 := F0 m 187 ls [.long z169, .long (mnv (f 0) (r (2 * 0 + 1)) (r (2 * 0)) (2 ^ (r (2 * 0)) - 1) (2 ^ (r (2 * 0 + 1)) - 1))]) rfl ?_
                      refine W.lcmp hx hb dX10_isSoundNow_187 ?_
                      refine lv_if_ne (tgt := 195) hx hb dX10_isSoundNow_188 (by decide) (fun c170 => ?_) (fun c170 => ?_)
                      · refine lv_iconst (v := 0) hx hb dX10_isSoundNow_195 (by decide) ?_
                        replace hB : Bd κ A s (lA κ q157 ((r (2 * 0)) * 5) F158 :: gO q156 (r (2 * 0)) (r (2 * 0 + 1)) q157 :: lA κ q154 ((r (2 * 0)) * 5) F155 :: gO q153 (r (2 * 0)) (r (2 * 0 + 1)) q154 :: lA κ b6 ((r (2 * 0 + 1)) * 5) F11 :: gO g5 (r (2 * 0 + 1)) (r (2 * 0 + 1)) b6 :: lA κ b8 ((r (2 * 0)) * 5) F12 :: gO g7 (r (2 * 0)) (r (2 * 0)) b8 :: lA κ b10 ((r (2 * 0)) * 5) F13 :: gO g9 (r (2 * 0)) (r (2 * 0 + 1)) b10 :: mw κ a r f q (tb a) w) H locs := Bd_del 10 hB
                        replace hB : Bd κ A s (lA κ q157 ((r (2 * 0)) * 5) F158 :: gO q156 (r (2 * 0)) (r (2 * 0 + 1)) q157 :: lA κ q154 ((r (2 * 0)) * 5) F155 :: gO q153 (r (2 * 0)) (r (2 * 0 + 1)) q154 :: lA κ b6 ((r (2 * 0 + 1)) * 5) F11 :: gO g5 (r (2 * 0 + 1)) (r (2 * 0 + 1)) b6 :: lA κ b8 ((r (2 * 0)) * 5) F12 :: gO g7 (r (2 * 0)) (r (2 * 0)) b8 :: lA κ b10 ((r (2 * 0)) * 5) F13 :: mw κ a r f q (tb a) w) H locs := Bd_del 9 hB
                        replace hB : Bd κ A s (lA κ q157 ((r (2 * 0)) * 5) F158 :: gO q156 (r (2 * 0)) (r (2 * 0 + 1)) q157 :: lA κ q154 ((r (2 * 0)) * 5) F155 :: gO q153 (r (2 * 0)) (r (2 * 0 + 1)) q154 :: lA κ b6 ((r (2 * 0 + 1)) * 5) F11 :: gO g5 (r (2 * 0 + 1)) (r (2 * 0 + 1)) b6 :: lA κ b8 ((r (2 * 0)) * 5) F12 :: gO g7 (r (2 * 0)) (r (2 * 0)) b8 :: mw κ a r f q (tb a) w) H locs := Bd_del 8 hB
                        replace hB : Bd κ A s (lA κ q157 ((r (2 * 0)) * 5) F158 :: gO q156 (r (2 * 0)) (r (2 * 0 + 1)) q157 :: lA κ q154 ((r (2 * 0)) * 5) F155 :: gO q153 (r (2 * 0)) (r (2 * 0 + 1)) q154 :: lA κ b6 ((r (2 * 0 + 1)) * 5) F11 :: gO g5 (r (2 * 0 + 1)) (r (2 * 0 + 1)) b6 :: lA κ b8 ((r (2 * 0)) * 5) F12 :: mw κ a r f q (tb a) w) H locs := Bd_del 7 hB
                        replace hB : Bd κ A s (lA κ q157 ((r (2 * 0)) * 5) F158 :: gO q156 (r (2 * 0)) (r (2 * 0 + 1)) q157 :: lA κ q154 ((r (2 * 0)) * 5) F155 :: gO q153 (r (2 * 0)) (r (2 * 0 + 1)) q154 :: lA κ b6 ((r (2 * 0 + 1)) * 5) F11 :: gO g5 (r (2 * 0 + 1)) (r (2 * 0 + 1)) b6 :: mw κ a r f q (tb a) w) H locs := Bd_del 6 hB
                        replace hB : Bd κ A s (lA κ q157 ((r (2 * 0)) * 5) F158 :: gO q156 (r (2 * 0)) (r (2 * 0 + 1)) q157 :: lA κ q154 ((r (2 * 0)) * 5) F155 :: gO q153 (r (2 * 0)) (r (2 * 0 + 1)) q154 :: lA κ b6 ((r (2 * 0 + 1)) * 5) F11 :: mw κ a r f q (tb a) w) H locs := Bd_del 5 hB
                        replace hB : Bd κ A s (lA κ q157 ((r (2 * 0)) * 5) F158 :: gO q156 (r (2 * 0)) (r (2 * 0 + 1)) q157 :: lA κ q154 ((r (2 * 0)) * 5) F155 :: gO q153 (r (2 * 0)) (r (2 * 0 + 1)) q154 :: mw κ a r f q (tb a) w) H locs := Bd_del 4 hB
                        replace hB : Bd κ A s (lA κ q157 ((r (2 * 0)) * 5) F158 :: gO q156 (r (2 * 0)) (r (2 * 0 + 1)) q157 :: lA κ q154 ((r (2 * 0)) * 5) F155 :: mw κ a r f q (tb a) w) H locs := Bd_del 3 hB
                        replace hB : Bd κ A s (lA κ q157 ((r (2 * 0)) * 5) F158 :: gO q156 (r (2 * 0)) (r (2 * 0 + 1)) q157 :: mw κ a r f q (tb a) w) H locs := Bd_del 2 hB
                        replace hB : Bd κ A s (lA κ q157 ((r (2 * 0)) * 5) F158 :: mw κ a r f q (tb a) w) H locs := Bd_del 1 hB
                        replace hB : Bd κ A s (mw κ a r f q (tb a) w) H locs := Bd_del 0 hB
                        rw [← hQ]
                        exact end_i hX hB hA3 rfl rfl ⟨0, rfl, (Or.inl rfl), rfl⟩ (Nat.le_of_ble_eq_true rfl) (Nat.le_of_ble_eq_true rfl) dX10_isSoundNow_196
                      · refine lv_iconst (v := 1) hx hb dX10_isSoundNow_191 (by decide) ?_
                        refine lv_goto (tgt := 196) hx hb dX10_isSoundNow_192 (by decide) ?_
                        replace hB : Bd κ A s (lA κ q157 ((r (2 * 0)) * 5) F158 :: gO q156 (r (2 * 0)) (r (2 * 0 + 1)) q157 :: lA κ q154 ((r (2 * 0)) * 5) F155 :: gO q153 (r (2 * 0)) (r (2 * 0 + 1)) q154 :: lA κ b6 ((r (2 * 0 + 1)) * 5) F11 :: gO g5 (r (2 * 0 + 1)) (r (2 * 0 + 1)) b6 :: lA κ b8 ((r (2 * 0)) * 5) F12 :: gO g7 (r (2 * 0)) (r (2 * 0)) b8 :: lA κ b10 ((r (2 * 0)) * 5) F13 :: gO g9 (r (2 * 0)) (r (2 * 0 + 1)) b10 :: mw κ a r f q (tb a) w) H locs := Bd_del 10 hB
                        replace hB : Bd κ A s (lA κ q157 ((r (2 * 0)) * 5) F158 :: gO q156 (r (2 * 0)) (r (2 * 0 + 1)) q157 :: lA κ q154 ((r (2 * 0)) * 5) F155 :: gO q153 (r (2 * 0)) (r (2 * 0 + 1)) q154 :: lA κ b6 ((r (2 * 0 + 1)) * 5) F11 :: gO g5 (r (2 * 0 + 1)) (r (2 * 0 + 1)) b6 :: lA κ b8 ((r (2 * 0)) * 5) F12 :: gO g7 (r (2 * 0)) (r (2 * 0)) b8 :: lA κ b10 ((r (2 * 0)) * 5) F13 :: mw κ a r f q (tb a) w) H locs := Bd_del 9 hB
                        replace hB : Bd κ A s (lA κ q157 ((r (2 * 0)) * 5) F158 :: gO q156 (r (2 * 0)) (r (2 * 0 + 1)) q157 :: lA κ q154 ((r (2 * 0)) * 5) F155 :: gO q153 (r (2 * 0)) (r (2 * 0 + 1)) q154 :: lA κ b6 ((r (2 * 0 + 1)) * 5) F11 :: gO g5 (r (2 * 0 + 1)) (r (2 * 0 + 1)) b6 :: lA κ b8 ((r (2 * 0)) * 5) F12 :: gO g7 (r (2 * 0)) (r (2 * 0)) b8 :: mw κ a r f q (tb a) w) H locs := Bd_del 8 hB
                        replace hB : Bd κ A s (lA κ q157 ((r (2 * 0)) * 5) F158 :: gO q156 (r (2 * 0)) (r (2 * 0 + 1)) q157 :: lA κ q154 ((r (2 * 0)) * 5) F155 :: gO q153 (r (2 * 0)) (r (2 * 0 + 1)) q154 :: lA κ b6 ((r (2 * 0 + 1)) * 5) F11 :: gO g5 (r (2 * 0 + 1)) (r (2 * 0 + 1)) b6 :: lA κ b8 ((r (2 * 0)) * 5) F12 :: mw κ a r f q (tb a) w) H locs := Bd_del 7 hB
                        replace hB : Bd κ A s (lA κ q157 ((r (2 * 0)) * 5) F158 :: gO q156 (r (2 * 0)) (r (2 * 0 + 1)) q157 :: lA κ q154 ((r (2 * 0)) * 5) F155 :: gO q153 (r (2 * 0)) (r (2 * 0 + 1)) q154 :: lA κ b6 ((r (2 * 0 + 1)) * 5) F11 :: gO g5 (r (2 * 0 + 1)) (r (2 * 0 + 1)) b6 :: mw κ a r f q (tb a) w) H locs := Bd_del 6 hB
                        replace hB : Bd κ A s (lA κ q157 ((r (2 * 0)) * 5) F158 :: gO q156 (r (2 * 0)) (r (2 * 0 + 1)) q157 :: lA κ q154 ((r (2 * 0)) * 5) F155 :: gO q153 (r (2 * 0)) (r (2 * 0 + 1)) q154 :: lA κ b6 ((r (2 * 0 + 1)) * 5) F11 :: mw κ a r f q (tb a) w) H locs := Bd_del 5 hB
                        replace hB : Bd κ A s (lA κ q157 ((r (2 * 0)) * 5) F158 :: gO q156 (r (2 * 0)) (r (2 * 0 + 1)) q157 :: lA κ q154 ((r (2 * 0)) * 5) F155 :: gO q153 (r (2 * 0)) (r (2 * 0 + 1)) q154 :: mw κ a r f q (tb a) w) H locs := Bd_del 4 hB
                        replace hB : Bd κ A s (lA κ q157 ((r (2 * 0)) * 5) F158 :: gO q156 (r (2 * 0)) (r (2 * 0 + 1)) q157 :: lA κ q154 ((r (2 * 0)) * 5) F155 :: mw κ a r f q (tb a) w) H locs := Bd_del 3 hB
                        replace hB : Bd κ A s (lA κ q157 ((r (2 * 0)) * 5) F158 :: gO q156 (r (2 * 0)) (r (2 * 0 + 1)) q157 :: mw κ a r f q (tb a) w) H locs := Bd_del 2 hB
                        replace hB : Bd κ A s (lA κ q157 ((r (2 * 0)) * 5) F158 :: mw κ a r f q (tb a) w) H locs := Bd_del 1 hB
                        replace hB : Bd κ A s (mw κ a r f q (tb a) w) H locs := Bd_del 0 hB
                        rw [← hQ]
                        exact end_i hX hB hA3 rfl rfl ⟨1, rfl, (Or.inr rfl), rfl⟩ (Nat.le_of_ble_eq_true rfl) (Nat.le_of_ble_eq_true rfl) dX10_isSoundNow_196
            · rw [nleP (a := r (2 * 0)) (b := y6_42) (by omega) (by omega)] at c145
              refine lv_iload hx hb dX10_isSoundNow_58 (lv_at hl 0 rfl) ?_
              refine lv_aload_n hx hb dX10_isSoundNow_60 rfl (lv_at hl 4 rfl) ?_
              refine gf (k0 := 2 + 2 * 0 + 7) hX hB (mwG (i := 0) (a := a) (r := r) (f := f) (q := q) (T := tb a) (w := w) (by omega)) rfl in7 1 (by decide) wm_5_152 rfl rfl dX10_isSoundNow_61 ?_
              refine lv_icmp_ge (tgt := 111) hx hb dX10_isSoundNow_64 (by decide) (fun c171 => ?_) (fun c171 => ?_)
              · rw [nleP (a := r (2 * 0 + 1)) (b := y6_42) (by omega) (by omega)] at c171
                refine lv_iload_n hx hb dX10_isSoundNow_111 rfl (lv_at hl 2 rfl) ?_
                refine lv_aload_n hx hb dX10_isSoundNow_112 rfl (lv_at hl 3 rfl) ?_
                refine gf (k0 := 6) hX hB rfl rfl in9 6 (by decide) wm_6_230 rfl rfl dX10_isSoundNow_113 ?_
                refine lv_if_ne (tgt := 155) hx hb dX10_isSoundNow_116 (by decide) (fun c172 => False.elim (c172 c139)) (fun _ => ?_)
                refine lv_aload_n hx hb dX10_isSoundNow_119 rfl (lv_at hl 3 rfl) ?_
                refine gf (k0 := 6) hX hB rfl rfl in9 5 (by decide) wm_6_228 rfl rfl dX10_isSoundNow_120 ?_
                refine lv_aload_n hx hb dX10_isSoundNow_123 rfl (lv_at hl 4 rfl) ?_
                refine call_V (n := 0) (k0 := (2 + 2 * 0 + 7)) (As := []) (rest := [.int (nI K16), .int y3_42]) hX hB (k_X7_rank κ l (lA κ b6 ((r (2 * 0 + 1)) * 5) F11 :: gO g5 (r (2 * 0 + 1)) (r (2 * 0 + 1)) b6 :: lA κ b8 ((r (2 * 0)) * 5) F12 :: gO g7 (r (2 * 0)) (r (2 * 0)) b8 :: lA κ b10 ((r (2 * 0)) * 5) F13 :: gO g9 (r (2 * 0)) (r (2 * 0 + 1)) b10 :: (q4, .inr (10, [.ref g9, .ref g7, .ref g5, .int S14, .int S15, .int (nI K16), .int G17])) :: mw κ a r f q (tb a) w) (2 + 2 * 0 + 7) (3 + 2 * 0 + 7) (a (2 + 2 * 0)) (a (3 + 2 * 0)) (r (2 * 0)) (r (2 * 0 + 1)) (f 0) (mwG (i := 0) (a := a) (r := r) (f := f) (q := q) (T := tb a) (w := w) (by omega)) (mwA (i := 0) (a := a) (r := r) (f := f) (q := q) (T := tb a) (w := w) (by omega)) (mok_shp (i := 0) hm (by omega))) ⟨rfl, by decide, by decide, by decide +kernel⟩ wm_7_111 wm_7_112 wm_7_113 wm_1_7 wm_7_114 ⟨Nat.le_of_ble_eq_true rfl, Nat.le_of_ble_eq_true rfl⟩ ⟨Nat.le_of_ble_eq_true rfl, Nat.le_of_ble_eq_true rfl⟩ (mwG (i := 0) (a := a) (r := r) (f := f) (q := q) (T := tb a) (w := w) (by omega)) rfl rfl rfl hl.1 rfl (Nat.le_of_ble_eq_true rfl) dX10_isSoundNow_124 (fun o w' H locs hp hB => ?_)
                obtain ⟨x173, rfl, hw9⟩ := hp
                replace hB : Bd κ A s (lA κ b6 ((r (2 * 0 + 1)) * 5) F11 :: gO g5 (r (2 * 0 + 1)) (r (2 * 0 + 1)) b6 :: lA κ b8 ((r (2 * 0)) * 5) F12 :: gO g7 (r (2 * 0)) (r (2 * 0)) b8 :: lA κ b10 ((r (2 * 0)) * 5) F13 :: gO g9 (r (2 * 0)) (r (2 * 0 + 1)) b10 :: (q4, .inr (10, [.ref g9, .ref g7, .ref g5, .int S14, .int S15, .int (nI K16), .int G17])) :: mw κ a r f q (tb a) w) H locs := by rw [hw9] at hB; exact hB
                refine W.eq (g2 := F0 m 127 ls [.int x173, .int (nI K16), .int y3_42]) rfl ?_
                refine lv_icmp_ne (tgt := 159) hx hb dX10_isSoundNow_127 (by decide) (fun c174 => ?_) (fun c174 => ?_)
                · refine lv_iconst (v := 0) hx hb dX10_isSoundNow_159 (by decide) ?_
                  refine lv_iand hx hb dX10_isSoundNow_160 ?_
                  refine lv_istore_n (lv' := [(3, .int (y3_42 &&& 0)), (6, .int (nI y6_42)), (4, .long y4_42), (2, .ref q4), (1, .ref (a (2 + 2 * 0))), (0, .ref (a 0))]) hx hb dX10_isSoundNow_161 rfl hl (by decide) rfl (fun ls hl => ?_)
                  refine lv_iload_n hx hb dX10_isSoundNow_162 rfl (lv_at hl 0 rfl) ?_
                  refine lv_if_eq (tgt := 195) hx hb dX10_isSoundNow_163 (by decide) (fun c175 => ?_) (fun c175 => ?_)
                  · refine lv_iconst (v := 0) hx hb dX10_isSoundNow_195 (by decide) ?_
                    replace hB : Bd κ A s (lA κ b6 ((r (2 * 0 + 1)) * 5) F11 :: gO g5 (r (2 * 0 + 1)) (r (2 * 0 + 1)) b6 :: lA κ b8 ((r (2 * 0)) * 5) F12 :: gO g7 (r (2 * 0)) (r (2 * 0)) b8 :: lA κ b10 ((r (2 * 0)) * 5) F13 :: gO g9 (r (2 * 0)) (r (2 * 0 + 1)) b10 :: mw κ a r f q (tb a) w) H locs := Bd_del 6 hB
                    replace hB : Bd κ A s (lA κ b6 ((r (2 * 0 + 1)) * 5) F11 :: gO g5 (r (2 * 0 + 1)) (r (2 * 0 + 1)) b6 :: lA κ b8 ((r (2 * 0)) * 5) F12 :: gO g7 (r (2 * 0)) (r (2 * 0)) b8 :: lA κ b10 ((r (2 * 0)) * 5) F13 :: mw κ a r f q (tb a) w) H locs := Bd_del 5 hB
                    replace hB : Bd κ A s (lA κ b6 ((r (2 * 0 + 1)) * 5) F11 :: gO g5 (r (2 * 0 + 1)) (r (2 * 0 + 1)) b6 :: lA κ b8 ((r (2 * 0)) * 5) F12 :: gO g7 (r (2 * 0)) (r (2 * 0)) b8 :: mw κ a r f q (tb a) w) H locs := Bd_del 4 hB
                    replace hB : Bd κ A s (lA κ b6 ((r (2 * 0 + 1)) * 5) F11 :: gO g5 (r (2 * 0 + 1)) (r (2 * 0 + 1)) b6 :: lA κ b8 ((r (2 * 0)) * 5) F12 :: mw κ a r f q (tb a) w) H locs := Bd_del 3 hB
                    replace hB : Bd κ A s (lA κ b6 ((r (2 * 0 + 1)) * 5) F11 :: gO g5 (r (2 * 0 + 1)) (r (2 * 0 + 1)) b6 :: mw κ a r f q (tb a) w) H locs := Bd_del 2 hB
                    replace hB : Bd κ A s (lA κ b6 ((r (2 * 0 + 1)) * 5) F11 :: mw κ a r f q (tb a) w) H locs := Bd_del 1 hB
                    replace hB : Bd κ A s (mw κ a r f q (tb a) w) H locs := Bd_del 0 hB
                    rw [← hQ]
                    exact end_i hX hB hA3 rfl rfl ⟨0, rfl, (Or.inl rfl), rfl⟩ (Nat.le_of_ble_eq_true rfl) (Nat.le_of_ble_eq_true rfl) dX10_isSoundNow_196
                  · refine lv_aload_n hx hb dX10_isSoundNow_166 rfl (lv_at hl 4 rfl) ?_
                    refine gf (k0 := 2 + 2 * 0 + 7) hX hB (mwG (i := 0) (a := a) (r := r) (f := f) (q := q) (T := tb a) (w := w) (by omega)) rfl in7 0 (by decide) wm_5_148 rfl rfl dX10_isSoundNow_167 ?_
                    refine lv_aload_n hx hb dX10_isSoundNow_170 rfl (lv_at hl 4 rfl) ?_
                    refine gf (k0 := 2 + 2 * 0 + 7) hX hB (mwG (i := 0) (a := a) (r := r) (f := f) (q := q) (T := tb a) (w := w) (by omega)) rfl in7 1 (by decide) wm_5_152 rfl rfl dX10_isSoundNow_171 ?_
                    refine lv_icmp_ne (tgt := 191) hx hb dX10_isSoundNow_174 (by decide) (fun c176 => ?_) (fun c176 => ?_)
                    · rw [neqP (a := r (2 * 0)) (b := r (2 * 0 + 1)) (by omega) (by omega)] at c176
                      refine lv_iconst (v := 1) hx hb dX10_isSoundNow_191 (by decide) ?_
                      refine lv_goto (tgt := 196) hx hb dX10_isSoundNow_192 (by decide) ?_
                      replace hB : Bd κ A s (lA κ b6 ((r (2 * 0 + 1)) * 5) F11 :: gO g5 (r (2 * 0 + 1)) (r (2 * 0 + 1)) b6 :: lA κ b8 ((r (2 * 0)) * 5) F12 :: gO g7 (r (2 * 0)) (r (2 * 0)) b8 :: lA κ b10 ((r (2 * 0)) * 5) F13 :: gO g9 (r (2 * 0)) (r (2 * 0 + 1)) b10 :: mw κ a r f q (tb a) w) H locs := Bd_del 6 hB
                      replace hB : Bd κ A s (lA κ b6 ((r (2 * 0 + 1)) * 5) F11 :: gO g5 (r (2 * 0 + 1)) (r (2 * 0 + 1)) b6 :: lA κ b8 ((r (2 * 0)) * 5) F12 :: gO g7 (r (2 * 0)) (r (2 * 0)) b8 :: lA κ b10 ((r (2 * 0)) * 5) F13 :: mw κ a r f q (tb a) w) H locs := Bd_del 5 hB
                      replace hB : Bd κ A s (lA κ b6 ((r (2 * 0 + 1)) * 5) F11 :: gO g5 (r (2 * 0 + 1)) (r (2 * 0 + 1)) b6 :: lA κ b8 ((r (2 * 0)) * 5) F12 :: gO g7 (r (2 * 0)) (r (2 * 0)) b8 :: mw κ a r f q (tb a) w) H locs := Bd_del 4 hB
                      replace hB : Bd κ A s (lA κ b6 ((r (2 * 0 + 1)) * 5) F11 :: gO g5 (r (2 * 0 + 1)) (r (2 * 0 + 1)) b6 :: lA κ b8 ((r (2 * 0)) * 5) F12 :: mw κ a r f q (tb a) w) H locs := Bd_del 3 hB
                      replace hB : Bd κ A s (lA κ b6 ((r (2 * 0 + 1)) * 5) F11 :: gO g5 (r (2 * 0 + 1)) (r (2 * 0 + 1)) b6 :: mw κ a r f q (tb a) w) H locs := Bd_del 2 hB
                      replace hB : Bd κ A s (lA κ b6 ((r (2 * 0 + 1)) * 5) F11 :: mw κ a r f q (tb a) w) H locs := Bd_del 1 hB
                      replace hB : Bd κ A s (mw κ a r f q (tb a) w) H locs := Bd_del 0 hB
                      rw [← hQ]
                      exact end_i hX hB hA3 rfl rfl ⟨1, rfl, (Or.inr rfl), rfl⟩ (Nat.le_of_ble_eq_true rfl) (Nat.le_of_ble_eq_true rfl) dX10_isSoundNow_196
                    · rw [neqP (a := r (2 * 0)) (b := r (2 * 0 + 1)) (by omega) (by omega)] at c176
                      refine lv_aload_n hx hb dX10_isSoundNow_177 rfl (lv_at hl 4 rfl) ?_
                      refine call_S (n := 1) (As := [.ref (a (2 + 2 * 0))]) (rest := []) hX hB (k_X10_determinantOf κ l (lA κ b6 ((r (2 * 0 + 1)) * 5) F11 :: gO g5 (r (2 * 0 + 1)) (r (2 * 0 + 1)) b6 :: lA κ b8 ((r (2 * 0)) * 5) F12 :: gO g7 (r (2 * 0)) (r (2 * 0)) b8 :: lA κ b10 ((r (2 * 0)) * 5) F13 :: gO g9 (r (2 * 0)) (r (2 * 0 + 1)) b10 :: (q4, .inr (10, [.ref g9, .ref g7, .ref g5, .int S14, .int S15, .int (nI K16), .int G17])) :: mw κ a r f q (tb a) w) (2 + 2 * 0 + 7) (3 + 2 * 0 + 7) (a (2 + 2 * 0)) (a (3 + 2 * 0)) (r (2 * 0)) (r (2 * 0 + 1)) (f 0) (mwG (i := 0) (a := a) (r := r) (f := f) (q := q) (T := tb a) (w := w) (by omega)) (mwA (i := 0) (a := a) (r := r) (f := f) (q := q) (T := tb a) (w := w) (by omega)) (mok_shp (i := 0) hm (by omega)) (by omega)) ⟨by decide, by decide, by decide +kernel⟩ wm_7_72 wm_7_73 wm_1_6 wm_7_74 ⟨Nat.le_of_ble_eq_true rfl, Nat.le_of_ble_eq_true rfl⟩ ⟨Nat.le_of_ble_eq_true rfl, Nat.le_of_ble_eq_true rfl⟩ rfl hl.1 rfl (Nat.le_of_ble_eq_true rfl) dX10_isSoundNow_178 (fun o w' H locs hp hB => ?_)
                      obtain ⟨rfl, hw9⟩ := hp
                      replace hB : Bd κ A s (lA κ b6 ((r (2 * 0 + 1)) * 5) F11 :: gO g5 (r (2 * 0 + 1)) (r (2 * 0 + 1)) b6 :: lA κ b8 ((r (2 * 0)) * 5) F12 :: gO g7 (r (2 * 0)) (r (2 * 0)) b8 :: lA κ b10 ((r (2 * 0)) * 5) F13 :: gO g9 (r (2 * 0)) (r (2 * 0 + 1)) b10 :: (q4, .inr (10, [.ref g9, .ref g7, .ref g5, .int S14, .int S15, .int (nI K16), .int G17])) :: mw κ a r f q (tb a) w) H locs := by rw [hw9] at hB; exact hB
                      refine W.eq (g2 := F0 m 181 ls [.long (mnv (f 0) (r (2 * 0 + 1)) (r (2 * 0)) (2 ^ (r (2 * 0)) - 1) (2 ^ (r (2 * 0 + 1)) - 1))]) rfl ?_
                      refine lv_aload_n hx hb dX10_isSoundNow_181 rfl (lv_at hl 4 rfl) ?_
                      refine lv_iconst (v := 0) hx hb dX10_isSoundNow_182 (by decide) ?_
                      refine lv_iconst (v := 0) hx hb dX10_isSoundNow_183 (by decide) ?_
                      refine call_S (n := 3) (As := [.ref (a (2 + 2 * 0)), .int 0, .int 0]) (rest := [.long (mnv (f 0) (r (2 * 0 + 1)) (r (2 * 0)) (2 ^ (r (2 * 0)) - 1) (2 ^ (r (2 * 0 + 1)) - 1))]) hX hB (k_X10_bySequences κ l (lA κ b6 ((r (2 * 0 + 1)) * 5) F11 :: gO g5 (r (2 * 0 + 1)) (r (2 * 0 + 1)) b6 :: lA κ b8 ((r (2 * 0)) * 5) F12 :: gO g7 (r (2 * 0)) (r (2 * 0)) b8 :: lA κ b10 ((r (2 * 0)) * 5) F13 :: gO g9 (r (2 * 0)) (r (2 * 0 + 1)) b10 :: (q4, .inr (10, [.ref g9, .ref g7, .ref g5, .int S14, .int S15, .int (nI K16), .int G17])) :: mw κ a r f q (tb a) w) (2 + 2 * 0 + 7) (3 + 2 * 0 + 7) (a (2 + 2 * 0)) (a (3 + 2 * 0)) (r (2 * 0)) (r (2 * 0 + 1)) (f 0) 0 0 0 (mwG (i := 0) (a := a) (r := r) (f := f) (q := q) (T := tb a) (w := w) (by omega)) (mwA (i := 0) (a := a) (r := r) (f := f) (q := q) (T := tb a) (w := w) (by omega)) (mok_shp (i := 0) hm (by omega)) rfl (by omega)) ⟨by decide, by decide, by decide +kernel⟩ wm_7_84 wm_7_85 wm_1_6 wm_7_86 ⟨Nat.le_of_ble_eq_true rfl, Nat.le_of_ble_eq_true rfl⟩ ⟨Nat.le_of_ble_eq_true rfl, Nat.le_of_ble_eq_true rfl⟩ rfl hl.1 rfl (Nat.le_of_ble_eq_true rfl) dX10_isSoundNow_184 (fun o w' H locs hp hB => ?_)
                      obtain ⟨z177, rfl, hw9⟩ := hp
                      replace hB : Bd κ A s (lA κ b6 ((r (2 * 0 + 1)) * 5) F11 :: gO g5 (r (2 * 0 + 1)) (r (2 * 0 + 1)) b6 :: lA κ b8 ((r (2 * 0)) * 5) F12 :: gO g7 (r (2 * 0)) (r (2 * 0)) b8 :: lA κ b10 ((r (2 * 0)) * 5) F13 :: gO g9 (r (2 * 0)) (r (2 * 0 + 1)) b10 :: (q4, .inr (10, [.ref g9, .ref g7, .ref g5, .int S14, .int S15, .int (nI K16), .int G17])) :: mw κ a r f q (tb a) w) H locs := by rw [hw9] at hB; exact hB
                      refine W.eq (g2 := F0 m 187 ls [.long z177, .long (mnv (f 0) (r (2 * 0 + 1)) (r (2 * 0)) (2 ^ (r (2 * 0)) - 1) (2 ^ (r (2 * 0 + 1)) - 1))]) rfl ?_
                      refine W.lcmp hx hb dX10_isSoundNow_187 ?_
                      refine lv_if_ne (tgt := 195) hx hb dX10_isSoundNow_188 (by decide) (fun c178 => ?_) (fun c178 => ?_)
                      · refine lv_iconst (v := 0) hx hb dX10_isSoundNow_195 (by decide) ?_
                        replace hB : Bd κ A s (lA κ b6 ((r (2 * 0 + 1)) * 5) F11 :: gO g5 (r (2 * 0 + 1)) (r (2 * 0 + 1)) b6 :: lA κ b8 ((r (2 * 0)) * 5) F12 :: gO g7 (r (2 * 0)) (r (2 * 0)) b8 :: lA κ b10 ((r (2 * 0)) * 5) F13 :: gO g9 (r (2 * 0)) (r (2 * 0 + 1)) b10 :: mw κ a r f q (tb a) w) H locs := Bd_del 6 hB
                        replace hB : Bd κ A s (lA κ b6 ((r (2 * 0 + 1)) * 5) F11 :: gO g5 (r (2 * 0 + 1)) (r (2 * 0 + 1)) b6 :: lA κ b8 ((r (2 * 0)) * 5) F12 :: gO g7 (r (2 * 0)) (r (2 * 0)) b8 :: lA κ b10 ((r (2 * 0)) * 5) F13 :: mw κ a r f q (tb a) w) H locs := Bd_del 5 hB
                        replace hB : Bd κ A s (lA κ b6 ((r (2 * 0 + 1)) * 5) F11 :: gO g5 (r (2 * 0 + 1)) (r (2 * 0 + 1)) b6 :: lA κ b8 ((r (2 * 0)) * 5) F12 :: gO g7 (r (2 * 0)) (r (2 * 0)) b8 :: mw κ a r f q (tb a) w) H locs := Bd_del 4 hB
                        replace hB : Bd κ A s (lA κ b6 ((r (2 * 0 + 1)) * 5) F11 :: gO g5 (r (2 * 0 + 1)) (r (2 * 0 + 1)) b6 :: lA κ b8 ((r (2 * 0)) * 5) F12 :: mw κ a r f q (tb a) w) H locs := Bd_del 3 hB
                        replace hB : Bd κ A s (lA κ b6 ((r (2 * 0 + 1)) * 5) F11 :: gO g5 (r (2 * 0 + 1)) (r (2 * 0 + 1)) b6 :: mw κ a r f q (tb a) w) H locs := Bd_del 2 hB
                        replace hB : Bd κ A s (lA κ b6 ((r (2 * 0 + 1)) * 5) F11 :: mw κ a r f q (tb a) w) H locs := Bd_del 1 hB
                        replace hB : Bd κ A s (mw κ a r f q (tb a) w) H locs := Bd_del 0 hB
                        rw [← hQ]
                        exact end_i hX hB hA3 rfl rfl ⟨0, rfl, (Or.inl rfl), rfl⟩ (Nat.le_of_ble_eq_true rfl) (Nat.le_of_ble_eq_true rfl) dX10_isSoundNow_196
                      · refine lv_iconst (v := 1) hx hb dX10_isSoundNow_191 (by decide) ?_
                        refine lv_goto (tgt := 196) hx hb dX10_isSoundNow_192 (by decide) ?_
                        replace hB : Bd κ A s (lA κ b6 ((r (2 * 0 + 1)) * 5) F11 :: gO g5 (r (2 * 0 + 1)) (r (2 * 0 + 1)) b6 :: lA κ b8 ((r (2 * 0)) * 5) F12 :: gO g7 (r (2 * 0)) (r (2 * 0)) b8 :: lA κ b10 ((r (2 * 0)) * 5) F13 :: gO g9 (r (2 * 0)) (r (2 * 0 + 1)) b10 :: mw κ a r f q (tb a) w) H locs := Bd_del 6 hB
                        replace hB : Bd κ A s (lA κ b6 ((r (2 * 0 + 1)) * 5) F11 :: gO g5 (r (2 * 0 + 1)) (r (2 * 0 + 1)) b6 :: lA κ b8 ((r (2 * 0)) * 5) F12 :: gO g7 (r (2 * 0)) (r (2 * 0)) b8 :: lA κ b10 ((r (2 * 0)) * 5) F13 :: mw κ a r f q (tb a) w) H locs := Bd_del 5 hB
                        replace hB : Bd κ A s (lA κ b6 ((r (2 * 0 + 1)) * 5) F11 :: gO g5 (r (2 * 0 + 1)) (r (2 * 0 + 1)) b6 :: lA κ b8 ((r (2 * 0)) * 5) F12 :: gO g7 (r (2 * 0)) (r (2 * 0)) b8 :: mw κ a r f q (tb a) w) H locs := Bd_del 4 hB
                        replace hB : Bd κ A s (lA κ b6 ((r (2 * 0 + 1)) * 5) F11 :: gO g5 (r (2 * 0 + 1)) (r (2 * 0 + 1)) b6 :: lA κ b8 ((r (2 * 0)) * 5) F12 :: mw κ a r f q (tb a) w) H locs := Bd_del 3 hB
                        replace hB : Bd κ A s (lA κ b6 ((r (2 * 0 + 1)) * 5) F11 :: gO g5 (r (2 * 0 + 1)) (r (2 * 0 + 1)) b6 :: mw κ a r f q (tb a) w) H locs := Bd_del 2 hB
                        replace hB : Bd κ A s (lA κ b6 ((r (2 * 0 + 1)) * 5) F11 :: mw κ a r f q (tb a) w) H locs := Bd_del 1 hB
                        replace hB : Bd κ A s (mw κ a r f q (tb a) w) H locs := Bd_del 0 hB
                        rw [← hQ]
                        exact end_i hX hB hA3 rfl rfl ⟨1, rfl, (Or.inr rfl), rfl⟩ (Nat.le_of_ble_eq_true rfl) (Nat.le_of_ble_eq_true rfl) dX10_isSoundNow_196
                · refine lv_aload_n hx hb dX10_isSoundNow_130 rfl (lv_at hl 3 rfl) ?_
                  refine gf (k0 := 6) hX hB rfl rfl in9 1 (by decide) wm_6_220 rfl rfl dX10_isSoundNow_131 ?_
                  refine lv_aload_n hx hb dX10_isSoundNow_134 rfl (lv_at hl 4 rfl) ?_
                  refine call_V (n := 1) (k0 := 3) (As := [.ref (a (2 + 2 * 0))]) (rest := [.int y3_42]) hX hB (k_X7_product κ l (lA κ b6 ((r (2 * 0 + 1)) * 5) F11 :: gO g5 (r (2 * 0 + 1)) (r (2 * 0 + 1)) b6 :: lA κ b8 ((r (2 * 0)) * 5) F12 :: gO g7 (r (2 * 0)) (r (2 * 0)) b8 :: lA κ b10 ((r (2 * 0)) * 5) F13 :: gO g9 (r (2 * 0)) (r (2 * 0 + 1)) b10 :: (q4, .inr (10, [.ref g9, .ref g7, .ref g5, .int S14, .int S15, .int (nI K16), .int G17])) :: mw κ a r f q (tb a) w) 3 2 g7 b8 (r (2 * 0)) (r (2 * 0)) F12 (2 + 2 * 0 + 7) (3 + 2 * 0 + 7) (a (2 + 2 * 0)) (a (3 + 2 * 0)) (r (2 * 0)) (r (2 * 0 + 1)) (f 0) rfl rfl ⟨by omega, by omega, by omega, by omega⟩ (mwG (i := 0) (a := a) (r := r) (f := f) (q := q) (T := tb a) (w := w) (by omega)) (mwA (i := 0) (a := a) (r := r) (f := f) (q := q) (T := tb a) (w := w) (by omega)) (mok_shp (i := 0) hm (by omega)) (by omega)) ⟨rfl, by decide, by decide, by decide +kernel⟩ wm_6_112 wm_6_113 wm_6_114 wm_1_7 wm_6_115 ⟨Nat.le_of_ble_eq_true rfl, Nat.le_of_ble_eq_true rfl⟩ ⟨Nat.le_of_ble_eq_true rfl, Nat.le_of_ble_eq_true rfl⟩ rfl rfl rfl rfl hl.1 rfl (Nat.le_of_ble_eq_true rfl) dX10_isSoundNow_135 (fun o w' H locs hp hB => ?_)
                  obtain ⟨q179, q180, F181, rfl, hw9⟩ := hp
                  replace hB : Bd κ A s (lA κ q180 ((r (2 * 0)) * 5) F181 :: gO q179 (r (2 * 0)) (r (2 * 0 + 1)) q180 :: lA κ b6 ((r (2 * 0 + 1)) * 5) F11 :: gO g5 (r (2 * 0 + 1)) (r (2 * 0 + 1)) b6 :: lA κ b8 ((r (2 * 0)) * 5) F12 :: gO g7 (r (2 * 0)) (r (2 * 0)) b8 :: lA κ b10 ((r (2 * 0)) * 5) F13 :: gO g9 (r (2 * 0)) (r (2 * 0 + 1)) b10 :: (q4, .inr (10, [.ref g9, .ref g7, .ref g5, .int S14, .int S15, .int (nI K16), .int G17])) :: mw κ a r f q (tb a) w) H locs := by rw [hw9] at hB; exact hB
                  refine W.eq (g2 := F0 m 138 ls [.ref q179, .int y3_42]) rfl ?_
                  refine lv_aload_n hx hb dX10_isSoundNow_138 rfl (lv_at hl 3 rfl) ?_
                  refine gf (k0 := 8) hX hB rfl rfl in9 2 (by decide) wm_6_222 rfl rfl dX10_isSoundNow_139 ?_
                  refine call_V (n := 1) (k0 := 1) (As := [.ref g5]) (rest := [.int y3_42]) hX hB (k_X7_product κ l (lA κ q180 ((r (2 * 0)) * 5) F181 :: gO q179 (r (2 * 0)) (r (2 * 0 + 1)) q180 :: lA κ b6 ((r (2 * 0 + 1)) * 5) F11 :: gO g5 (r (2 * 0 + 1)) (r (2 * 0 + 1)) b6 :: lA κ b8 ((r (2 * 0)) * 5) F12 :: gO g7 (r (2 * 0)) (r (2 * 0)) b8 :: lA κ b10 ((r (2 * 0)) * 5) F13 :: gO g9 (r (2 * 0)) (r (2 * 0 + 1)) b10 :: (q4, .inr (10, [.ref g9, .ref g7, .ref g5, .int S14, .int S15, .int (nI K16), .int G17])) :: mw κ a r f q (tb a) w) 1 0 q179 q180 (r (2 * 0)) (r (2 * 0 + 1)) F181 3 2 g5 b6 (r (2 * 0 + 1)) (r (2 * 0 + 1)) F11 rfl rfl ⟨by omega, by omega, by omega, by omega⟩ rfl rfl ⟨by omega, by omega, by omega, by omega⟩ (by omega)) ⟨rfl, by decide, by decide, by decide +kernel⟩ wm_6_112 wm_6_113 wm_6_114 wm_1_7 wm_6_115 ⟨Nat.le_of_ble_eq_true rfl, Nat.le_of_ble_eq_true rfl⟩ ⟨Nat.le_of_ble_eq_true rfl, Nat.le_of_ble_eq_true rfl⟩ rfl rfl rfl rfl hl.1 rfl (Nat.le_of_ble_eq_true rfl) dX10_isSoundNow_142 (fun o w' H locs hp hB => ?_)
                  obtain ⟨q182, q183, F184, rfl, hw9⟩ := hp
                  replace hB : Bd κ A s (lA κ q183 ((r (2 * 0)) * 5) F184 :: gO q182 (r (2 * 0)) (r (2 * 0 + 1)) q183 :: lA κ q180 ((r (2 * 0)) * 5) F181 :: gO q179 (r (2 * 0)) (r (2 * 0 + 1)) q180 :: lA κ b6 ((r (2 * 0 + 1)) * 5) F11 :: gO g5 (r (2 * 0 + 1)) (r (2 * 0 + 1)) b6 :: lA κ b8 ((r (2 * 0)) * 5) F12 :: gO g7 (r (2 * 0)) (r (2 * 0)) b8 :: lA κ b10 ((r (2 * 0)) * 5) F13 :: gO g9 (r (2 * 0)) (r (2 * 0 + 1)) b10 :: (q4, .inr (10, [.ref g9, .ref g7, .ref g5, .int S14, .int S15, .int (nI K16), .int G17])) :: mw κ a r f q (tb a) w) H locs := by rw [hw9] at hB; exact hB
                  refine W.eq (g2 := F0 m 145 ls [.ref q182, .int y3_42]) rfl ?_
                  refine lv_aload_n hx hb dX10_isSoundNow_145 rfl (lv_at hl 3 rfl) ?_
                  refine gf (k0 := 10) hX hB rfl rfl in9 0 (by decide) wm_6_218 rfl rfl dX10_isSoundNow_146 ?_
                  refine call_V (n := 1) (k0 := 1) (As := [.ref g9]) (rest := [.int y3_42]) hX hB (k_X7_isSame κ l (lA κ q183 ((r (2 * 0)) * 5) F184 :: gO q182 (r (2 * 0)) (r (2 * 0 + 1)) q183 :: lA κ q180 ((r (2 * 0)) * 5) F181 :: gO q179 (r (2 * 0)) (r (2 * 0 + 1)) q180 :: lA κ b6 ((r (2 * 0 + 1)) * 5) F11 :: gO g5 (r (2 * 0 + 1)) (r (2 * 0 + 1)) b6 :: lA κ b8 ((r (2 * 0)) * 5) F12 :: gO g7 (r (2 * 0)) (r (2 * 0)) b8 :: lA κ b10 ((r (2 * 0)) * 5) F13 :: gO g9 (r (2 * 0)) (r (2 * 0 + 1)) b10 :: (q4, .inr (10, [.ref g9, .ref g7, .ref g5, .int S14, .int S15, .int (nI K16), .int G17])) :: mw κ a r f q (tb a) w) 1 0 q182 q183 (r (2 * 0)) (r (2 * 0 + 1)) F184 9 8 g9 b10 (r (2 * 0)) (r (2 * 0 + 1)) F13 rfl rfl ⟨by omega, by omega, by omega, by omega⟩ rfl rfl (mok_shp (i := 0) hm (by omega))) ⟨rfl, by decide, by decide, by decide +kernel⟩ wm_6_15 wm_6_16 wm_6_17 wm_1_7 wm_6_18 ⟨Nat.le_of_ble_eq_true rfl, Nat.le_of_ble_eq_true rfl⟩ ⟨Nat.le_of_ble_eq_true rfl, Nat.le_of_ble_eq_true rfl⟩ rfl rfl rfl rfl hl.1 rfl (Nat.le_of_ble_eq_true rfl) dX10_isSoundNow_149 (fun o w' H locs hp hB => ?_)
                  obtain ⟨x185, rfl, hf186, hw9⟩ := hp
                  replace hB : Bd κ A s (lA κ q183 ((r (2 * 0)) * 5) F184 :: gO q182 (r (2 * 0)) (r (2 * 0 + 1)) q183 :: lA κ q180 ((r (2 * 0)) * 5) F181 :: gO q179 (r (2 * 0)) (r (2 * 0 + 1)) q180 :: lA κ b6 ((r (2 * 0 + 1)) * 5) F11 :: gO g5 (r (2 * 0 + 1)) (r (2 * 0 + 1)) b6 :: lA κ b8 ((r (2 * 0)) * 5) F12 :: gO g7 (r (2 * 0)) (r (2 * 0)) b8 :: lA κ b10 ((r (2 * 0)) * 5) F13 :: gO g9 (r (2 * 0)) (r (2 * 0 + 1)) b10 :: (q4, .inr (10, [.ref g9, .ref g7, .ref g5, .int S14, .int S15, .int (nI K16), .int G17])) :: mw κ a r f q (tb a) w) H locs := by rw [hw9] at hB; exact hB
                  rcases hf186 with rfl | rfl
                  · refine W.eq (g2 := F0 m 152 ls [.int 0, .int y3_42]) rfl ?_
                    refine lv_if_eq (tgt := 159) hx hb dX10_isSoundNow_152 (by decide) (fun _ => ?_) (fun c187 => False.elim (by revert c187; decide))
                    refine lv_iconst (v := 0) hx hb dX10_isSoundNow_159 (by decide) ?_
                    refine lv_iand hx hb dX10_isSoundNow_160 ?_
                    refine lv_istore_n (lv' := [(3, .int (y3_42 &&& 0)), (6, .int (nI y6_42)), (4, .long y4_42), (2, .ref q4), (1, .ref (a (2 + 2 * 0))), (0, .ref (a 0))]) hx hb dX10_isSoundNow_161 rfl hl (by decide) rfl (fun ls hl => ?_)
                    refine lv_iload_n hx hb dX10_isSoundNow_162 rfl (lv_at hl 0 rfl) ?_
                    refine lv_if_eq (tgt := 195) hx hb dX10_isSoundNow_163 (by decide) (fun c188 => ?_) (fun c188 => ?_)
                    · refine lv_iconst (v := 0) hx hb dX10_isSoundNow_195 (by decide) ?_
                      replace hB : Bd κ A s (lA κ q183 ((r (2 * 0)) * 5) F184 :: gO q182 (r (2 * 0)) (r (2 * 0 + 1)) q183 :: lA κ q180 ((r (2 * 0)) * 5) F181 :: gO q179 (r (2 * 0)) (r (2 * 0 + 1)) q180 :: lA κ b6 ((r (2 * 0 + 1)) * 5) F11 :: gO g5 (r (2 * 0 + 1)) (r (2 * 0 + 1)) b6 :: lA κ b8 ((r (2 * 0)) * 5) F12 :: gO g7 (r (2 * 0)) (r (2 * 0)) b8 :: lA κ b10 ((r (2 * 0)) * 5) F13 :: gO g9 (r (2 * 0)) (r (2 * 0 + 1)) b10 :: mw κ a r f q (tb a) w) H locs := Bd_del 10 hB
                      replace hB : Bd κ A s (lA κ q183 ((r (2 * 0)) * 5) F184 :: gO q182 (r (2 * 0)) (r (2 * 0 + 1)) q183 :: lA κ q180 ((r (2 * 0)) * 5) F181 :: gO q179 (r (2 * 0)) (r (2 * 0 + 1)) q180 :: lA κ b6 ((r (2 * 0 + 1)) * 5) F11 :: gO g5 (r (2 * 0 + 1)) (r (2 * 0 + 1)) b6 :: lA κ b8 ((r (2 * 0)) * 5) F12 :: gO g7 (r (2 * 0)) (r (2 * 0)) b8 :: lA κ b10 ((r (2 * 0)) * 5) F13 :: mw κ a r f q (tb a) w) H locs := Bd_del 9 hB
                      replace hB : Bd κ A s (lA κ q183 ((r (2 * 0)) * 5) F184 :: gO q182 (r (2 * 0)) (r (2 * 0 + 1)) q183 :: lA κ q180 ((r (2 * 0)) * 5) F181 :: gO q179 (r (2 * 0)) (r (2 * 0 + 1)) q180 :: lA κ b6 ((r (2 * 0 + 1)) * 5) F11 :: gO g5 (r (2 * 0 + 1)) (r (2 * 0 + 1)) b6 :: lA κ b8 ((r (2 * 0)) * 5) F12 :: gO g7 (r (2 * 0)) (r (2 * 0)) b8 :: mw κ a r f q (tb a) w) H locs := Bd_del 8 hB
                      replace hB : Bd κ A s (lA κ q183 ((r (2 * 0)) * 5) F184 :: gO q182 (r (2 * 0)) (r (2 * 0 + 1)) q183 :: lA κ q180 ((r (2 * 0)) * 5) F181 :: gO q179 (r (2 * 0)) (r (2 * 0 + 1)) q180 :: lA κ b6 ((r (2 * 0 + 1)) * 5) F11 :: gO g5 (r (2 * 0 + 1)) (r (2 * 0 + 1)) b6 :: lA κ b8 ((r (2 * 0)) * 5) F12 :: mw κ a r f q (tb a) w) H locs := Bd_del 7 hB
                      replace hB : Bd κ A s (lA κ q183 ((r (2 * 0)) * 5) F184 :: gO q182 (r (2 * 0)) (r (2 * 0 + 1)) q183 :: lA κ q180 ((r (2 * 0)) * 5) F181 :: gO q179 (r (2 * 0)) (r (2 * 0 + 1)) q180 :: lA κ b6 ((r (2 * 0 + 1)) * 5) F11 :: gO g5 (r (2 * 0 + 1)) (r (2 * 0 + 1)) b6 :: mw κ a r f q (tb a) w) H locs := Bd_del 6 hB
                      replace hB : Bd κ A s (lA κ q183 ((r (2 * 0)) * 5) F184 :: gO q182 (r (2 * 0)) (r (2 * 0 + 1)) q183 :: lA κ q180 ((r (2 * 0)) * 5) F181 :: gO q179 (r (2 * 0)) (r (2 * 0 + 1)) q180 :: lA κ b6 ((r (2 * 0 + 1)) * 5) F11 :: mw κ a r f q (tb a) w) H locs := Bd_del 5 hB
                      replace hB : Bd κ A s (lA κ q183 ((r (2 * 0)) * 5) F184 :: gO q182 (r (2 * 0)) (r (2 * 0 + 1)) q183 :: lA κ q180 ((r (2 * 0)) * 5) F181 :: gO q179 (r (2 * 0)) (r (2 * 0 + 1)) q180 :: mw κ a r f q (tb a) w) H locs := Bd_del 4 hB
                      replace hB : Bd κ A s (lA κ q183 ((r (2 * 0)) * 5) F184 :: gO q182 (r (2 * 0)) (r (2 * 0 + 1)) q183 :: lA κ q180 ((r (2 * 0)) * 5) F181 :: mw κ a r f q (tb a) w) H locs := Bd_del 3 hB
                      replace hB : Bd κ A s (lA κ q183 ((r (2 * 0)) * 5) F184 :: gO q182 (r (2 * 0)) (r (2 * 0 + 1)) q183 :: mw κ a r f q (tb a) w) H locs := Bd_del 2 hB
                      replace hB : Bd κ A s (lA κ q183 ((r (2 * 0)) * 5) F184 :: mw κ a r f q (tb a) w) H locs := Bd_del 1 hB
                      replace hB : Bd κ A s (mw κ a r f q (tb a) w) H locs := Bd_del 0 hB
                      rw [← hQ]
                      exact end_i hX hB hA3 rfl rfl ⟨0, rfl, (Or.inl rfl), rfl⟩ (Nat.le_of_ble_eq_true rfl) (Nat.le_of_ble_eq_true rfl) dX10_isSoundNow_196
                    · refine lv_aload_n hx hb dX10_isSoundNow_166 rfl (lv_at hl 4 rfl) ?_
                      refine gf (k0 := 2 + 2 * 0 + 11) hX hB (mwG (i := 0) (a := a) (r := r) (f := f) (q := q) (T := tb a) (w := w) (by omega)) rfl in7 0 (by decide) wm_5_148 rfl rfl dX10_isSoundNow_167 ?_
                      refine lv_aload_n hx hb dX10_isSoundNow_170 rfl (lv_at hl 4 rfl) ?_
                      refine gf (k0 := 2 + 2 * 0 + 11) hX hB (mwG (i := 0) (a := a) (r := r) (f := f) (q := q) (T := tb a) (w := w) (by omega)) rfl in7 1 (by decide) wm_5_152 rfl rfl dX10_isSoundNow_171 ?_
                      refine lv_icmp_ne (tgt := 191) hx hb dX10_isSoundNow_174 (by decide) (fun c189 => ?_) (fun c189 => ?_)
                      · rw [neqP (a := r (2 * 0)) (b := r (2 * 0 + 1)) (by omega) (by omega)] at c189
                        refine lv_iconst (v := 1) hx hb dX10_isSoundNow_191 (by decide) ?_
                        refine lv_goto (tgt := 196) hx hb dX10_isSoundNow_192 (by decide) ?_
                        replace hB : Bd κ A s (lA κ q183 ((r (2 * 0)) * 5) F184 :: gO q182 (r (2 * 0)) (r (2 * 0 + 1)) q183 :: lA κ q180 ((r (2 * 0)) * 5) F181 :: gO q179 (r (2 * 0)) (r (2 * 0 + 1)) q180 :: lA κ b6 ((r (2 * 0 + 1)) * 5) F11 :: gO g5 (r (2 * 0 + 1)) (r (2 * 0 + 1)) b6 :: lA κ b8 ((r (2 * 0)) * 5) F12 :: gO g7 (r (2 * 0)) (r (2 * 0)) b8 :: lA κ b10 ((r (2 * 0)) * 5) F13 :: gO g9 (r (2 * 0)) (r (2 * 0 + 1)) b10 :: mw κ a r f q (tb a) w) H locs := Bd_del 10 hB
                        replace hB : Bd κ A s (lA κ q183 ((r (2 * 0)) * 5) F184 :: gO q182 (r (2 * 0)) (r (2 * 0 + 1)) q183 :: lA κ q180 ((r (2 * 0)) * 5) F181 :: gO q179 (r (2 * 0)) (r (2 * 0 + 1)) q180 :: lA κ b6 ((r (2 * 0 + 1)) * 5) F11 :: gO g5 (r (2 * 0 + 1)) (r (2 * 0 + 1)) b6 :: lA κ b8 ((r (2 * 0)) * 5) F12 :: gO g7 (r (2 * 0)) (r (2 * 0)) b8 :: lA κ b10 ((r (2 * 0)) * 5) F13 :: mw κ a r f q (tb a) w) H locs := Bd_del 9 hB
                        replace hB : Bd κ A s (lA κ q183 ((r (2 * 0)) * 5) F184 :: gO q182 (r (2 * 0)) (r (2 * 0 + 1)) q183 :: lA κ q180 ((r (2 * 0)) * 5) F181 :: gO q179 (r (2 * 0)) (r (2 * 0 + 1)) q180 :: lA κ b6 ((r (2 * 0 + 1)) * 5) F11 :: gO g5 (r (2 * 0 + 1)) (r (2 * 0 + 1)) b6 :: lA κ b8 ((r (2 * 0)) * 5) F12 :: gO g7 (r (2 * 0)) (r (2 * 0)) b8 :: mw κ a r f q (tb a) w) H locs := Bd_del 8 hB
                        replace hB : Bd κ A s (lA κ q183 ((r (2 * 0)) * 5) F184 :: gO q182 (r (2 * 0)) (r (2 * 0 + 1)) q183 :: lA κ q180 ((r (2 * 0)) * 5) F181 :: gO q179 (r (2 * 0)) (r (2 * 0 + 1)) q180 :: lA κ b6 ((r (2 * 0 + 1)) * 5) F11 :: gO g5 (r (2 * 0 + 1)) (r (2 * 0 + 1)) b6 :: lA κ b8 ((r (2 * 0)) * 5) F12 :: mw κ a r f q (tb a) w) H locs := Bd_del 7 hB
                        replace hB : Bd κ A s (lA κ q183 ((r (2 * 0)) * 5) F184 :: gO q182 (r (2 * 0)) (r (2 * 0 + 1)) q183 :: lA κ q180 ((r (2 * 0)) * 5) F181 :: gO q179 (r (2 * 0)) (r (2 * 0 + 1)) q180 :: lA κ b6 ((r (2 * 0 + 1)) * 5) F11 :: gO g5 (r (2 * 0 + 1)) (r (2 * 0 + 1)) b6 :: mw κ a r f q (tb a) w) H locs := Bd_del 6 hB
                        replace hB : Bd κ A s (lA κ q183 ((r (2 * 0)) * 5) F184 :: gO q182 (r (2 * 0)) (r (2 * 0 + 1)) q183 :: lA κ q180 ((r (2 * 0)) * 5) F181 :: gO q179 (r (2 * 0)) (r (2 * 0 + 1)) q180 :: lA κ b6 ((r (2 * 0 + 1)) * 5) F11 :: mw κ a r f q (tb a) w) H locs := Bd_del 5 hB
                        replace hB : Bd κ A s (lA κ q183 ((r (2 * 0)) * 5) F184 :: gO q182 (r (2 * 0)) (r (2 * 0 + 1)) q183 :: lA κ q180 ((r (2 * 0)) * 5) F181 :: gO q179 (r (2 * 0)) (r (2 * 0 + 1)) q180 :: mw κ a r f q (tb a) w) H locs := Bd_del 4 hB
                        replace hB : Bd κ A s (lA κ q183 ((r (2 * 0)) * 5) F184 :: gO q182 (r (2 * 0)) (r (2 * 0 + 1)) q183 :: lA κ q180 ((r (2 * 0)) * 5) F181 :: mw κ a r f q (tb a) w) H locs := Bd_del 3 hB
                        replace hB : Bd κ A s (lA κ q183 ((r (2 * 0)) * 5) F184 :: gO q182 (r (2 * 0)) (r (2 * 0 + 1)) q183 :: mw κ a r f q (tb a) w) H locs := Bd_del 2 hB
                        replace hB : Bd κ A s (lA κ q183 ((r (2 * 0)) * 5) F184 :: mw κ a r f q (tb a) w) H locs := Bd_del 1 hB
                        replace hB : Bd κ A s (mw κ a r f q (tb a) w) H locs := Bd_del 0 hB
                        rw [← hQ]
                        exact end_i hX hB hA3 rfl rfl ⟨1, rfl, (Or.inr rfl), rfl⟩ (Nat.le_of_ble_eq_true rfl) (Nat.le_of_ble_eq_true rfl) dX10_isSoundNow_196
                      · rw [neqP (a := r (2 * 0)) (b := r (2 * 0 + 1)) (by omega) (by omega)] at c189
                        refine lv_aload_n hx hb dX10_isSoundNow_177 rfl (lv_at hl 4 rfl) ?_
                        refine call_S (n := 1) (As := [.ref (a (2 + 2 * 0))]) (rest := []) hX hB (k_X10_determinantOf κ l (lA κ q183 ((r (2 * 0)) * 5) F184 :: gO q182 (r (2 * 0)) (r (2 * 0 + 1)) q183 :: lA κ q180 ((r (2 * 0)) * 5) F181 :: gO q179 (r (2 * 0)) (r (2 * 0 + 1)) q180 :: lA κ b6 ((r (2 * 0 + 1)) * 5) F11 :: gO g5 (r (2 * 0 + 1)) (r (2 * 0 + 1)) b6 :: lA κ b8 ((r (2 * 0)) * 5) F12 :: gO g7 (r (2 * 0)) (r (2 * 0)) b8 :: lA κ b10 ((r (2 * 0)) * 5) F13 :: gO g9 (r (2 * 0)) (r (2 * 0 + 1)) b10 :: (q4, .inr (10, [.ref g9, .ref g7, .ref g5, .int S14, .int S15, .int (nI K16), .int G17])) :: mw κ a r f q (tb a) w) (2 + 2 * 0 + 11) (3 + 2 * 0 + 11) (a (2 + 2 * 0)) (a (3 + 2 * 0)) (r (2 * 0)) (r (2 * 0 + 1)) (f 0) (mwG (i := 0) (a := a) (r := r) (f := f) (q := q) (T := tb a) (w := w) (by omega)) (mwA (i := 0) (a := a) (r := r) (f := f) (q := q) (T := tb a) (w := w) (by omega)) (mok_shp (i := 0) hm (by omega)) (by omega)) ⟨by decide, by decide, by decide +kernel⟩ wm_7_72 wm_7_73 wm_1_6 wm_7_74 ⟨Nat.le_of_ble_eq_true rfl, Nat.le_of_ble_eq_true rfl⟩ ⟨Nat.le_of_ble_eq_true rfl, Nat.le_of_ble_eq_true rfl⟩ rfl hl.1 rfl (Nat.le_of_ble_eq_true rfl) dX10_isSoundNow_178 (fun o w' H locs hp hB => ?_)
                        obtain ⟨rfl, hw9⟩ := hp
                        replace hB : Bd κ A s (lA κ q183 ((r (2 * 0)) * 5) F184 :: gO q182 (r (2 * 0)) (r (2 * 0 + 1)) q183 :: lA κ q180 ((r (2 * 0)) * 5) F181 :: gO q179 (r (2 * 0)) (r (2 * 0 + 1)) q180 :: lA κ b6 ((r (2 * 0 + 1)) * 5) F11 :: gO g5 (r (2 * 0 + 1)) (r (2 * 0 + 1)) b6 :: lA κ b8 ((r (2 * 0)) * 5) F12 :: gO g7 (r (2 * 0)) (r (2 * 0)) b8 :: lA κ b10 ((r (2 * 0)) * 5) F13 :: gO g9 (r (2 * 0)) (r (2 * 0 + 1)) b10 :: (q4, .inr (10, [.ref g9, .ref g7, .ref g5, .int S14, .int S15, .int (nI K16), .int G17])) :: mw κ a r f q (tb a) w) H locs := by rw [hw9] at hB; exact hB
                        refine W.eq (g2 := F0 m 181 ls [.long (mnv (f 0) (r (2 * 0 + 1)) (r (2 * 0)) (2 ^ (r (2 * 0)) - 1) (2 ^ (r (2 * 0 + 1)) - 1))]) rfl ?_
                        refine lv_aload_n hx hb dX10_isSoundNow_181 rfl (lv_at hl 4 rfl) ?_
                        refine lv_iconst (v := 0) hx hb dX10_isSoundNow_182 (by decide) ?_
                        refine lv_iconst (v := 0) hx hb dX10_isSoundNow_183 (by decide) ?_
                        refine call_S (n := 3) (As := [.ref (a (2 + 2 * 0)), .int 0, .int 0]) (rest := [.long (mnv (f 0) (r (2 * 0 + 1)) (r (2 * 0)) (2 ^ (r (2 * 0)) - 1) (2 ^ (r (2 * 0 + 1)) - 1))]) hX hB (k_X10_bySequences κ l (lA κ q183 ((r (2 * 0)) * 5) F184 :: gO q182 (r (2 * 0)) (r (2 * 0 + 1)) q183 :: lA κ q180 ((r (2 * 0)) * 5) F181 :: gO q179 (r (2 * 0)) (r (2 * 0 + 1)) q180 :: lA κ b6 ((r (2 * 0 + 1)) * 5) F11 :: gO g5 (r (2 * 0 + 1)) (r (2 * 0 + 1)) b6 :: lA κ b8 ((r (2 * 0)) * 5) F12 :: gO g7 (r (2 * 0)) (r (2 * 0)) b8 :: lA κ b10 ((r (2 * 0)) * 5) F13 :: gO g9 (r (2 * 0)) (r (2 * 0 + 1)) b10 :: (q4, .inr (10, [.ref g9, .ref g7, .ref g5, .int S14, .int S15, .int (nI K16), .int G17])) :: mw κ a r f q (tb a) w) (2 + 2 * 0 + 11) (3 + 2 * 0 + 11) (a (2 + 2 * 0)) (a (3 + 2 * 0)) (r (2 * 0)) (r (2 * 0 + 1)) (f 0) 0 0 0 (mwG (i := 0) (a := a) (r := r) (f := f) (q := q) (T := tb a) (w := w) (by omega)) (mwA (i := 0) (a := a) (r := r) (f := f) (q := q) (T := tb a) (w := w) (by omega)) (mok_shp (i := 0) hm (by omega)) rfl (by omega)) ⟨by decide, by decide, by decide +kernel⟩ wm_7_84 wm_7_85 wm_1_6 wm_7_86 ⟨Nat.le_of_ble_eq_true rfl, Nat.le_of_ble_eq_true rfl⟩ ⟨Nat.le_of_ble_eq_true rfl, Nat.le_of_ble_eq_true rfl⟩ rfl hl.1 rfl (Nat.le_of_ble_eq_true rfl) dX10_isSoundNow_184 (fun o w' H locs hp hB => ?_)
                        obtain ⟨z190, rfl, hw9⟩ := hp
                        replace hB : Bd κ A s (lA κ q183 ((r (2 * 0)) * 5) F184 :: gO q182 (r (2 * 0)) (r (2 * 0 + 1)) q183 :: lA κ q180 ((r (2 * 0)) * 5) F181 :: gO q179 (r (2 * 0)) (r (2 * 0 + 1)) q180 :: lA κ b6 ((r (2 * 0 + 1)) * 5) F11 :: gO g5 (r (2 * 0 + 1)) (r (2 * 0 + 1)) b6 :: lA κ b8 ((r (2 * 0)) * 5) F12 :: gO g7 (r (2 * 0)) (r (2 * 0)) b8 :: lA κ b10 ((r (2 * 0)) * 5) F13 :: gO g9 (r (2 * 0)) (r (2 * 0 + 1)) b10 :: (q4, .inr (10, [.ref g9, .ref g7, .ref g5, .int S14, .int S15, .int (nI K16), .int G17])) :: mw κ a r f q (tb a) w) H locs := by rw [hw9] at hB; exact hB
                        refine W.eq (g2 := F0 m 187 ls [.long z190, .long (mnv (f 0) (r (2 * 0 + 1)) (r (2 * 0)) (2 ^ (r (2 * 0)) - 1) (2 ^ (r (2 * 0 + 1)) - 1))]) rfl ?_
                        refine W.lcmp hx hb dX10_isSoundNow_187 ?_
                        refine lv_if_ne (tgt := 195) hx hb dX10_isSoundNow_188 (by decide) (fun c191 => ?_) (fun c191 => ?_)
                        · refine lv_iconst (v := 0) hx hb dX10_isSoundNow_195 (by decide) ?_
                          replace hB : Bd κ A s (lA κ q183 ((r (2 * 0)) * 5) F184 :: gO q182 (r (2 * 0)) (r (2 * 0 + 1)) q183 :: lA κ q180 ((r (2 * 0)) * 5) F181 :: gO q179 (r (2 * 0)) (r (2 * 0 + 1)) q180 :: lA κ b6 ((r (2 * 0 + 1)) * 5) F11 :: gO g5 (r (2 * 0 + 1)) (r (2 * 0 + 1)) b6 :: lA κ b8 ((r (2 * 0)) * 5) F12 :: gO g7 (r (2 * 0)) (r (2 * 0)) b8 :: lA κ b10 ((r (2 * 0)) * 5) F13 :: gO g9 (r (2 * 0)) (r (2 * 0 + 1)) b10 :: mw κ a r f q (tb a) w) H locs := Bd_del 10 hB
                          replace hB : Bd κ A s (lA κ q183 ((r (2 * 0)) * 5) F184 :: gO q182 (r (2 * 0)) (r (2 * 0 + 1)) q183 :: lA κ q180 ((r (2 * 0)) * 5) F181 :: gO q179 (r (2 * 0)) (r (2 * 0 + 1)) q180 :: lA κ b6 ((r (2 * 0 + 1)) * 5) F11 :: gO g5 (r (2 * 0 + 1)) (r (2 * 0 + 1)) b6 :: lA κ b8 ((r (2 * 0)) * 5) F12 :: gO g7 (r (2 * 0)) (r (2 * 0)) b8 :: lA κ b10 ((r (2 * 0)) * 5) F13 :: mw κ a r f q (tb a) w) H locs := Bd_del 9 hB
                          replace hB : Bd κ A s (lA κ q183 ((r (2 * 0)) * 5) F184 :: gO q182 (r (2 * 0)) (r (2 * 0 + 1)) q183 :: lA κ q180 ((r (2 * 0)) * 5) F181 :: gO q179 (r (2 * 0)) (r (2 * 0 + 1)) q180 :: lA κ b6 ((r (2 * 0 + 1)) * 5) F11 :: gO g5 (r (2 * 0 + 1)) (r (2 * 0 + 1)) b6 :: lA κ b8 ((r (2 * 0)) * 5) F12 :: gO g7 (r (2 * 0)) (r (2 * 0)) b8 :: mw κ a r f q (tb a) w) H locs := Bd_del 8 hB
                          replace hB : Bd κ A s (lA κ q183 ((r (2 * 0)) * 5) F184 :: gO q182 (r (2 * 0)) (r (2 * 0 + 1)) q183 :: lA κ q180 ((r (2 * 0)) * 5) F181 :: gO q179 (r (2 * 0)) (r (2 * 0 + 1)) q180 :: lA κ b6 ((r (2 * 0 + 1)) * 5) F11 :: gO g5 (r (2 * 0 + 1)) (r (2 * 0 + 1)) b6 :: lA κ b8 ((r (2 * 0)) * 5) F12 :: mw κ a r f q (tb a) w) H locs := Bd_del 7 hB
                          replace hB : Bd κ A s (lA κ q183 ((r (2 * 0)) * 5) F184 :: gO q182 (r (2 * 0)) (r (2 * 0 + 1)) q183 :: lA κ q180 ((r (2 * 0)) * 5) F181 :: gO q179 (r (2 * 0)) (r (2 * 0 + 1)) q180 :: lA κ b6 ((r (2 * 0 + 1)) * 5) F11 :: gO g5 (r (2 * 0 + 1)) (r (2 * 0 + 1)) b6 :: mw κ a r f q (tb a) w) H locs := Bd_del 6 hB
                          replace hB : Bd κ A s (lA κ q183 ((r (2 * 0)) * 5) F184 :: gO q182 (r (2 * 0)) (r (2 * 0 + 1)) q183 :: lA κ q180 ((r (2 * 0)) * 5) F181 :: gO q179 (r (2 * 0)) (r (2 * 0 + 1)) q180 :: lA κ b6 ((r (2 * 0 + 1)) * 5) F11 :: mw κ a r f q (tb a) w) H locs := Bd_del 5 hB
                          replace hB : Bd κ A s (lA κ q183 ((r (2 * 0)) * 5) F184 :: gO q182 (r (2 * 0)) (r (2 * 0 + 1)) q183 :: lA κ q180 ((r (2 * 0)) * 5) F181 :: gO q179 (r (2 * 0)) (r (2 * 0 + 1)) q180 :: mw κ a r f q (tb a) w) H locs := Bd_del 4 hB
                          replace hB : Bd κ A s (lA κ q183 ((r (2 * 0)) * 5) F184 :: gO q182 (r (2 * 0)) (r (2 * 0 + 1)) q183 :: lA κ q180 ((r (2 * 0)) * 5) F181 :: mw κ a r f q (tb a) w) H locs := Bd_del 3 hB
                          replace hB : Bd κ A s (lA κ q183 ((r (2 * 0)) * 5) F184 :: gO q182 (r (2 * 0)) (r (2 * 0 + 1)) q183 :: mw κ a r f q (tb a) w) H locs := Bd_del 2 hB
                          replace hB : Bd κ A s (lA κ q183 ((r (2 * 0)) * 5) F184 :: mw κ a r f q (tb a) w) H locs := Bd_del 1 hB
                          replace hB : Bd κ A s (mw κ a r f q (tb a) w) H locs := Bd_del 0 hB
                          rw [← hQ]
                          exact end_i hX hB hA3 rfl rfl ⟨0, rfl, (Or.inl rfl), rfl⟩ (Nat.le_of_ble_eq_true rfl) (Nat.le_of_ble_eq_true rfl) dX10_isSoundNow_196
                        · refine lv_iconst (v := 1) hx hb dX10_isSoundNow_191 (by decide) ?_
                          refine lv_goto (tgt := 196) hx hb dX10_isSoundNow_192 (by decide) ?_
                          replace hB : Bd κ A s (lA κ q183 ((r (2 * 0)) * 5) F184 :: gO q182 (r (2 * 0)) (r (2 * 0 + 1)) q183 :: lA κ q180 ((r (2 * 0)) * 5) F181 :: gO q179 (r (2 * 0)) (r (2 * 0 + 1)) q180 :: lA κ b6 ((r (2 * 0 + 1)) * 5) F11 :: gO g5 (r (2 * 0 + 1)) (r (2 * 0 + 1)) b6 :: lA κ b8 ((r (2 * 0)) * 5) F12 :: gO g7 (r (2 * 0)) (r (2 * 0)) b8 :: lA κ b10 ((r (2 * 0)) * 5) F13 :: gO g9 (r (2 * 0)) (r (2 * 0 + 1)) b10 :: mw κ a r f q (tb a) w) H locs := Bd_del 10 hB
                          replace hB : Bd κ A s (lA κ q183 ((r (2 * 0)) * 5) F184 :: gO q182 (r (2 * 0)) (r (2 * 0 + 1)) q183 :: lA κ q180 ((r (2 * 0)) * 5) F181 :: gO q179 (r (2 * 0)) (r (2 * 0 + 1)) q180 :: lA κ b6 ((r (2 * 0 + 1)) * 5) F11 :: gO g5 (r (2 * 0 + 1)) (r (2 * 0 + 1)) b6 :: lA κ b8 ((r (2 * 0)) * 5) F12 :: gO g7 (r (2 * 0)) (r (2 * 0)) b8 :: lA κ b10 ((r (2 * 0)) * 5) F13 :: mw κ a r f q (tb a) w) H locs := Bd_del 9 hB
                          replace hB : Bd κ A s (lA κ q183 ((r (2 * 0)) * 5) F184 :: gO q182 (r (2 * 0)) (r (2 * 0 + 1)) q183 :: lA κ q180 ((r (2 * 0)) * 5) F181 :: gO q179 (r (2 * 0)) (r (2 * 0 + 1)) q180 :: lA κ b6 ((r (2 * 0 + 1)) * 5) F11 :: gO g5 (r (2 * 0 + 1)) (r (2 * 0 + 1)) b6 :: lA κ b8 ((r (2 * 0)) * 5) F12 :: gO g7 (r (2 * 0)) (r (2 * 0)) b8 :: mw κ a r f q (tb a) w) H locs := Bd_del 8 hB
                          replace hB : Bd κ A s (lA κ q183 ((r (2 * 0)) * 5) F184 :: gO q182 (r (2 * 0)) (r (2 * 0 + 1)) q183 :: lA κ q180 ((r (2 * 0)) * 5) F181 :: gO q179 (r (2 * 0)) (r (2 * 0 + 1)) q180 :: lA κ b6 ((r (2 * 0 + 1)) * 5) F11 :: gO g5 (r (2 * 0 + 1)) (r (2 * 0 + 1)) b6 :: lA κ b8 ((r (2 * 0)) * 5) F12 :: mw κ a r f q (tb a) w) H locs := Bd_del 7 hB
                          replace hB : Bd κ A s (lA κ q183 ((r (2 * 0)) * 5) F184 :: gO q182 (r (2 * 0)) (r (2 * 0 + 1)) q183 :: lA κ q180 ((r (2 * 0)) * 5) F181 :: gO q179 (r (2 * 0)) (r (2 * 0 + 1)) q180 :: lA κ b6 ((r (2 * 0 + 1)) * 5) F11 :: gO g5 (r (2 * 0 + 1)) (r (2 * 0 + 1)) b6 :: mw κ a r f q (tb a) w) H locs := Bd_del 6 hB
                          replace hB : Bd κ A s (lA κ q183 ((r (2 * 0)) * 5) F184 :: gO q182 (r (2 * 0)) (r (2 * 0 + 1)) q183 :: lA κ q180 ((r (2 * 0)) * 5) F181 :: gO q179 (r (2 * 0)) (r (2 * 0 + 1)) q180 :: lA κ b6 ((r (2 * 0 + 1)) * 5) F11 :: mw κ a r f q (tb a) w) H locs := Bd_del 5 hB
                          replace hB : Bd κ A s (lA κ q183 ((r (2 * 0)) * 5) F184 :: gO q182 (r (2 * 0)) (r (2 * 0 + 1)) q183 :: lA κ q180 ((r (2 * 0)) * 5) F181 :: gO q179 (r (2 * 0)) (r (2 * 0 + 1)) q180 :: mw κ a r f q (tb a) w) H locs := Bd_del 4 hB
                          replace hB : Bd κ A s (lA κ q183 ((r (2 * 0)) * 5) F184 :: gO q182 (r (2 * 0)) (r (2 * 0 + 1)) q183 :: lA κ q180 ((r (2 * 0)) * 5) F181 :: mw κ a r f q (tb a) w) H locs := Bd_del 3 hB
                          replace hB : Bd κ A s (lA κ q183 ((r (2 * 0)) * 5) F184 :: gO q182 (r (2 * 0)) (r (2 * 0 + 1)) q183 :: mw κ a r f q (tb a) w) H locs := Bd_del 2 hB
                          replace hB : Bd κ A s (lA κ q183 ((r (2 * 0)) * 5) F184 :: mw κ a r f q (tb a) w) H locs := Bd_del 1 hB
                          replace hB : Bd κ A s (mw κ a r f q (tb a) w) H locs := Bd_del 0 hB
                          rw [← hQ]
                          exact end_i hX hB hA3 rfl rfl ⟨1, rfl, (Or.inr rfl), rfl⟩ (Nat.le_of_ble_eq_true rfl) (Nat.le_of_ble_eq_true rfl) dX10_isSoundNow_196
                  · refine W.eq (g2 := F0 m 152 ls [.int 1, .int y3_42]) rfl ?_
                    refine lv_if_eq (tgt := 159) hx hb dX10_isSoundNow_152 (by decide) (fun c192 => False.elim (by revert c192; decide)) (fun _ => ?_)
                    refine lv_iconst (v := 1) hx hb dX10_isSoundNow_155 (by decide) ?_
                    refine lv_goto (tgt := 160) hx hb dX10_isSoundNow_156 (by decide) ?_
                    refine lv_iand hx hb dX10_isSoundNow_160 ?_
                    refine lv_istore_n (lv' := [(3, .int (y3_42 &&& 1)), (6, .int (nI y6_42)), (4, .long y4_42), (2, .ref q4), (1, .ref (a (2 + 2 * 0))), (0, .ref (a 0))]) hx hb dX10_isSoundNow_161 rfl hl (by decide) rfl (fun ls hl => ?_)
                    refine lv_iload_n hx hb dX10_isSoundNow_162 rfl (lv_at hl 0 rfl) ?_
                    refine lv_if_eq (tgt := 195) hx hb dX10_isSoundNow_163 (by decide) (fun c193 => ?_) (fun c193 => ?_)
                    · refine lv_iconst (v := 0) hx hb dX10_isSoundNow_195 (by decide) ?_
                      replace hB : Bd κ A s (lA κ q183 ((r (2 * 0)) * 5) F184 :: gO q182 (r (2 * 0)) (r (2 * 0 + 1)) q183 :: lA κ q180 ((r (2 * 0)) * 5) F181 :: gO q179 (r (2 * 0)) (r (2 * 0 + 1)) q180 :: lA κ b6 ((r (2 * 0 + 1)) * 5) F11 :: gO g5 (r (2 * 0 + 1)) (r (2 * 0 + 1)) b6 :: lA κ b8 ((r (2 * 0)) * 5) F12 :: gO g7 (r (2 * 0)) (r (2 * 0)) b8 :: lA κ b10 ((r (2 * 0)) * 5) F13 :: gO g9 (r (2 * 0)) (r (2 * 0 + 1)) b10 :: mw κ a r f q (tb a) w) H locs := Bd_del 10 hB
                      replace hB : Bd κ A s (lA κ q183 ((r (2 * 0)) * 5) F184 :: gO q182 (r (2 * 0)) (r (2 * 0 + 1)) q183 :: lA κ q180 ((r (2 * 0)) * 5) F181 :: gO q179 (r (2 * 0)) (r (2 * 0 + 1)) q180 :: lA κ b6 ((r (2 * 0 + 1)) * 5) F11 :: gO g5 (r (2 * 0 + 1)) (r (2 * 0 + 1)) b6 :: lA κ b8 ((r (2 * 0)) * 5) F12 :: gO g7 (r (2 * 0)) (r (2 * 0)) b8 :: lA κ b10 ((r (2 * 0)) * 5) F13 :: mw κ a r f q (tb a) w) H locs := Bd_del 9 hB
                      replace hB : Bd κ A s (lA κ q183 ((r (2 * 0)) * 5) F184 :: gO q182 (r (2 * 0)) (r (2 * 0 + 1)) q183 :: lA κ q180 ((r (2 * 0)) * 5) F181 :: gO q179 (r (2 * 0)) (r (2 * 0 + 1)) q180 :: lA κ b6 ((r (2 * 0 + 1)) * 5) F11 :: gO g5 (r (2 * 0 + 1)) (r (2 * 0 + 1)) b6 :: lA κ b8 ((r (2 * 0)) * 5) F12 :: gO g7 (r (2 * 0)) (r (2 * 0)) b8 :: mw κ a r f q (tb a) w) H locs := Bd_del 8 hB
                      replace hB : Bd κ A s (lA κ q183 ((r (2 * 0)) * 5) F184 :: gO q182 (r (2 * 0)) (r (2 * 0 + 1)) q183 :: lA κ q180 ((r (2 * 0)) * 5) F181 :: gO q179 (r (2 * 0)) (r (2 * 0 + 1)) q180 :: lA κ b6 ((r (2 * 0 + 1)) * 5) F11 :: gO g5 (r (2 * 0 + 1)) (r (2 * 0 + 1)) b6 :: lA κ b8 ((r (2 * 0)) * 5) F12 :: mw κ a r f q (tb a) w) H locs := Bd_del 7 hB
                      replace hB : Bd κ A s (lA κ q183 ((r (2 * 0)) * 5) F184 :: gO q182 (r (2 * 0)) (r (2 * 0 + 1)) q183 :: lA κ q180 ((r (2 * 0)) * 5) F181 :: gO q179 (r (2 * 0)) (r (2 * 0 + 1)) q180 :: lA κ b6 ((r (2 * 0 + 1)) * 5) F11 :: gO g5 (r (2 * 0 + 1)) (r (2 * 0 + 1)) b6 :: mw κ a r f q (tb a) w) H locs := Bd_del 6 hB
                      replace hB : Bd κ A s (lA κ q183 ((r (2 * 0)) * 5) F184 :: gO q182 (r (2 * 0)) (r (2 * 0 + 1)) q183 :: lA κ q180 ((r (2 * 0)) * 5) F181 :: gO q179 (r (2 * 0)) (r (2 * 0 + 1)) q180 :: lA κ b6 ((r (2 * 0 + 1)) * 5) F11 :: mw κ a r f q (tb a) w) H locs := Bd_del 5 hB
                      replace hB : Bd κ A s (lA κ q183 ((r (2 * 0)) * 5) F184 :: gO q182 (r (2 * 0)) (r (2 * 0 + 1)) q183 :: lA κ q180 ((r (2 * 0)) * 5) F181 :: gO q179 (r (2 * 0)) (r (2 * 0 + 1)) q180 :: mw κ a r f q (tb a) w) H locs := Bd_del 4 hB
                      replace hB : Bd κ A s (lA κ q183 ((r (2 * 0)) * 5) F184 :: gO q182 (r (2 * 0)) (r (2 * 0 + 1)) q183 :: lA κ q180 ((r (2 * 0)) * 5) F181 :: mw κ a r f q (tb a) w) H locs := Bd_del 3 hB
                      replace hB : Bd κ A s (lA κ q183 ((r (2 * 0)) * 5) F184 :: gO q182 (r (2 * 0)) (r (2 * 0 + 1)) q183 :: mw κ a r f q (tb a) w) H locs := Bd_del 2 hB
                      replace hB : Bd κ A s (lA κ q183 ((r (2 * 0)) * 5) F184 :: mw κ a r f q (tb a) w) H locs := Bd_del 1 hB
                      replace hB : Bd κ A s (mw κ a r f q (tb a) w) H locs := Bd_del 0 hB
                      rw [← hQ]
                      exact end_i hX hB hA3 rfl rfl ⟨0, rfl, (Or.inl rfl), rfl⟩ (Nat.le_of_ble_eq_true rfl) (Nat.le_of_ble_eq_true rfl) dX10_isSoundNow_196
                    · refine lv_aload_n hx hb dX10_isSoundNow_166 rfl (lv_at hl 4 rfl) ?_
                      refine gf (k0 := 2 + 2 * 0 + 11) hX hB (mwG (i := 0) (a := a) (r := r) (f := f) (q := q) (T := tb a) (w := w) (by omega)) rfl in7 0 (by decide) wm_5_148 rfl rfl dX10_isSoundNow_167 ?_
                      refine lv_aload_n hx hb dX10_isSoundNow_170 rfl (lv_at hl 4 rfl) ?_
                      refine gf (k0 := 2 + 2 * 0 + 11) hX hB (mwG (i := 0) (a := a) (r := r) (f := f) (q := q) (T := tb a) (w := w) (by omega)) rfl in7 1 (by decide) wm_5_152 rfl rfl dX10_isSoundNow_171 ?_
                      refine lv_icmp_ne (tgt := 191) hx hb dX10_isSoundNow_174 (by decide) (fun c194 => ?_) (fun c194 => ?_)
                      · rw [neqP (a := r (2 * 0)) (b := r (2 * 0 + 1)) (by omega) (by omega)] at c194
                        refine lv_iconst (v := 1) hx hb dX10_isSoundNow_191 (by decide) ?_
                        refine lv_goto (tgt := 196) hx hb dX10_isSoundNow_192 (by decide) ?_
                        replace hB : Bd κ A s (lA κ q183 ((r (2 * 0)) * 5) F184 :: gO q182 (r (2 * 0)) (r (2 * 0 + 1)) q183 :: lA κ q180 ((r (2 * 0)) * 5) F181 :: gO q179 (r (2 * 0)) (r (2 * 0 + 1)) q180 :: lA κ b6 ((r (2 * 0 + 1)) * 5) F11 :: gO g5 (r (2 * 0 + 1)) (r (2 * 0 + 1)) b6 :: lA κ b8 ((r (2 * 0)) * 5) F12 :: gO g7 (r (2 * 0)) (r (2 * 0)) b8 :: lA κ b10 ((r (2 * 0)) * 5) F13 :: gO g9 (r (2 * 0)) (r (2 * 0 + 1)) b10 :: mw κ a r f q (tb a) w) H locs := Bd_del 10 hB
                        replace hB : Bd κ A s (lA κ q183 ((r (2 * 0)) * 5) F184 :: gO q182 (r (2 * 0)) (r (2 * 0 + 1)) q183 :: lA κ q180 ((r (2 * 0)) * 5) F181 :: gO q179 (r (2 * 0)) (r (2 * 0 + 1)) q180 :: lA κ b6 ((r (2 * 0 + 1)) * 5) F11 :: gO g5 (r (2 * 0 + 1)) (r (2 * 0 + 1)) b6 :: lA κ b8 ((r (2 * 0)) * 5) F12 :: gO g7 (r (2 * 0)) (r (2 * 0)) b8 :: lA κ b10 ((r (2 * 0)) * 5) F13 :: mw κ a r f q (tb a) w) H locs := Bd_del 9 hB
                        replace hB : Bd κ A s (lA κ q183 ((r (2 * 0)) * 5) F184 :: gO q182 (r (2 * 0)) (r (2 * 0 + 1)) q183 :: lA κ q180 ((r (2 * 0)) * 5) F181 :: gO q179 (r (2 * 0)) (r (2 * 0 + 1)) q180 :: lA κ b6 ((r (2 * 0 + 1)) * 5) F11 :: gO g5 (r (2 * 0 + 1)) (r (2 * 0 + 1)) b6 :: lA κ b8 ((r (2 * 0)) * 5) F12 :: gO g7 (r (2 * 0)) (r (2 * 0)) b8 :: mw κ a r f q (tb a) w) H locs := Bd_del 8 hB
                        replace hB : Bd κ A s (lA κ q183 ((r (2 * 0)) * 5) F184 :: gO q182 (r (2 * 0)) (r (2 * 0 + 1)) q183 :: lA κ q180 ((r (2 * 0)) * 5) F181 :: gO q179 (r (2 * 0)) (r (2 * 0 + 1)) q180 :: lA κ b6 ((r (2 * 0 + 1)) * 5) F11 :: gO g5 (r (2 * 0 + 1)) (r (2 * 0 + 1)) b6 :: lA κ b8 ((r (2 * 0)) * 5) F12 :: mw κ a r f q (tb a) w) H locs := Bd_del 7 hB
                        replace hB : Bd κ A s (lA κ q183 ((r (2 * 0)) * 5) F184 :: gO q182 (r (2 * 0)) (r (2 * 0 + 1)) q183 :: lA κ q180 ((r (2 * 0)) * 5) F181 :: gO q179 (r (2 * 0)) (r (2 * 0 + 1)) q180 :: lA κ b6 ((r (2 * 0 + 1)) * 5) F11 :: gO g5 (r (2 * 0 + 1)) (r (2 * 0 + 1)) b6 :: mw κ a r f q (tb a) w) H locs := Bd_del 6 hB
                        replace hB : Bd κ A s (lA κ q183 ((r (2 * 0)) * 5) F184 :: gO q182 (r (2 * 0)) (r (2 * 0 + 1)) q183 :: lA κ q180 ((r (2 * 0)) * 5) F181 :: gO q179 (r (2 * 0)) (r (2 * 0 + 1)) q180 :: lA κ b6 ((r (2 * 0 + 1)) * 5) F11 :: mw κ a r f q (tb a) w) H locs := Bd_del 5 hB
                        replace hB : Bd κ A s (lA κ q183 ((r (2 * 0)) * 5) F184 :: gO q182 (r (2 * 0)) (r (2 * 0 + 1)) q183 :: lA κ q180 ((r (2 * 0)) * 5) F181 :: gO q179 (r (2 * 0)) (r (2 * 0 + 1)) q180 :: mw κ a r f q (tb a) w) H locs := Bd_del 4 hB
                        replace hB : Bd κ A s (lA κ q183 ((r (2 * 0)) * 5) F184 :: gO q182 (r (2 * 0)) (r (2 * 0 + 1)) q183 :: lA κ q180 ((r (2 * 0)) * 5) F181 :: mw κ a r f q (tb a) w) H locs := Bd_del 3 hB
                        replace hB : Bd κ A s (lA κ q183 ((r (2 * 0)) * 5) F184 :: gO q182 (r (2 * 0)) (r (2 * 0 + 1)) q183 :: mw κ a r f q (tb a) w) H locs := Bd_del 2 hB
                        replace hB : Bd κ A s (lA κ q183 ((r (2 * 0)) * 5) F184 :: mw κ a r f q (tb a) w) H locs := Bd_del 1 hB
                        replace hB : Bd κ A s (mw κ a r f q (tb a) w) H locs := Bd_del 0 hB
                        rw [← hQ]
                        exact end_i hX hB hA3 rfl rfl ⟨1, rfl, (Or.inr rfl), rfl⟩ (Nat.le_of_ble_eq_true rfl) (Nat.le_of_ble_eq_true rfl) dX10_isSoundNow_196
                      · rw [neqP (a := r (2 * 0)) (b := r (2 * 0 + 1)) (by omega) (by omega)] at c194
                        refine lv_aload_n hx hb dX10_isSoundNow_177 rfl (lv_at hl 4 rfl) ?_
                        refine call_S (n := 1) (As := [.ref (a (2 + 2 * 0))]) (rest := []) hX hB (k_X10_determinantOf κ l (lA κ q183 ((r (2 * 0)) * 5) F184 :: gO q182 (r (2 * 0)) (r (2 * 0 + 1)) q183 :: lA κ q180 ((r (2 * 0)) * 5) F181 :: gO q179 (r (2 * 0)) (r (2 * 0 + 1)) q180 :: lA κ b6 ((r (2 * 0 + 1)) * 5) F11 :: gO g5 (r (2 * 0 + 1)) (r (2 * 0 + 1)) b6 :: lA κ b8 ((r (2 * 0)) * 5) F12 :: gO g7 (r (2 * 0)) (r (2 * 0)) b8 :: lA κ b10 ((r (2 * 0)) * 5) F13 :: gO g9 (r (2 * 0)) (r (2 * 0 + 1)) b10 :: (q4, .inr (10, [.ref g9, .ref g7, .ref g5, .int S14, .int S15, .int (nI K16), .int G17])) :: mw κ a r f q (tb a) w) (2 + 2 * 0 + 11) (3 + 2 * 0 + 11) (a (2 + 2 * 0)) (a (3 + 2 * 0)) (r (2 * 0)) (r (2 * 0 + 1)) (f 0) (mwG (i := 0) (a := a) (r := r) (f := f) (q := q) (T := tb a) (w := w) (by omega)) (mwA (i := 0) (a := a) (r := r) (f := f) (q := q) (T := tb a) (w := w) (by omega)) (mok_shp (i := 0) hm (by omega)) (by omega)) ⟨by decide, by decide, by decide +kernel⟩ wm_7_72 wm_7_73 wm_1_6 wm_7_74 ⟨Nat.le_of_ble_eq_true rfl, Nat.le_of_ble_eq_true rfl⟩ ⟨Nat.le_of_ble_eq_true rfl, Nat.le_of_ble_eq_true rfl⟩ rfl hl.1 rfl (Nat.le_of_ble_eq_true rfl) dX10_isSoundNow_178 (fun o w' H locs hp hB => ?_)
                        obtain ⟨rfl, hw9⟩ := hp
                        replace hB : Bd κ A s (lA κ q183 ((r (2 * 0)) * 5) F184 :: gO q182 (r (2 * 0)) (r (2 * 0 + 1)) q183 :: lA κ q180 ((r (2 * 0)) * 5) F181 :: gO q179 (r (2 * 0)) (r (2 * 0 + 1)) q180 :: lA κ b6 ((r (2 * 0 + 1)) * 5) F11 :: gO g5 (r (2 * 0 + 1)) (r (2 * 0 + 1)) b6 :: lA κ b8 ((r (2 * 0)) * 5) F12 :: gO g7 (r (2 * 0)) (r (2 * 0)) b8 :: lA κ b10 ((r (2 * 0)) * 5) F13 :: gO g9 (r (2 * 0)) (r (2 * 0 + 1)) b10 :: (q4, .inr (10, [.ref g9, .ref g7, .ref g5, .int S14, .int S15, .int (nI K16), .int G17])) :: mw κ a r f q (tb a) w) H locs := by rw [hw9] at hB; exact hB
                        refine W.eq (g2 := F0 m 181 ls [.long (mnv (f 0) (r (2 * 0 + 1)) (r (2 * 0)) (2 ^ (r (2 * 0)) - 1) (2 ^ (r (2 * 0 + 1)) - 1))]) rfl ?_
                        refine lv_aload_n hx hb dX10_isSoundNow_181 rfl (lv_at hl 4 rfl) ?_
                        refine lv_iconst (v := 0) hx hb dX10_isSoundNow_182 (by decide) ?_
                        refine lv_iconst (v := 0) hx hb dX10_isSoundNow_183 (by decide) ?_
                        refine call_S (n := 3) (As := [.ref (a (2 + 2 * 0)), .int 0, .int 0]) (rest := [.long (mnv (f 0) (r (2 * 0 + 1)) (r (2 * 0)) (2 ^ (r (2 * 0)) - 1) (2 ^ (r (2 * 0 + 1)) - 1))]) hX hB (k_X10_bySequences κ l (lA κ q183 ((r (2 * 0)) * 5) F184 :: gO q182 (r (2 * 0)) (r (2 * 0 + 1)) q183 :: lA κ q180 ((r (2 * 0)) * 5) F181 :: gO q179 (r (2 * 0)) (r (2 * 0 + 1)) q180 :: lA κ b6 ((r (2 * 0 + 1)) * 5) F11 :: gO g5 (r (2 * 0 + 1)) (r (2 * 0 + 1)) b6 :: lA κ b8 ((r (2 * 0)) * 5) F12 :: gO g7 (r (2 * 0)) (r (2 * 0)) b8 :: lA κ b10 ((r (2 * 0)) * 5) F13 :: gO g9 (r (2 * 0)) (r (2 * 0 + 1)) b10 :: (q4, .inr (10, [.ref g9, .ref g7, .ref g5, .int S14, .int S15, .int (nI K16), .int G17])) :: mw κ a r f q (tb a) w) (2 + 2 * 0 + 11) (3 + 2 * 0 + 11) (a (2 + 2 * 0)) (a (3 + 2 * 0)) (r (2 * 0)) (r (2 * 0 + 1)) (f 0) 0 0 0 (mwG (i := 0) (a := a) (r := r) (f := f) (q := q) (T := tb a) (w := w) (by omega)) (mwA (i := 0) (a := a) (r := r) (f := f) (q := q) (T := tb a) (w := w) (by omega)) (mok_shp (i := 0) hm (by omega)) rfl (by omega)) ⟨by decide, by decide, by decide +kernel⟩ wm_7_84 wm_7_85 wm_1_6 wm_7_86 ⟨Nat.le_of_ble_eq_true rfl, Nat.le_of_ble_eq_true rfl⟩ ⟨Nat.le_of_ble_eq_true rfl, Nat.le_of_ble_eq_true rfl⟩ rfl hl.1 rfl (Nat.le_of_ble_eq_true rfl) dX10_isSoundNow_184 (fun o w' H locs hp hB => ?_)
                        obtain ⟨z195, rfl, hw9⟩ := hp
                        replace hB : Bd κ A s (lA κ q183 ((r (2 * 0)) * 5) F184 :: gO q182 (r (2 * 0)) (r (2 * 0 + 1)) q183 :: lA κ q180 ((r (2 * 0)) * 5) F181 :: gO q179 (r (2 * 0)) (r (2 * 0 + 1)) q180 :: lA κ b6 ((r (2 * 0 + 1)) * 5) F11 :: gO g5 (r (2 * 0 + 1)) (r (2 * 0 + 1)) b6 :: lA κ b8 ((r (2 * 0)) * 5) F12 :: gO g7 (r (2 * 0)) (r (2 * 0)) b8 :: lA κ b10 ((r (2 * 0)) * 5) F13 :: gO g9 (r (2 * 0)) (r (2 * 0 + 1)) b10 :: (q4, .inr (10, [.ref g9, .ref g7, .ref g5, .int S14, .int S15, .int (nI K16), .int G17])) :: mw κ a r f q (tb a) w) H locs := by rw [hw9] at hB; exact hB
                        refine W.eq (g2 := F0 m 187 ls [.long z195, .long (mnv (f 0) (r (2 * 0 + 1)) (r (2 * 0)) (2 ^ (r (2 * 0)) - 1) (2 ^ (r (2 * 0 + 1)) - 1))]) rfl ?_
                        refine W.lcmp hx hb dX10_isSoundNow_187 ?_
                        refine lv_if_ne (tgt := 195) hx hb dX10_isSoundNow_188 (by decide) (fun c196 => ?_) (fun c196 => ?_)
                        · refine lv_iconst (v := 0) hx hb dX10_isSoundNow_195 (by decide) ?_
                          replace hB : Bd κ A s (lA κ q183 ((r (2 * 0)) * 5) F184 :: gO q182 (r (2 * 0)) (r (2 * 0 + 1)) q183 :: lA κ q180 ((r (2 * 0)) * 5) F181 :: gO q179 (r (2 * 0)) (r (2 * 0 + 1)) q180 :: lA κ b6 ((r (2 * 0 + 1)) * 5) F11 :: gO g5 (r (2 * 0 + 1)) (r (2 * 0 + 1)) b6 :: lA κ b8 ((r (2 * 0)) * 5) F12 :: gO g7 (r (2 * 0)) (r (2 * 0)) b8 :: lA κ b10 ((r (2 * 0)) * 5) F13 :: gO g9 (r (2 * 0)) (r (2 * 0 + 1)) b10 :: mw κ a r f q (tb a) w) H locs := Bd_del 10 hB
                          replace hB : Bd κ A s (lA κ q183 ((r (2 * 0)) * 5) F184 :: gO q182 (r (2 * 0)) (r (2 * 0 + 1)) q183 :: lA κ q180 ((r (2 * 0)) * 5) F181 :: gO q179 (r (2 * 0)) (r (2 * 0 + 1)) q180 :: lA κ b6 ((r (2 * 0 + 1)) * 5) F11 :: gO g5 (r (2 * 0 + 1)) (r (2 * 0 + 1)) b6 :: lA κ b8 ((r (2 * 0)) * 5) F12 :: gO g7 (r (2 * 0)) (r (2 * 0)) b8 :: lA κ b10 ((r (2 * 0)) * 5) F13 :: mw κ a r f q (tb a) w) H locs := Bd_del 9 hB
                          replace hB : Bd κ A s (lA κ q183 ((r (2 * 0)) * 5) F184 :: gO q182 (r (2 * 0)) (r (2 * 0 + 1)) q183 :: lA κ q180 ((r (2 * 0)) * 5) F181 :: gO q179 (r (2 * 0)) (r (2 * 0 + 1)) q180 :: lA κ b6 ((r (2 * 0 + 1)) * 5) F11 :: gO g5 (r (2 * 0 + 1)) (r (2 * 0 + 1)) b6 :: lA κ b8 ((r (2 * 0)) * 5) F12 :: gO g7 (r (2 * 0)) (r (2 * 0)) b8 :: mw κ a r f q (tb a) w) H locs := Bd_del 8 hB
                          replace hB : Bd κ A s (lA κ q183 ((r (2 * 0)) * 5) F184 :: gO q182 (r (2 * 0)) (r (2 * 0 + 1)) q183 :: lA κ q180 ((r (2 * 0)) * 5) F181 :: gO q179 (r (2 * 0)) (r (2 * 0 + 1)) q180 :: lA κ b6 ((r (2 * 0 + 1)) * 5) F11 :: gO g5 (r (2 * 0 + 1)) (r (2 * 0 + 1)) b6 :: lA κ b8 ((r (2 * 0)) * 5) F12 :: mw κ a r f q (tb a) w) H locs := Bd_del 7 hB
                          replace hB : Bd κ A s (lA κ q183 ((r (2 * 0)) * 5) F184 :: gO q182 (r (2 * 0)) (r (2 * 0 + 1)) q183 :: lA κ q180 ((r (2 * 0)) * 5) F181 :: gO q179 (r (2 * 0)) (r (2 * 0 + 1)) q180 :: lA κ b6 ((r (2 * 0 + 1)) * 5) F11 :: gO g5 (r (2 * 0 + 1)) (r (2 * 0 + 1)) b6 :: mw κ a r f q (tb a) w) H locs := Bd_del 6 hB
                          replace hB : Bd κ A s (lA κ q183 ((r (2 * 0)) * 5) F184 :: gO q182 (r (2 * 0)) (r (2 * 0 + 1)) q183 :: lA κ q180 ((r (2 * 0)) * 5) F181 :: gO q179 (r (2 * 0)) (r (2 * 0 + 1)) q180 :: lA κ b6 ((r (2 * 0 + 1)) * 5) F11 :: mw κ a r f q (tb a) w) H locs := Bd_del 5 hB
                          replace hB : Bd κ A s (lA κ q183 ((r (2 * 0)) * 5) F184 :: gO q182 (r (2 * 0)) (r (2 * 0 + 1)) q183 :: lA κ q180 ((r (2 * 0)) * 5) F181 :: gO q179 (r (2 * 0)) (r (2 * 0 + 1)) q180 :: mw κ a r f q (tb a) w) H locs := Bd_del 4 hB
                          replace hB : Bd κ A s (lA κ q183 ((r (2 * 0)) * 5) F184 :: gO q182 (r (2 * 0)) (r (2 * 0 + 1)) q183 :: lA κ q180 ((r (2 * 0)) * 5) F181 :: mw κ a r f q (tb a) w) H locs := Bd_del 3 hB
                          replace hB : Bd κ A s (lA κ q183 ((r (2 * 0)) * 5) F184 :: gO q182 (r (2 * 0)) (r (2 * 0 + 1)) q183 :: mw κ a r f q (tb a) w) H locs := Bd_del 2 hB
                          replace hB : Bd κ A s (lA κ q183 ((r (2 * 0)) * 5) F184 :: mw κ a r f q (tb a) w) H locs := Bd_del 1 hB
                          replace hB : Bd κ A s (mw κ a r f q (tb a) w) H locs := Bd_del 0 hB
                          rw [← hQ]
                          exact end_i hX hB hA3 rfl rfl ⟨0, rfl, (Or.inl rfl), rfl⟩ (Nat.le_of_ble_eq_true rfl) (Nat.le_of_ble_eq_true rfl) dX10_isSoundNow_196
                        · refine lv_iconst (v := 1) hx hb dX10_isSoundNow_191 (by decide) ?_
                          refine lv_goto (tgt := 196) hx hb dX10_isSoundNow_192 (by decide) ?_
                          replace hB : Bd κ A s (lA κ q183 ((r (2 * 0)) * 5) F184 :: gO q182 (r (2 * 0)) (r (2 * 0 + 1)) q183 :: lA κ q180 ((r (2 * 0)) * 5) F181 :: gO q179 (r (2 * 0)) (r (2 * 0 + 1)) q180 :: lA κ b6 ((r (2 * 0 + 1)) * 5) F11 :: gO g5 (r (2 * 0 + 1)) (r (2 * 0 + 1)) b6 :: lA κ b8 ((r (2 * 0)) * 5) F12 :: gO g7 (r (2 * 0)) (r (2 * 0)) b8 :: lA κ b10 ((r (2 * 0)) * 5) F13 :: gO g9 (r (2 * 0)) (r (2 * 0 + 1)) b10 :: mw κ a r f q (tb a) w) H locs := Bd_del 10 hB
                          replace hB : Bd κ A s (lA κ q183 ((r (2 * 0)) * 5) F184 :: gO q182 (r (2 * 0)) (r (2 * 0 + 1)) q183 :: lA κ q180 ((r (2 * 0)) * 5) F181 :: gO q179 (r (2 * 0)) (r (2 * 0 + 1)) q180 :: lA κ b6 ((r (2 * 0 + 1)) * 5) F11 :: gO g5 (r (2 * 0 + 1)) (r (2 * 0 + 1)) b6 :: lA κ b8 ((r (2 * 0)) * 5) F12 :: gO g7 (r (2 * 0)) (r (2 * 0)) b8 :: lA κ b10 ((r (2 * 0)) * 5) F13 :: mw κ a r f q (tb a) w) H locs := Bd_del 9 hB
                          replace hB : Bd κ A s (lA κ q183 ((r (2 * 0)) * 5) F184 :: gO q182 (r (2 * 0)) (r (2 * 0 + 1)) q183 :: lA κ q180 ((r (2 * 0)) * 5) F181 :: gO q179 (r (2 * 0)) (r (2 * 0 + 1)) q180 :: lA κ b6 ((r (2 * 0 + 1)) * 5) F11 :: gO g5 (r (2 * 0 + 1)) (r (2 * 0 + 1)) b6 :: lA κ b8 ((r (2 * 0)) * 5) F12 :: gO g7 (r (2 * 0)) (r (2 * 0)) b8 :: mw κ a r f q (tb a) w) H locs := Bd_del 8 hB
                          replace hB : Bd κ A s (lA κ q183 ((r (2 * 0)) * 5) F184 :: gO q182 (r (2 * 0)) (r (2 * 0 + 1)) q183 :: lA κ q180 ((r (2 * 0)) * 5) F181 :: gO q179 (r (2 * 0)) (r (2 * 0 + 1)) q180 :: lA κ b6 ((r (2 * 0 + 1)) * 5) F11 :: gO g5 (r (2 * 0 + 1)) (r (2 * 0 + 1)) b6 :: lA κ b8 ((r (2 * 0)) * 5) F12 :: mw κ a r f q (tb a) w) H locs := Bd_del 7 hB
                          replace hB : Bd κ A s (lA κ q183 ((r (2 * 0)) * 5) F184 :: gO q182 (r (2 * 0)) (r (2 * 0 + 1)) q183 :: lA κ q180 ((r (2 * 0)) * 5) F181 :: gO q179 (r (2 * 0)) (r (2 * 0 + 1)) q180 :: lA κ b6 ((r (2 * 0 + 1)) * 5) F11 :: gO g5 (r (2 * 0 + 1)) (r (2 * 0 + 1)) b6 :: mw κ a r f q (tb a) w) H locs := Bd_del 6 hB
                          replace hB : Bd κ A s (lA κ q183 ((r (2 * 0)) * 5) F184 :: gO q182 (r (2 * 0)) (r (2 * 0 + 1)) q183 :: lA κ q180 ((r (2 * 0)) * 5) F181 :: gO q179 (r (2 * 0)) (r (2 * 0 + 1)) q180 :: lA κ b6 ((r (2 * 0 + 1)) * 5) F11 :: mw κ a r f q (tb a) w) H locs := Bd_del 5 hB
                          replace hB : Bd κ A s (lA κ q183 ((r (2 * 0)) * 5) F184 :: gO q182 (r (2 * 0)) (r (2 * 0 + 1)) q183 :: lA κ q180 ((r (2 * 0)) * 5) F181 :: gO q179 (r (2 * 0)) (r (2 * 0 + 1)) q180 :: mw κ a r f q (tb a) w) H locs := Bd_del 4 hB
                          replace hB : Bd κ A s (lA κ q183 ((r (2 * 0)) * 5) F184 :: gO q182 (r (2 * 0)) (r (2 * 0 + 1)) q183 :: lA κ q180 ((r (2 * 0)) * 5) F181 :: mw κ a r f q (tb a) w) H locs := Bd_del 3 hB
                          replace hB : Bd κ A s (lA κ q183 ((r (2 * 0)) * 5) F184 :: gO q182 (r (2 * 0)) (r (2 * 0 + 1)) q183 :: mw κ a r f q (tb a) w) H locs := Bd_del 2 hB
                          replace hB : Bd κ A s (lA κ q183 ((r (2 * 0)) * 5) F184 :: mw κ a r f q (tb a) w) H locs := Bd_del 1 hB
                          replace hB : Bd κ A s (mw κ a r f q (tb a) w) H locs := Bd_del 0 hB
                          rw [← hQ]
                          exact end_i hX hB hA3 rfl rfl ⟨1, rfl, (Or.inr rfl), rfl⟩ (Nat.le_of_ble_eq_true rfl) (Nat.le_of_ble_eq_true rfl) dX10_isSoundNow_196
              · rw [nleP (a := r (2 * 0 + 1)) (b := y6_42) (by omega) (by omega)] at c171
                refine lv_lload hx hb dX10_isSoundNow_67 (lv_at hl 1 rfl) ?_
                refine lv_aload_n hx hb dX10_isSoundNow_69 rfl (lv_at hl 3 rfl) ?_
                refine gf (k0 := 6) hX hB rfl rfl in9 0 (by decide) wm_6_218 rfl rfl dX10_isSoundNow_70 ?_
                refine lv_iload hx hb dX10_isSoundNow_73 (lv_at hl 0 rfl) ?_
                refine lv_iload hx hb dX10_isSoundNow_75 (lv_at hl 0 rfl) ?_
                refine call_V (n := 2) (k0 := 5) (As := [.int (nI y6_42), .int (nI y6_42)]) (rest := [.long y4_42]) hX hB (k_X7_at κ l (lA κ b6 ((r (2 * 0 + 1)) * 5) F11 :: gO g5 (r (2 * 0 + 1)) (r (2 * 0 + 1)) b6 :: lA κ b8 ((r (2 * 0)) * 5) F12 :: gO g7 (r (2 * 0)) (r (2 * 0)) b8 :: lA κ b10 ((r (2 * 0)) * 5) F13 :: gO g9 (r (2 * 0)) (r (2 * 0 + 1)) b10 :: (q4, .inr (10, [.ref g9, .ref g7, .ref g5, .int S14, .int S15, .int (nI K16), .int G17])) :: mw κ a r f q (tb a) w) 5 4 g9 b10 (r (2 * 0)) (r (2 * 0 + 1)) F13 (nI y6_42) y6_42 (nI y6_42) y6_42 rfl rfl (mok_shp (i := 0) hm (by omega)) rfl rfl (by omega)) ⟨rfl, by decide, by decide, by decide +kernel⟩ wm_5_233 wm_5_234 wm_5_235 wm_1_7 wm_5_236 ⟨Nat.le_of_ble_eq_true rfl, Nat.le_of_ble_eq_true rfl⟩ ⟨Nat.le_of_ble_eq_true rfl, Nat.le_of_ble_eq_true rfl⟩ rfl rfl rfl rfl hl.1 rfl (Nat.le_of_ble_eq_true rfl) dX10_isSoundNow_77 (fun o w' H locs hp hB => ?_)
                obtain ⟨rfl, hw9⟩ := hp
                replace hB : Bd κ A s (lA κ b6 ((r (2 * 0 + 1)) * 5) F11 :: gO g5 (r (2 * 0 + 1)) (r (2 * 0 + 1)) b6 :: lA κ b8 ((r (2 * 0)) * 5) F12 :: gO g7 (r (2 * 0)) (r (2 * 0)) b8 :: lA κ b10 ((r (2 * 0)) * 5) F13 :: gO g9 (r (2 * 0)) (r (2 * 0 + 1)) b10 :: (q4, .inr (10, [.ref g9, .ref g7, .ref g5, .int S14, .int S15, .int (nI K16), .int G17])) :: mw κ a r f q (tb a) w) H locs := by rw [hw9] at hB; exact hB
                refine W.eq (g2 := F0 m 80 ls [.long (F13 (y6_42 * 5 + y6_42)), .long y4_42]) rfl ?_
                refine lv_lmul hx hb dX10_isSoundNow_80 ?_
                refine lv_lstore (lv' := [(4, .long (y4_42 * (F13 (y6_42 * 5 + y6_42)))), (6, .int (nI y6_42)), (3, .int y3_42), (2, .ref q4), (1, .ref (a (2 + 2 * 0))), (0, .ref (a 0))]) hx hb dX10_isSoundNow_81 hl (by decide) rfl (fun ls hl => ?_)
                refine lv_iload_n hx hb dX10_isSoundNow_83 rfl (lv_at hl 2 rfl) ?_
                refine lv_lload hx hb dX10_isSoundNow_84 (lv_at hl 0 rfl) ?_
                refine lv_aload_n hx hb dX10_isSoundNow_86 rfl (lv_at hl 4 rfl) ?_
                refine lv_iload hx hb dX10_isSoundNow_87 (lv_at hl 1 rfl) ?_
                refine lv_iconst (v := 1) hx hb dX10_isSoundNow_89 (by decide) ?_
                refine lv_iadd hx hb dX10_isSoundNow_90 ?_
                refine eqi (y := nI (y6_42 + 1)) (nI_add y6_42 1) ?_
                refine call_V (n := 1) (k0 := (2 + 2 * 0 + 7)) (As := [.int (nI (y6_42 + 1))]) (rest := [.long (y4_42 * (F13 (y6_42 * 5 + y6_42))), .int y3_42]) hX hB (k_X7_divisor κ l (lA κ b6 ((r (2 * 0 + 1)) * 5) F11 :: gO g5 (r (2 * 0 + 1)) (r (2 * 0 + 1)) b6 :: lA κ b8 ((r (2 * 0)) * 5) F12 :: gO g7 (r (2 * 0)) (r (2 * 0)) b8 :: lA κ b10 ((r (2 * 0)) * 5) F13 :: gO g9 (r (2 * 0)) (r (2 * 0 + 1)) b10 :: (q4, .inr (10, [.ref g9, .ref g7, .ref g5, .int S14, .int S15, .int (nI K16), .int G17])) :: mw κ a r f q (tb a) w) (2 + 2 * 0 + 7) (3 + 2 * 0 + 7) (a (2 + 2 * 0)) (a (3 + 2 * 0)) (r (2 * 0)) (r (2 * 0 + 1)) (f 0) (nI (y6_42 + 1)) (mwG (i := 0) (a := a) (r := r) (f := f) (q := q) (T := tb a) (w := w) (by omega)) (mwA (i := 0) (a := a) (r := r) (f := f) (q := q) (T := tb a) (w := w) (by omega)) (mok_shp (i := 0) hm (by omega))) ⟨rfl, by decide, by decide, by decide +kernel⟩ wm_7_97 wm_7_98 wm_7_99 wm_1_7 wm_7_100 ⟨Nat.le_of_ble_eq_true rfl, Nat.le_of_ble_eq_true rfl⟩ ⟨Nat.le_of_ble_eq_true rfl, Nat.le_of_ble_eq_true rfl⟩ (mwG (i := 0) (a := a) (r := r) (f := f) (q := q) (T := tb a) (w := w) (by omega)) rfl rfl rfl hl.1 rfl (Nat.le_of_ble_eq_true rfl) dX10_isSoundNow_91 (fun o w' H locs hp hB => ?_)
                obtain ⟨x197, rfl, hw9⟩ := hp
                replace hB : Bd κ A s (lA κ b6 ((r (2 * 0 + 1)) * 5) F11 :: gO g5 (r (2 * 0 + 1)) (r (2 * 0 + 1)) b6 :: lA κ b8 ((r (2 * 0)) * 5) F12 :: gO g7 (r (2 * 0)) (r (2 * 0)) b8 :: lA κ b10 ((r (2 * 0)) * 5) F13 :: gO g9 (r (2 * 0)) (r (2 * 0 + 1)) b10 :: (q4, .inr (10, [.ref g9, .ref g7, .ref g5, .int S14, .int S15, .int (nI K16), .int G17])) :: mw κ a r f q (tb a) w) H locs := by rw [hw9] at hB; exact hB
                refine W.eq (g2 := F0 m 94 ls [.long x197, .long (y4_42 * (F13 (y6_42 * 5 + y6_42))), .int y3_42]) rfl ?_
                refine W.lcmp hx hb dX10_isSoundNow_94 ?_
                refine lv_if_ne (tgt := 102) hx hb dX10_isSoundNow_95 (by decide) (fun c198 => ?_) (fun c198 => ?_)
                · refine lv_iconst (v := 0) hx hb dX10_isSoundNow_102 (by decide) ?_
                  refine lv_iand hx hb dX10_isSoundNow_103 ?_
                  refine lv_istore_n (lv' := [(3, .int (y3_42 &&& 0)), (4, .long (y4_42 * (F13 (y6_42 * 5 + y6_42)))), (6, .int (nI y6_42)), (2, .ref q4), (1, .ref (a (2 + 2 * 0))), (0, .ref (a 0))]) hx hb dX10_isSoundNow_104 rfl hl (by decide) rfl (fun ls hl => ?_)
                  refine lv_iinc (v := nI (y6_42 + 1)) (lv' := [(6, .int (nI (y6_42 + 1))), (3, .int (y3_42 &&& 0)), (4, .long (y4_42 * (F13 (y6_42 * 5 + y6_42)))), (2, .ref q4), (1, .ref (a (2 + 2 * 0))), (0, .ref (a 0))]) hx hb dX10_isSoundNow_105 hl (k := 2) rfl (nI_add y6_42 1) (by decide) rfl (fun ls hl => ?_)
                  refine lv_goto (tgt := 42) hx hb dX10_isSoundNow_108 (by decide) ?_
                  exact ih42 (y6_42 + 1) (y4_42 * (F13 (y6_42 * 5 + y6_42))) (y3_42 &&& 0) _ _ (by omega) (by omega) hB _ (lv_sub hl [0, 2, 1, 3, 4, 5] rfl)
                · refine lv_iconst (v := 1) hx hb dX10_isSoundNow_98 (by decide) ?_
                  refine lv_goto (tgt := 103) hx hb dX10_isSoundNow_99 (by decide) ?_
                  refine lv_iand hx hb dX10_isSoundNow_103 ?_
                  refine lv_istore_n (lv' := [(3, .int (y3_42 &&& 1)), (4, .long (y4_42 * (F13 (y6_42 * 5 + y6_42)))), (6, .int (nI y6_42)), (2, .ref q4), (1, .ref (a (2 + 2 * 0))), (0, .ref (a 0))]) hx hb dX10_isSoundNow_104 rfl hl (by decide) rfl (fun ls hl => ?_)
                  refine lv_iinc (v := nI (y6_42 + 1)) (lv' := [(6, .int (nI (y6_42 + 1))), (3, .int (y3_42 &&& 1)), (4, .long (y4_42 * (F13 (y6_42 * 5 + y6_42)))), (2, .ref q4), (1, .ref (a (2 + 2 * 0))), (0, .ref (a 0))]) hx hb dX10_isSoundNow_105 hl (k := 2) rfl (nI_add y6_42 1) (by decide) rfl (fun ls hl => ?_)
                  refine lv_goto (tgt := 42) hx hb dX10_isSoundNow_108 (by decide) ?_
                  exact ih42 (y6_42 + 1) (y4_42 * (F13 (y6_42 * 5 + y6_42))) (y3_42 &&& 1) _ _ (by omega) (by omega) hB _ (lv_sub hl [0, 2, 1, 3, 4, 5] rfl)
      exact lp42 _ 0 1 1 _ _ (by omega) (Nat.lt_succ_self _) hB _ hl
    · replace c3 : ¬ nI (r (2 * 0 + 1)) ≤ nI 3 := c3
      rw [nleP (by omega) (by omega)] at c3
      refine lv_iconst (v := 1) hx hb dX10_isSoundNow_23 (by decide) ?_
      rw [← hQ]
      exact end_i hX hB hA3 rfl rfl ⟨1, rfl, (Or.inr rfl), rfl⟩ (Nat.le_of_ble_eq_true rfl) (Nat.le_of_ble_eq_true rfl) dX10_isSoundNow_24
set_option maxHeartbeats 4000000 in
set_option maxRecDepth 100000 in
theorem k_X10_isSound (κ : Kt) (l : Launch) (w : va_W) (a r : Nat → Nat) (f : Nat → Nat → Int64) (q : Nat → Int32) (hm : mok r f) : CM κ l yX10_isSound cX10_isSound 1 (some .boolean) 133 3063 11 122 [.ref (a 0)] (mw κ a r f q (tb a) w) (fun o w' => ∃ (x : Int32) (q' : Nat → Int32), o = some (.int x) ∧ (x = 0 ∨ x = 1) ∧ (q' 2 = q 2) ∧ w' = mw κ a r f q' (tb a) w) := by
  refine CM_begin (plainFor_of_name (by decide)) (Nat.le_of_ble_eq_true rfl) ?_
  intro p e s m args below meth c A Q hX hnm hA3 hQ hB ls hl
  have hx := hX.1.1
  have hb := hX.1.2.1
  have hl : lv_has ls 1 [(0, .ref (a 0))] := hl
  refine lv_aload_n hx hb dX10_isSound_0 rfl (lv_at hl 0 rfl) ?_
  refine lv_iconst (v := 0) hx hb dX10_isSound_1 (by decide) ?_
  refine pf (ty := .int) (k0 := 0) hX hB (mw0x (a := a) (r := r) (f := f) (q := q) (T := tb a) (w := w) rfl) rfl in10 tyX10_ok nmX10 4 (by decide) wm_5_166 rfl rfl rfl rfl rfl (Nat.le_of_ble_eq_true rfl) (w1 := mw κ a r f (va_up q 3 0) (tb a) w) (mwQ3x rfl _) dX10_isSound_2 (fun H locs hB => ?_)
  refine lv_aload_n hx hb dX10_isSound_5 rfl (lv_at hl 0 rfl) ?_
  refine call_V (n := 0) (k0 := 0) (As := []) (rest := []) hX hB (k_X10_isSoundNow κ l w a r f (va_up q 3 0) hm) ⟨rfl, by decide, by decide, by decide +kernel⟩ wm_7_170 wm_7_172 wp_50 wm_1_6 wm_7_173 ⟨Nat.le_of_ble_eq_true rfl, Nat.le_of_ble_eq_true rfl⟩ ⟨Nat.le_of_ble_eq_true rfl, Nat.le_of_ble_eq_true rfl⟩ (mw0x (a := a) (r := r) (f := f) (q := (va_up q 3 0)) (T := tb a) (w := w) rfl) rfl rfl rfl hl.1 rfl (Nat.le_of_ble_eq_true rfl) dX10_isSound_6 (fun o w' H locs hp hB => ?_)
  obtain ⟨x1, rfl, hf2, hw9⟩ := hp
  replace hB : Bd κ A s (mw κ a r f (va_up q 3 0) (tb a) w) H locs := by rw [hw9] at hB; exact hB
  rcases hf2 with rfl | rfl
  · refine W.eq (g2 := F0 m 9 ls [.int 0]) rfl ?_
    rw [← hQ]
    exact end_i hX hB hA3 rfl rfl ⟨0, (va_up q 3 0), rfl, (Or.inl rfl), rfl, rfl⟩ (Nat.le_of_ble_eq_true rfl) (Nat.le_of_ble_eq_true rfl) dX10_isSound_9
  · refine W.eq (g2 := F0 m 9 ls [.int 1]) rfl ?_
    rw [← hQ]
    exact end_i hX hB hA3 rfl rfl ⟨1, (va_up q 3 0), rfl, (Or.inr rfl), rfl, rfl⟩ (Nat.le_of_ble_eq_true rfl) (Nat.le_of_ble_eq_true rfl) dX10_isSound_9
set_option maxHeartbeats 4000000 in
set_option maxRecDepth 100000 in
theorem k_X10_digest (κ : Kt) (l : Launch) (w : va_W) (a r : Nat → Nat) (f : Nat → Nat → Int64) (q : Nat → Int32) (hm : mok r f) : CM κ l yX10_digest cX10_digest 9 (some .long) 133 3063 11 122 [.ref (a 0)] (mw κ a r f q (tb a) w) (fun o w' => ∃ (x : Int64) (q' : Nat → Int32), o = some (.long x) ∧ (q' 2 = q 2) ∧ w' = mw κ a r f q' (tb a) w) := by
  refine CM_begin (plainFor_of_name (by decide)) (Nat.le_of_ble_eq_true rfl) ?_
  intro p e s m args below meth c A Q hX hnm hA3 hQ hB ls hl
  have hx := hX.1.1
  have hb := hX.1.2.1
  have hl : lv_has ls 9 [(0, .ref (a 0))] := hl
  refine lv_aload_n hx hb dX10_digest_0 rfl (lv_at hl 0 rfl) ?_
  refine lv_iconst (v := 0) hx hb dX10_digest_1 (by decide) ?_
  refine pf (ty := .int) (k0 := 0) hX hB (mw0x (a := a) (r := r) (f := f) (q := q) (T := tb a) (w := w) rfl) rfl in10 tyX10_ok nmX10 4 (by decide) wm_5_166 rfl rfl rfl rfl rfl (Nat.le_of_ble_eq_true rfl) (w1 := mw κ a r f (va_up q 3 0) (tb a) w) (mwQ3x rfl _) dX10_digest_2 (fun H locs hB => ?_)
  refine lv_ldc2 (own := RX10) (v := 8032) hx hb hX.1.2.2.2.1 (hX.1.2.2.2.2 _ wm_7_178) dX10_digest_5 ?_
  refine lv_lstore_n (lv' := [(1, .long 8032), (0, .ref (a 0))]) hx hb dX10_digest_8 rfl hl (by decide) rfl (fun ls hl => ?_)
  refine lv_aload_n hx hb dX10_digest_9 rfl (lv_at hl 1 rfl) ?_
  refine gf (k0 := 0) hX hB (mw0x (a := a) (r := r) (f := f) (q := (va_up q 3 0)) (T := tb a) (w := w) rfl) rfl in10 0 (by decide) wm_5_162 rfl rfl dX10_digest_10 ?_
  refine lv_astore_n (lv' := [(3, .ref (a 1)), (1, .long 8032), (0, .ref (a 0))]) hx hb dX10_digest_13 rfl hl (by decide) rfl (fun ls hl => ?_)
  refine lv_aload_n hx hb dX10_digest_14 rfl (lv_at hl 0 rfl) ?_
  refine alenM (k0 := 1) (v := 4) hX hB (mw1 (a := a) (r := r) (f := f) (q := (va_up q 3 0)) (T := tb a) (w := w)) rfl dX10_digest_15 ?_
  refine lv_istore (lv' := [(4, .int 4), (3, .ref (a 1)), (1, .long 8032), (0, .ref (a 0))]) hx hb dX10_digest_16 hl (by decide) rfl (fun ls hl => ?_)
  refine lv_iconst (v := 0) hx hb dX10_digest_18 (by decide) ?_
  refine lv_istore (lv' := [(5, .int 0), (4, .int 4), (3, .ref (a 1)), (1, .long 8032), (0, .ref (a 0))]) hx hb dX10_digest_19 hl (by decide) rfl (fun ls hl => ?_)
  have lp21 : ∀ (nn : Nat) (y5_21 : Nat) (y1_21 : Int64) (H : Heap) (locs : List Loc), (y5_21 ≤ 4) → 4 + 1 - y5_21 < nn → Bd κ A s (mw κ a r f (va_up q 3 0) (tb a) w) H locs → ∀ ls : Array Slot, lv_has ls 9 [(5, .int (nI y5_21)), (4, .int 4), (3, .ref (a 1)), (1, .long y1_21), (0, .ref (a 0))] → W p l e (Rm 133 3063 11 122) s m args below meth c H locs 0 0 Q (F0 m 21 ls []) := by
    intro nn
    induction nn with
    | zero => intro y5_21 y1_21 H locs hn5_21 hμ; exact absurd hμ (Nat.not_lt_zero _)
    | succ nn ih21 =>
      intro y5_21 y1_21 H locs hn5_21 hμ21 hB ls hl
      refine lv_iload hx hb dX10_digest_21 (lv_at hl 0 rfl) ?_
      refine lv_iload hx hb dX10_digest_23 (lv_at hl 1 rfl) ?_
      refine lv_icmp_ge (tgt := 118) hx hb dX10_digest_25 (by decide) (fun c47 => ?_) (fun c47 => ?_)
      · replace c47 : nI 4 ≤ nI y5_21 := c47
        rw [nleP (by omega) (by omega)] at c47
        refine lv_iconst (v := 0) hx hb dX10_digest_118 (by decide) ?_
        refine lv_istore_n (lv' := [(3, .int 0), (5, .int (nI y5_21)), (4, .int 4), (1, .long y1_21), (0, .ref (a 0))]) hx hb dX10_digest_119 rfl hl (by decide) rfl (fun ls hl => ?_)
        have lp120 : ∀ (nn : Nat) (y3_120 : Nat) (y1_120 : Int64) (H : Heap) (locs : List Loc), (y3_120 ≤ 4) → 4 + 1 - y3_120 < nn → Bd κ A s (mw κ a r f (va_up q 3 0) (tb a) w) H locs → ∀ ls : Array Slot, lv_has ls 9 [(3, .int (nI y3_120)), (5, .int (nI y5_21)), (4, .int 4), (1, .long y1_120), (0, .ref (a 0))] → W p l e (Rm 133 3063 11 122) s m args below meth c H locs 0 0 Q (F0 m 120 ls []) := by
          intro nn
          induction nn with
          | zero => intro y3_120 y1_120 H locs hn3_120 hμ; exact absurd hμ (Nat.not_lt_zero _)
          | succ nn ih120 =>
            intro y3_120 y1_120 H locs hn3_120 hμ120 hB ls hl
            refine lv_iload_n hx hb dX10_digest_120 rfl (lv_at hl 0 rfl) ?_
            refine lv_iconst (v := 4) hx hb dX10_digest_121 (by decide) ?_
            refine lv_icmp_ge (tgt := 144) hx hb dX10_digest_122 (by decide) (fun c60 => ?_) (fun c60 => ?_)
            · replace c60 : nI 4 ≤ nI y3_120 := c60
              rw [nleP (by omega) (by omega)] at c60
              refine lv_lload_n hx hb dX10_digest_144 rfl (lv_at hl 3 rfl) ?_
              refine lv_ldc2 (own := RX10) (v := 31) hx hb hX.1.2.2.2.1 (hX.1.2.2.2.2 _ wm_7_179) dX10_digest_145 ?_
              refine lv_lmul hx hb dX10_digest_148 ?_
              refine lv_aload_n hx hb dX10_digest_149 rfl (lv_at hl 4 rfl) ?_
              refine call_V (n := 0) (k0 := 0) (As := []) (rest := [.long (y1_120 * 31)]) hX hB (k_X10_isSoundNow κ l w a r f (va_up q 3 0) hm) ⟨rfl, by decide, by decide, by decide +kernel⟩ wm_7_170 wm_7_172 wp_50 wm_1_6 wm_7_173 ⟨Nat.le_of_ble_eq_true rfl, Nat.le_of_ble_eq_true rfl⟩ ⟨Nat.le_of_ble_eq_true rfl, Nat.le_of_ble_eq_true rfl⟩ (mw0x (a := a) (r := r) (f := f) (q := (va_up q 3 0)) (T := tb a) (w := w) rfl) rfl rfl rfl hl.1 rfl (Nat.le_of_ble_eq_true rfl) dX10_digest_150 (fun o w' H locs hp hB => ?_)
              obtain ⟨x61, rfl, hf62, hw9⟩ := hp
              replace hB : Bd κ A s (mw κ a r f (va_up q 3 0) (tb a) w) H locs := by rw [hw9] at hB; exact hB
              rcases hf62 with rfl | rfl
              · refine W.eq (g2 := F0 m 153 ls [.int 0, .long (y1_120 * 31)]) rfl ?_
                refine lv_if_eq (tgt := 160) hx hb dX10_digest_153 (by decide) (fun _ => ?_) (fun c63 => False.elim (by revert c63; decide))
                refine lv_iconst (v := 0) hx hb dX10_digest_160 (by decide) ?_
                refine lv_i2l hx hb dX10_digest_161 rfl ?_
                refine lv_ladd hx hb dX10_digest_162 ?_
                rw [← hQ]
                exact end_l hX hB hA3 rfl ⟨((y1_120 * 31) + ((0).toInt64)), (va_up q 3 0), rfl, rfl, rfl⟩ (Nat.le_of_ble_eq_true rfl) (Nat.le_of_ble_eq_true rfl) dX10_digest_163
              · refine W.eq (g2 := F0 m 153 ls [.int 1, .long (y1_120 * 31)]) rfl ?_
                refine lv_if_eq (tgt := 160) hx hb dX10_digest_153 (by decide) (fun c64 => False.elim (by revert c64; decide)) (fun _ => ?_)
                refine lv_iconst (v := 1) hx hb dX10_digest_156 (by decide) ?_
                refine lv_goto (tgt := 161) hx hb dX10_digest_157 (by decide) ?_
                refine lv_i2l hx hb dX10_digest_161 rfl ?_
                refine lv_ladd hx hb dX10_digest_162 ?_
                rw [← hQ]
                exact end_l hX hB hA3 rfl ⟨((y1_120 * 31) + ((1).toInt64)), (va_up q 3 0), rfl, rfl, rfl⟩ (Nat.le_of_ble_eq_true rfl) (Nat.le_of_ble_eq_true rfl) dX10_digest_163
            · replace c60 : ¬ nI 4 ≤ nI y3_120 := c60
              rw [nleP (by omega) (by omega)] at c60
              refine lv_lload_n hx hb dX10_digest_125 rfl (lv_at hl 3 rfl) ?_
              refine lv_ldc2 (own := RX10) (v := 31) hx hb hX.1.2.2.2.1 (hX.1.2.2.2.2 _ wm_7_179) dX10_digest_126 ?_
              refine lv_lmul hx hb dX10_digest_129 ?_
              refine lv_aload_n hx hb dX10_digest_130 rfl (lv_at hl 4 rfl) ?_
              refine lv_iload_n hx hb dX10_digest_131 rfl (lv_at hl 0 rfl) ?_
              refine call_V (n := 1) (k0 := 0) (As := [.int (nI y3_120)]) (rest := [.long (y1_120 * 31)]) hX hB (k_X10_houseNow κ l w a r f (va_up q 3 0) (nI y3_120) hm) ⟨rfl, by decide, by decide, by decide +kernel⟩ wm_7_158 wm_7_160 wp_49 wm_1_6 wm_7_161 ⟨Nat.le_of_ble_eq_true rfl, Nat.le_of_ble_eq_true rfl⟩ ⟨Nat.le_of_ble_eq_true rfl, Nat.le_of_ble_eq_true rfl⟩ (mw0x (a := a) (r := r) (f := f) (q := (va_up q 3 0)) (T := tb a) (w := w) rfl) rfl rfl rfl hl.1 rfl (Nat.le_of_ble_eq_true rfl) dX10_digest_132 (fun o w' H locs hp hB => ?_)
              obtain ⟨x65, rfl, hw9⟩ := hp
              replace hB : Bd κ A s (mw κ a r f (va_up q 3 0) (tb a) w) H locs := by rw [hw9] at hB; exact hB
              refine W.eq (g2 := F0 m 135 ls [.int x65, .long (y1_120 * 31)]) rfl ?_
              refine lv_i2l hx hb dX10_digest_135 rfl ?_
              refine lv_ladd hx hb dX10_digest_136 ?_
              refine lv_lstore_n (lv' := [(1, .long ((y1_120 * 31) + ((x65).toInt64))), (3, .int (nI y3_120)), (5, .int (nI y5_21)), (4, .int 4), (0, .ref (a 0))]) hx hb dX10_digest_137 rfl hl (by decide) rfl (fun ls hl => ?_)
              refine lv_iinc (v := nI (y3_120 + 1)) (lv' := [(3, .int (nI (y3_120 + 1))), (1, .long ((y1_120 * 31) + ((x65).toInt64))), (5, .int (nI y5_21)), (4, .int 4), (0, .ref (a 0))]) hx hb dX10_digest_138 hl (k := 1) rfl (nI_add y3_120 1) (by decide) rfl (fun ls hl => ?_)
              refine lv_goto (tgt := 120) hx hb dX10_digest_141 (by decide) ?_
              exact ih120 (y3_120 + 1) ((y1_120 * 31) + ((x65).toInt64)) _ _ (by omega) (by omega) hB _ (lv_sub hl [0, 2, 3, 1, 4] rfl)
        exact lp120 _ 0 y1_21 _ _ (by omega) (Nat.lt_succ_self _) hB _ hl
      · replace c47 : ¬ nI 4 ≤ nI y5_21 := c47
        rw [nleP (by omega) (by omega)] at c47
        refine lv_aload_n hx hb dX10_digest_28 rfl (lv_at hl 2 rfl) ?_
        refine lv_iload hx hb dX10_digest_29 (lv_at hl 0 rfl) ?_
        refine aaldM (k0 := 1) hX hB (mw1 (a := a) (r := r) (f := f) (q := (va_up q 3 0)) (T := tb a) (w := w)) (vp_in_nI (n := y5_21) (by omega) (by omega)) (congrArg (tb a) (nI_clamp (n := y5_21) (by omega))) dX10_digest_31 ?_
        have hb66 := mok_r hm y5_21 (by omega)
        refine lv_astore (lv' := [(6, .ref (a (2 + 2 * y5_21))), (5, .int (nI y5_21)), (4, .int 4), (3, .ref (a 1)), (1, .long y1_21), (0, .ref (a 0))]) hx hb dX10_digest_32 hl (by decide) rfl (fun ls hl => ?_)
        refine lv_lload_n hx hb dX10_digest_34 rfl (lv_at hl 4 rfl) ?_
        refine lv_ldc2 (own := RX10) (v := 31) hx hb hX.1.2.2.2.1 (hX.1.2.2.2.2 _ wm_7_179) dX10_digest_35 ?_
        refine lv_lmul hx hb dX10_digest_38 ?_
        refine lv_aload hx hb dX10_digest_39 (lv_at hl 0 rfl) ?_
        refine gf (k0 := 2 + 2 * y5_21) hX hB (mwG (i := y5_21) (a := a) (r := r) (f := f) (q := (va_up q 3 0)) (T := tb a) (w := w) (by omega)) rfl in7 0 (by decide) wm_5_148 rfl rfl dX10_digest_41 ?_
        refine lv_i2l hx hb dX10_digest_44 rfl ?_
        refine lv_ladd hx hb dX10_digest_45 ?_
        refine lv_ldc2 (own := RX10) (v := 31) hx hb hX.1.2.2.2.1 (hX.1.2.2.2.2 _ wm_7_179) dX10_digest_46 ?_
        refine lv_lmul hx hb dX10_digest_49 ?_
        refine lv_aload hx hb dX10_digest_50 (lv_at hl 0 rfl) ?_
        refine gf (k0 := 2 + 2 * y5_21) hX hB (mwG (i := y5_21) (a := a) (r := r) (f := f) (q := (va_up q 3 0)) (T := tb a) (w := w) (by omega)) rfl in7 1 (by decide) wm_5_152 rfl rfl dX10_digest_52 ?_
        refine lv_i2l hx hb dX10_digest_55 rfl ?_
        refine lv_ladd hx hb dX10_digest_56 ?_
        refine lv_lstore_n (lv' := [(1, .long ((((y1_21 * 31) + (((nI (r (2 * y5_21)))).toInt64)) * 31) + (((nI (r (2 * y5_21 + 1)))).toInt64))), (6, .ref (a (2 + 2 * y5_21))), (5, .int (nI y5_21)), (4, .int 4), (3, .ref (a 1)), (0, .ref (a 0))]) hx hb dX10_digest_57 rfl hl (by decide) rfl (fun ls hl => ?_)
        refine lv_iconst (v := 0) hx hb dX10_digest_58 (by decide) ?_
        refine lv_istore (lv' := [(7, .int 0), (1, .long ((((y1_21 * 31) + (((nI (r (2 * y5_21)))).toInt64)) * 31) + (((nI (r (2 * y5_21 + 1)))).toInt64))), (6, .ref (a (2 + 2 * y5_21))), (5, .int (nI y5_21)), (4, .int 4), (3, .ref (a 1)), (0, .ref (a 0))]) hx hb dX10_digest_59 hl (by decide) rfl (fun ls hl => ?_)
        have lp61 : ∀ (nn : Nat) (y7_61 : Nat) (y1_61 : Int64) (H : Heap) (locs : List Loc), (y7_61 ≤ (r (2 * y5_21))) → (r (2 * y5_21)) + 1 - y7_61 < nn → Bd κ A s (mw κ a r f (va_up q 3 0) (tb a) w) H locs → ∀ ls : Array Slot, lv_has ls 9 [(7, .int (nI y7_61)), (1, .long y1_61), (6, .ref (a (2 + 2 * y5_21))), (5, .int (nI y5_21)), (4, .int 4), (3, .ref (a 1)), (0, .ref (a 0))] → W p l e (Rm 133 3063 11 122) s m args below meth c H locs 0 0 Q (F0 m 61 ls []) := by
          intro nn
          induction nn with
          | zero => intro y7_61 y1_61 H locs hn7_61 hμ; exact absurd hμ (Nat.not_lt_zero _)
          | succ nn ih61 =>
            intro y7_61 y1_61 H locs hn7_61 hμ61 hB ls hl
            refine lv_iload hx hb dX10_digest_61 (lv_at hl 0 rfl) ?_
            refine lv_aload hx hb dX10_digest_63 (lv_at hl 2 rfl) ?_
            refine gf (k0 := 2 + 2 * y5_21) hX hB (mwG (i := y5_21) (a := a) (r := r) (f := f) (q := (va_up q 3 0)) (T := tb a) (w := w) (by omega)) rfl in7 0 (by decide) wm_5_148 rfl rfl dX10_digest_65 ?_
            refine lv_icmp_ge (tgt := 112) hx hb dX10_digest_68 (by decide) (fun c75 => ?_) (fun c75 => ?_)
            · rw [nleP (a := r (2 * y5_21)) (b := y7_61) (by omega) (by omega)] at c75
              refine lv_iinc (v := nI (y5_21 + 1)) (lv' := [(5, .int (nI (y5_21 + 1))), (7, .int (nI y7_61)), (1, .long y1_61), (6, .ref (a (2 + 2 * y5_21))), (4, .int 4), (3, .ref (a 1)), (0, .ref (a 0))]) hx hb dX10_digest_112 hl (k := 3) rfl (nI_add y5_21 1) (by decide) rfl (fun ls hl => ?_)
              refine lv_goto (tgt := 21) hx hb dX10_digest_115 (by decide) ?_
              exact ih21 (y5_21 + 1) y1_61 _ _ (by omega) (by omega) hB _ (lv_sub hl [0, 4, 5, 2, 6] rfl)
            · rw [nleP (a := r (2 * y5_21)) (b := y7_61) (by omega) (by omega)] at c75
              refine lv_iconst (v := 0) hx hb dX10_digest_71 (by decide) ?_
              refine lv_istore (lv' := [(8, .int 0), (7, .int (nI y7_61)), (1, .long y1_61), (6, .ref (a (2 + 2 * y5_21))), (5, .int (nI y5_21)), (4, .int 4), (3, .ref (a 1)), (0, .ref (a 0))]) hx hb dX10_digest_72 hl (by decide) rfl (fun ls hl => ?_)
              have lp74 : ∀ (nn : Nat) (y8_74 : Nat) (y1_74 : Int64) (H : Heap) (locs : List Loc), (y8_74 ≤ (r (2 * y5_21 + 1))) → (r (2 * y5_21 + 1)) + 1 - y8_74 < nn → Bd κ A s (mw κ a r f (va_up q 3 0) (tb a) w) H locs → ∀ ls : Array Slot, lv_has ls 9 [(8, .int (nI y8_74)), (7, .int (nI y7_61)), (1, .long y1_74), (6, .ref (a (2 + 2 * y5_21))), (5, .int (nI y5_21)), (4, .int 4), (3, .ref (a 1)), (0, .ref (a 0))] → W p l e (Rm 133 3063 11 122) s m args below meth c H locs 0 0 Q (F0 m 74 ls []) := by
                intro nn
                induction nn with
                | zero => intro y8_74 y1_74 H locs hn8_74 hμ; exact absurd hμ (Nat.not_lt_zero _)
                | succ nn ih74 =>
                  intro y8_74 y1_74 H locs hn8_74 hμ74 hB ls hl
                  refine lv_iload hx hb dX10_digest_74 (lv_at hl 0 rfl) ?_
                  refine lv_aload hx hb dX10_digest_76 (lv_at hl 3 rfl) ?_
                  refine gf (k0 := 2 + 2 * y5_21) hX hB (mwG (i := y5_21) (a := a) (r := r) (f := f) (q := (va_up q 3 0)) (T := tb a) (w := w) (by omega)) rfl in7 1 (by decide) wm_5_152 rfl rfl dX10_digest_78 ?_
                  refine lv_icmp_ge (tgt := 106) hx hb dX10_digest_81 (by decide) (fun c78 => ?_) (fun c78 => ?_)
                  · rw [nleP (a := r (2 * y5_21 + 1)) (b := y8_74) (by omega) (by omega)] at c78
                    refine lv_iinc (v := nI (y7_61 + 1)) (lv' := [(7, .int (nI (y7_61 + 1))), (8, .int (nI y8_74)), (1, .long y1_74), (6, .ref (a (2 + 2 * y5_21))), (5, .int (nI y5_21)), (4, .int 4), (3, .ref (a 1)), (0, .ref (a 0))]) hx hb dX10_digest_106 hl (k := 1) rfl (nI_add y7_61 1) (by decide) rfl (fun ls hl => ?_)
                    refine lv_goto (tgt := 61) hx hb dX10_digest_109 (by decide) ?_
                    exact ih61 (y7_61 + 1) y1_74 _ _ (by omega) (by omega) hB _ (lv_sub hl [0, 2, 3, 4, 5, 6, 7] rfl)
                  · rw [nleP (a := r (2 * y5_21 + 1)) (b := y8_74) (by omega) (by omega)] at c78
                    refine lv_lload_n hx hb dX10_digest_84 rfl (lv_at hl 2 rfl) ?_
                    refine lv_ldc2 (own := RX10) (v := 31) hx hb hX.1.2.2.2.1 (hX.1.2.2.2.2 _ wm_7_179) dX10_digest_85 ?_
                    refine lv_lmul hx hb dX10_digest_88 ?_
                    refine lv_aload hx hb dX10_digest_89 (lv_at hl 3 rfl) ?_
                    refine lv_iload hx hb dX10_digest_91 (lv_at hl 1 rfl) ?_
                    refine lv_iload hx hb dX10_digest_93 (lv_at hl 0 rfl) ?_
                    refine call_V (n := 2) (k0 := (2 + 2 * y5_21)) (As := [.int (nI y7_61), .int (nI y8_74)]) (rest := [.long (y1_74 * 31)]) hX hB (k_X7_at κ l (mw κ a r f (va_up q 3 0) (tb a) w) (2 + 2 * y5_21) (3 + 2 * y5_21) (a (2 + 2 * y5_21)) (a (3 + 2 * y5_21)) (r (2 * y5_21)) (r (2 * y5_21 + 1)) (f y5_21) (nI y7_61) y7_61 (nI y8_74) y8_74 (mwG (i := y5_21) (a := a) (r := r) (f := f) (q := (va_up q 3 0)) (T := tb a) (w := w) (by omega)) (mwA (i := y5_21) (a := a) (r := r) (f := f) (q := (va_up q 3 0)) (T := tb a) (w := w) (by omega)) (mok_shp (i := y5_21) hm (by omega)) rfl rfl (by omega)) ⟨rfl, by decide, by decide, by decide +kernel⟩ wm_5_233 wm_5_234 wm_5_235 wm_1_7 wm_5_236 ⟨Nat.le_of_ble_eq_true rfl, Nat.le_of_ble_eq_true rfl⟩ ⟨Nat.le_of_ble_eq_true rfl, Nat.le_of_ble_eq_true rfl⟩ (mwG (i := y5_21) (a := a) (r := r) (f := f) (q := (va_up q 3 0)) (T := tb a) (w := w) (by omega)) rfl rfl rfl hl.1 rfl (Nat.le_of_ble_eq_true rfl) dX10_digest_95 (fun o w' H locs hp hB => ?_)
                    obtain ⟨rfl, hw9⟩ := hp
                    replace hB : Bd κ A s (mw κ a r f (va_up q 3 0) (tb a) w) H locs := by rw [hw9] at hB; exact hB
                    refine W.eq (g2 := F0 m 98 ls [.long ((f y5_21) (y7_61 * 5 + y8_74)), .long (y1_74 * 31)]) rfl ?_
                    refine lv_ladd hx hb dX10_digest_98 ?_
                    refine lv_lstore_n (lv' := [(1, .long ((y1_74 * 31) + ((f y5_21) (y7_61 * 5 + y8_74)))), (8, .int (nI y8_74)), (7, .int (nI y7_61)), (6, .ref (a (2 + 2 * y5_21))), (5, .int (nI y5_21)), (4, .int 4), (3, .ref (a 1)), (0, .ref (a 0))]) hx hb dX10_digest_99 rfl hl (by decide) rfl (fun ls hl => ?_)
                    refine lv_iinc (v := nI (y8_74 + 1)) (lv' := [(8, .int (nI (y8_74 + 1))), (1, .long ((y1_74 * 31) + ((f y5_21) (y7_61 * 5 + y8_74)))), (7, .int (nI y7_61)), (6, .ref (a (2 + 2 * y5_21))), (5, .int (nI y5_21)), (4, .int 4), (3, .ref (a 1)), (0, .ref (a 0))]) hx hb dX10_digest_100 hl (k := 1) rfl (nI_add y8_74 1) (by decide) rfl (fun ls hl => ?_)
                    refine lv_goto (tgt := 74) hx hb dX10_digest_103 (by decide) ?_
                    exact ih74 (y8_74 + 1) ((y1_74 * 31) + ((f y5_21) (y7_61 * 5 + y8_74))) _ _ (by omega) (by omega) hB _ (lv_sub hl [0, 2, 1, 3, 4, 5, 6, 7] rfl)
              exact lp74 _ 0 y1_61 _ _ (by omega) (Nat.lt_succ_self _) hB _ hl
        exact lp61 _ 0 ((((y1_21 * 31) + (((nI (r (2 * y5_21)))).toInt64)) * 31) + (((nI (r (2 * y5_21 + 1)))).toInt64)) _ _ (by omega) (Nat.lt_succ_self _) hB _ hl
  exact lp21 _ 0 8032 _ _ (by omega) (Nat.lt_succ_self _) hB _ hl
set_option maxHeartbeats 4000000 in
set_option maxRecDepth 100000 in
theorem k_X10_restOf (κ : Kt) (l : Launch) (w : va_W) (a r : Nat → Nat) (f : Nat → Nat → Int64) (q : Nat → Int32) (y : Int32) (z : Int32) (u : Int32) (hm : mok r f) : CM κ l yX10_restOf cX10_restOf 14 (some .int) 8 209 6 70 [.ref (a 0), .int y, .int z, .int u] (mw κ a r f q (tb a) w) (fun o w' => ∃ (x : Int32) (q' : Nat → Int32), o = some (.int x) ∧ (q' 2 = q 2) ∧ w' = mw κ a r f q' (tb a) w) := by
  refine CM_begin (plainFor_of_name (by decide)) (Nat.le_of_ble_eq_true rfl) ?_
  intro p e s m args below meth c A Q hX hnm hA3 hQ hB ls hl
  have hx := hX.1.1
  have hb := hX.1.2.1
  have hl : lv_has ls 14 [(0, .ref (a 0)), (1, .int y), (2, .int z), (3, .int u)] := hl
  refine lv_aload_n hx hb dX10_restOf_0 rfl (lv_at hl 0 rfl) ?_
  refine lv_iload_n hx hb dX10_restOf_1 rfl (lv_at hl 1 rfl) ?_
  refine call_S (n := 1) (As := [.int y]) (rest := [.ref (a 0)]) hX hB (k_X10_isTable κ l (mw κ a r f q (tb a) w) y) ⟨by decide, by decide, by decide +kernel⟩ wm_5_182 wm_5_183 wm_1_6 wm_5_184 ⟨Nat.le_of_ble_eq_true rfl, Nat.le_of_ble_eq_true rfl⟩ ⟨Nat.le_of_ble_eq_true rfl, Nat.le_of_ble_eq_true rfl⟩ rfl hl.1 rfl (Nat.le_of_ble_eq_true rfl) dX10_restOf_2 (fun o w' H locs hp hB => ?_)
  obtain ⟨z1, rfl, hf2, hw9⟩ := hp
  replace hB : Bd κ A s (mw κ a r f q (tb a) w) H locs := by rw [hw9] at hB; exact hB
  rcases hf2 with rfl | ⟨rfl, hz3a, hz3b⟩
  · refine W.eq (g2 := F0 m 5 ls [.int 0, .ref (a 0)]) rfl ?_
    refine lv_if_eq (tgt := 17) hx hb dX10_restOf_5 (by decide) (fun _ => ?_) (fun c4 => False.elim (by revert c4; decide))
    refine lv_iconst (v := 1) hx hb dX10_restOf_17 (by decide) ?_
    refine lv_goto (tgt := 22) hx hb dX10_restOf_18 (by decide) ?_
    refine call_V (n := 1) (k0 := 0) (As := [.int 1]) (rest := []) hX hB (k_X10_isThrown__ κ l (mw κ a r f q (tb a) w) 0 (a 0) (a 1) (q 0) (q 1) (q 2) (q 3) 1 (mw0x (a := a) (r := r) (f := f) (q := q) (T := tb a) (w := w) rfl)) ⟨rfl, by decide, by decide, by decide +kernel⟩ wm_6_11 wm_6_13 wp_33 wm_1_6 wm_6_14 ⟨Nat.le_of_ble_eq_true rfl, Nat.le_of_ble_eq_true rfl⟩ ⟨Nat.le_of_ble_eq_true rfl, Nat.le_of_ble_eq_true rfl⟩ (mw0x (a := a) (r := r) (f := f) (q := q) (T := tb a) (w := w) rfl) rfl rfl rfl hl.1 rfl (Nat.le_of_ble_eq_true rfl) dX10_restOf_22 (fun o w' H locs hp hB => ?_)
    obtain ⟨x5, t6, rfl, hf7, hw9⟩ := hp
    replace hB : Bd κ A s (mw κ a r f (va_up q 3 t6) (tb a) w) H locs := by exact Bd_eq (mwQ3x rfl _) (by rw [hw9] at hB; exact hB)
    obtain rfl : x5 = 1 := hf7.trans (by decide)
    refine W.eq (g2 := F0 m 25 ls [.int 1]) rfl ?_
    refine lv_if_eq (tgt := 30) hx hb dX10_restOf_25 (by decide) (fun c8 => False.elim (by revert c8; decide)) (fun _ => ?_)
    refine lv_iconst (v := 0) hx hb dX10_restOf_28 (by decide) ?_
    rw [← hQ]
    exact end_i hX hB hA3 rfl rfl ⟨0, (va_up q 3 t6), rfl, rfl, rfl⟩ (Nat.le_of_ble_eq_true rfl) (Nat.le_of_ble_eq_true rfl) dX10_restOf_29
  · refine W.eq (g2 := F0 m 5 ls [.int 1, .ref (a 0)]) rfl ?_
    refine lv_if_eq (tgt := 17) hx hb dX10_restOf_5 (by decide) (fun c9 => False.elim (by revert c9; decide)) (fun _ => ?_)
    refine lv_aload_n hx hb dX10_restOf_8 rfl (lv_at hl 0 rfl) ?_
    refine lv_iload_n hx hb dX10_restOf_9 rfl (lv_at hl 2 rfl) ?_
    refine lv_iload_n hx hb dX10_restOf_10 rfl (lv_at hl 3 rfl) ?_
    refine call_V (n := 2) (k0 := 0) (As := [.int z, .int u]) (rest := [.ref (a 0)]) hX hB (k_X10_isRow κ l w a r f q z u hm) ⟨rfl, by decide, by decide, by decide +kernel⟩ wm_5_225 wm_5_227 wp_31 wm_1_6 wm_5_228 ⟨Nat.le_of_ble_eq_true rfl, Nat.le_of_ble_eq_true rfl⟩ ⟨Nat.le_of_ble_eq_true rfl, Nat.le_of_ble_eq_true rfl⟩ (mw0x (a := a) (r := r) (f := f) (q := q) (T := tb a) (w := w) rfl) rfl rfl rfl hl.1 rfl (Nat.le_of_ble_eq_true rfl) dX10_restOf_11 (fun o w' H locs hp hB => ?_)
    obtain ⟨x10, rfl, hf11, hw9⟩ := hp
    replace hB : Bd κ A s (mw κ a r f q (tb a) w) H locs := by rw [hw9] at hB; exact hB
    rcases hf11 with rfl | ⟨rfl, hz12a, hz12b, hz12c, hz12d⟩
    · refine W.eq (g2 := F0 m 14 ls [.int 0, .ref (a 0)]) rfl ?_
      refine lv_if_ne (tgt := 21) hx hb dX10_restOf_14 (by decide) (fun c13 => False.elim (by revert c13; decide)) (fun _ => ?_)
      refine lv_iconst (v := 1) hx hb dX10_restOf_17 (by decide) ?_
      refine lv_goto (tgt := 22) hx hb dX10_restOf_18 (by decide) ?_
      refine call_V (n := 1) (k0 := 0) (As := [.int 1]) (rest := []) hX hB (k_X10_isThrown__ κ l (mw κ a r f q (tb a) w) 0 (a 0) (a 1) (q 0) (q 1) (q 2) (q 3) 1 (mw0x (a := a) (r := r) (f := f) (q := q) (T := tb a) (w := w) rfl)) ⟨rfl, by decide, by decide, by decide +kernel⟩ wm_6_11 wm_6_13 wp_33 wm_1_6 wm_6_14 ⟨Nat.le_of_ble_eq_true rfl, Nat.le_of_ble_eq_true rfl⟩ ⟨Nat.le_of_ble_eq_true rfl, Nat.le_of_ble_eq_true rfl⟩ (mw0x (a := a) (r := r) (f := f) (q := q) (T := tb a) (w := w) rfl) rfl rfl rfl hl.1 rfl (Nat.le_of_ble_eq_true rfl) dX10_restOf_22 (fun o w' H locs hp hB => ?_)
      obtain ⟨x14, t15, rfl, hf16, hw9⟩ := hp
      replace hB : Bd κ A s (mw κ a r f (va_up q 3 t15) (tb a) w) H locs := by exact Bd_eq (mwQ3x rfl _) (by rw [hw9] at hB; exact hB)
      obtain rfl : x14 = 1 := hf16.trans (by decide)
      refine W.eq (g2 := F0 m 25 ls [.int 1]) rfl ?_
      refine lv_if_eq (tgt := 30) hx hb dX10_restOf_25 (by decide) (fun c17 => False.elim (by revert c17; decide)) (fun _ => ?_)
      refine lv_iconst (v := 0) hx hb dX10_restOf_28 (by decide) ?_
      rw [← hQ]
      exact end_i hX hB hA3 rfl rfl ⟨0, (va_up q 3 t15), rfl, rfl, rfl⟩ (Nat.le_of_ble_eq_true rfl) (Nat.le_of_ble_eq_true rfl) dX10_restOf_29
    · refine W.eq (g2 := F0 m 14 ls [.int 1, .ref (a 0)]) rfl ?_
      refine lv_if_ne (tgt := 21) hx hb dX10_restOf_14 (by decide) (fun _ => ?_) (fun c18 => False.elim (by revert c18; decide))
      refine lv_iconst (v := 0) hx hb dX10_restOf_21 (by decide) ?_
      refine call_V (n := 1) (k0 := 0) (As := [.int 0]) (rest := []) hX hB (k_X10_isThrown__ κ l (mw κ a r f q (tb a) w) 0 (a 0) (a 1) (q 0) (q 1) (q 2) (q 3) 0 (mw0x (a := a) (r := r) (f := f) (q := q) (T := tb a) (w := w) rfl)) ⟨rfl, by decide, by decide, by decide +kernel⟩ wm_6_11 wm_6_13 wp_33 wm_1_6 wm_6_14 ⟨Nat.le_of_ble_eq_true rfl, Nat.le_of_ble_eq_true rfl⟩ ⟨Nat.le_of_ble_eq_true rfl, Nat.le_of_ble_eq_true rfl⟩ (mw0x (a := a) (r := r) (f := f) (q := q) (T := tb a) (w := w) rfl) rfl rfl rfl hl.1 rfl (Nat.le_of_ble_eq_true rfl) dX10_restOf_22 (fun o w' H locs hp hB => ?_)
      obtain ⟨x19, t20, rfl, hf21, hw9⟩ := hp
      replace hB : Bd κ A s (mw κ a r f (va_up q 3 t20) (tb a) w) H locs := by exact Bd_eq (mwQ3x rfl _) (by rw [hw9] at hB; exact hB)
      obtain rfl : x19 = 0 := hf21.trans (by decide)
      refine W.eq (g2 := F0 m 25 ls [.int 0]) rfl ?_
      refine lv_if_eq (tgt := 30) hx hb dX10_restOf_25 (by decide) (fun _ => ?_) (fun c22 => False.elim (by revert c22; decide))
      refine lv_aload_n hx hb dX10_restOf_30 rfl (lv_at hl 0 rfl) ?_
      refine gf (k0 := 0) hX hB (mw0x (a := a) (r := r) (f := f) (q := (va_up q 3 t20)) (T := tb a) (w := w) rfl) rfl in10 0 (by decide) wm_5_162 rfl rfl dX10_restOf_31 ?_
      refine lv_iload_n hx hb dX10_restOf_34 rfl (lv_at hl 1 rfl) ?_
      refine aaldM (k0 := 1) hX hB (mw1 (a := a) (r := r) (f := f) (q := (va_up q 3 t20)) (T := tb a) (w := w)) (vp_in_mk (by assumption) (by assumption)) rfl dX10_restOf_35 ?_
      have hb23 := mok_r hm y.toNatClampNeg (by omega)
      refine lv_astore (lv' := [(4, .ref (a (2 + 2 * y.toNatClampNeg))), (0, .ref (a 0)), (1, .int y), (2, .int z), (3, .int u)]) hx hb dX10_restOf_36 hl (by decide) rfl (fun ls hl => ?_)
      refine lv_aload_n hx hb dX10_restOf_38 rfl (lv_at hl 1 rfl) ?_
      refine gf (k0 := 0) hX hB (mw0x (a := a) (r := r) (f := f) (q := (va_up q 3 t20)) (T := tb a) (w := w) rfl) rfl in10 0 (by decide) wm_5_162 rfl rfl dX10_restOf_39 ?_
      refine lv_iload_n hx hb dX10_restOf_42 rfl (lv_at hl 3 rfl) ?_
      refine aaldM (k0 := 1) hX hB (mw1 (a := a) (r := r) (f := f) (q := (va_up q 3 t20)) (T := tb a) (w := w)) (vp_in_mk (by assumption) (by assumption)) rfl dX10_restOf_43 ?_
      have hb24 := mok_r hm z.toNatClampNeg (by omega)
      refine lv_astore (lv' := [(5, .ref (a (2 + 2 * z.toNatClampNeg))), (4, .ref (a (2 + 2 * y.toNatClampNeg))), (0, .ref (a 0)), (1, .int y), (2, .int z), (3, .int u)]) hx hb dX10_restOf_44 hl (by decide) rfl (fun ls hl => ?_)
      refine lv_aload hx hb dX10_restOf_46 (lv_at hl 1 rfl) ?_
      refine call_S (n := 1) (As := [.ref (a (2 + 2 * y.toNatClampNeg))]) (rest := []) hX hB (k_X10_leaving κ l (mw κ a r f (va_up q 3 t20) (tb a) w) (2 + 2 * y.toNatClampNeg) (3 + 2 * y.toNatClampNeg) (a (2 + 2 * y.toNatClampNeg)) (a (3 + 2 * y.toNatClampNeg)) (r (2 * y.toNatClampNeg)) (r (2 * y.toNatClampNeg + 1)) (f y.toNatClampNeg) (mwG (i := y.toNatClampNeg) (a := a) (r := r) (f := f) (q := (va_up q 3 t20)) (T := tb a) (w := w) (by omega)) (mwA (i := y.toNatClampNeg) (a := a) (r := r) (f := f) (q := (va_up q 3 t20)) (T := tb a) (w := w) (by omega)) (mok_shp (i := y.toNatClampNeg) hm (by omega)) (by omega) (fun k hk => sm_ng ((hm _ (by omega)).2 k hk))) ⟨by decide, by decide, by decide +kernel⟩ wm_7_144 wm_7_145 wm_1_6 wm_7_146 ⟨Nat.le_of_ble_eq_true rfl, Nat.le_of_ble_eq_true rfl⟩ ⟨Nat.le_of_ble_eq_true rfl, Nat.le_of_ble_eq_true rfl⟩ rfl hl.1 rfl (Nat.le_of_ble_eq_true rfl) dX10_restOf_48 (fun o w' H locs hp hB => ?_)
      rcases hp with ⟨rfl, hw9⟩ | ⟨q25, q26, R27, C28, F29, rfl, ⟨hd30r, hd30c, hd30e, hd30n⟩, hw9⟩
      · replace hB : Bd κ A s (mw κ a r f (va_up q 3 t20) (tb a) w) H locs := by rw [hw9] at hB; exact hB
        refine W.eq (g2 := F0 m 51 ls [.null]) rfl ?_
        refine lv_astoreN (lv' := [(6, .null), (5, .ref (a (2 + 2 * z.toNatClampNeg))), (4, .ref (a (2 + 2 * y.toNatClampNeg))), (0, .ref (a 0)), (1, .int y), (2, .int z), (3, .int u)]) hx hb dX10_restOf_51 hl (by decide) rfl (fun ls hl => ?_)
        refine lv_aload_n hx hb dX10_restOf_53 rfl (lv_at hl 3 rfl) ?_
        refine lv_iconst (v := 0) hx hb dX10_restOf_54 (by decide) ?_
        refine lv_aloadN hx hb dX10_restOf_55 (lv_at hl 0 rfl) ?_
        refine lv_ifnonnullN hx hb dX10_restOf_57 ?_
        refine lv_iconst (v := 1) hx hb dX10_restOf_60 (by decide) ?_
        refine lv_goto (tgt := 65) hx hb dX10_restOf_61 (by decide) ?_
        refine lv_aload hx hb dX10_restOf_65 (lv_at hl 2 rfl) ?_
        refine gf (k0 := 2 + 2 * y.toNatClampNeg) hX hB (mwG (i := y.toNatClampNeg) (a := a) (r := r) (f := f) (q := (va_up q 3 t20)) (T := tb a) (w := w) (by omega)) rfl in7 1 (by decide) wm_5_152 rfl rfl dX10_restOf_67 ?_
        refine lv_aload hx hb dX10_restOf_70 (lv_at hl 1 rfl) ?_
        refine gf (k0 := 2 + 2 * z.toNatClampNeg) hX hB (mwG (i := z.toNatClampNeg) (a := a) (r := r) (f := f) (q := (va_up q 3 t20)) (T := tb a) (w := w) (by omega)) rfl in7 1 (by decide) wm_5_152 rfl rfl dX10_restOf_72 ?_
        refine lv_icmp_eq (tgt := 82) hx hb dX10_restOf_75 (by decide) (fun c31 => ?_) (fun c31 => ?_)
        · rw [neqP (a := r (2 * y.toNatClampNeg + 1)) (b := r (2 * z.toNatClampNeg + 1)) (by omega) (by omega)] at c31
          refine lv_iconst (v := 0) hx hb dX10_restOf_82 (by decide) ?_
          refine call_V (n := 3) (k0 := 0) (As := [.int 0, .int 1, .int 0]) (rest := []) hX hB (k_X10_isThrown κ l (mw κ a r f (va_up q 3 t20) (tb a) w) 0 (a 0) (a 1) ((va_up q 3 t20) 0) ((va_up q 3 t20) 1) ((va_up q 3 t20) 2) ((va_up q 3 t20) 3) 0 1 0 (mw0x (a := a) (r := r) (f := f) (q := (va_up q 3 t20)) (T := tb a) (w := w) rfl)) ⟨rfl, by decide, by decide, by decide +kernel⟩ wm_5_192 wm_5_194 wp_28 wm_1_6 wm_5_195 ⟨Nat.le_of_ble_eq_true rfl, Nat.le_of_ble_eq_true rfl⟩ ⟨Nat.le_of_ble_eq_true rfl, Nat.le_of_ble_eq_true rfl⟩ (mw0x (a := a) (r := r) (f := f) (q := (va_up q 3 t20)) (T := tb a) (w := w) rfl) rfl rfl rfl hl.1 rfl (Nat.le_of_ble_eq_true rfl) dX10_restOf_83 (fun o w' H locs hp hB => ?_)
          obtain ⟨x32, t33, rfl, hf34, hw9⟩ := hp
          replace hB : Bd κ A s (mw κ a r f (va_up (va_up q 3 t20) 3 t33) (tb a) w) H locs := by exact Bd_eq (mwQ3x rfl _) (by rw [hw9] at hB; exact hB)
          obtain rfl : x32 = 1 := hf34.trans (by decide)
          refine W.eq (g2 := F0 m 86 ls [.int 1]) rfl ?_
          refine lv_if_eq (tgt := 91) hx hb dX10_restOf_86 (by decide) (fun c35 => False.elim (by revert c35; decide)) (fun _ => ?_)
          refine lv_iconst (v := 0) hx hb dX10_restOf_89 (by decide) ?_
          rw [← hQ]
          exact end_i hX hB hA3 rfl rfl ⟨0, (va_up (va_up q 3 t20) 3 t33), rfl, rfl, rfl⟩ (Nat.le_of_ble_eq_true rfl) (Nat.le_of_ble_eq_true rfl) dX10_restOf_90
        · rw [neqP (a := r (2 * y.toNatClampNeg + 1)) (b := r (2 * z.toNatClampNeg + 1)) (by omega) (by omega)] at c31
          refine lv_iconst (v := 1) hx hb dX10_restOf_78 (by decide) ?_
          refine lv_goto (tgt := 83) hx hb dX10_restOf_79 (by decide) ?_
          refine call_V (n := 3) (k0 := 0) (As := [.int 0, .int 1, .int 1]) (rest := []) hX hB (k_X10_isThrown κ l (mw κ a r f (va_up q 3 t20) (tb a) w) 0 (a 0) (a 1) ((va_up q 3 t20) 0) ((va_up q 3 t20) 1) ((va_up q 3 t20) 2) ((va_up q 3 t20) 3) 0 1 1 (mw0x (a := a) (r := r) (f := f) (q := (va_up q 3 t20)) (T := tb a) (w := w) rfl)) ⟨rfl, by decide, by decide, by decide +kernel⟩ wm_5_192 wm_5_194 wp_28 wm_1_6 wm_5_195 ⟨Nat.le_of_ble_eq_true rfl, Nat.le_of_ble_eq_true rfl⟩ ⟨Nat.le_of_ble_eq_true rfl, Nat.le_of_ble_eq_true rfl⟩ (mw0x (a := a) (r := r) (f := f) (q := (va_up q 3 t20)) (T := tb a) (w := w) rfl) rfl rfl rfl hl.1 rfl (Nat.le_of_ble_eq_true rfl) dX10_restOf_83 (fun o w' H locs hp hB => ?_)
          obtain ⟨x36, t37, rfl, hf38, hw9⟩ := hp
          replace hB : Bd κ A s (mw κ a r f (va_up (va_up q 3 t20) 3 t37) (tb a) w) H locs := by exact Bd_eq (mwQ3x rfl _) (by rw [hw9] at hB; exact hB)
          obtain rfl : x36 = 1 := hf38.trans (by decide)
          refine W.eq (g2 := F0 m 86 ls [.int 1]) rfl ?_
          refine lv_if_eq (tgt := 91) hx hb dX10_restOf_86 (by decide) (fun c39 => False.elim (by revert c39; decide)) (fun _ => ?_)
          refine lv_iconst (v := 0) hx hb dX10_restOf_89 (by decide) ?_
          rw [← hQ]
          exact end_i hX hB hA3 rfl rfl ⟨0, (va_up (va_up q 3 t20) 3 t37), rfl, rfl, rfl⟩ (Nat.le_of_ble_eq_true rfl) (Nat.le_of_ble_eq_true rfl) dX10_restOf_90
      · replace hB : Bd κ A s (lA κ q26 (R27 * 5) F29 :: gO q25 R27 C28 q26 :: mw κ a r f (va_up q 3 t20) (tb a) w) H locs := by rw [hw9] at hB; exact hB
        refine W.eq (g2 := F0 m 51 ls [.ref q25]) rfl ?_
        refine lv_astore (lv' := [(6, .ref q25), (5, .ref (a (2 + 2 * z.toNatClampNeg))), (4, .ref (a (2 + 2 * y.toNatClampNeg))), (0, .ref (a 0)), (1, .int y), (2, .int z), (3, .int u)]) hx hb dX10_restOf_51 hl (by decide) rfl (fun ls hl => ?_)
        refine lv_aload_n hx hb dX10_restOf_53 rfl (lv_at hl 3 rfl) ?_
        refine lv_iconst (v := 0) hx hb dX10_restOf_54 (by decide) ?_
        refine lv_aload hx hb dX10_restOf_55 (lv_at hl 0 rfl) ?_
        refine lv_ifnonnull (tgt := 64) hx hb dX10_restOf_57 (by decide) ?_
        refine lv_iconst (v := 0) hx hb dX10_restOf_64 (by decide) ?_
        refine lv_aload hx hb dX10_restOf_65 (lv_at hl 2 rfl) ?_
        refine gf (k0 := 2 + 2 * y.toNatClampNeg + 2) hX hB (mwG (i := y.toNatClampNeg) (a := a) (r := r) (f := f) (q := (va_up q 3 t20)) (T := tb a) (w := w) (by omega)) rfl in7 1 (by decide) wm_5_152 rfl rfl dX10_restOf_67 ?_
        refine lv_aload hx hb dX10_restOf_70 (lv_at hl 1 rfl) ?_
        refine gf (k0 := 2 + 2 * z.toNatClampNeg + 2) hX hB (mwG (i := z.toNatClampNeg) (a := a) (r := r) (f := f) (q := (va_up q 3 t20)) (T := tb a) (w := w) (by omega)) rfl in7 1 (by decide) wm_5_152 rfl rfl dX10_restOf_72 ?_
        refine lv_icmp_eq (tgt := 82) hx hb dX10_restOf_75 (by decide) (fun c40 => ?_) (fun c40 => ?_)
        · rw [neqP (a := r (2 * y.toNatClampNeg + 1)) (b := r (2 * z.toNatClampNeg + 1)) (by omega) (by omega)] at c40
          refine lv_iconst (v := 0) hx hb dX10_restOf_82 (by decide) ?_
          refine call_V (n := 3) (k0 := 2) (As := [.int 0, .int 0, .int 0]) (rest := []) hX hB (k_X10_isThrown κ l (lA κ q26 (R27 * 5) F29 :: gO q25 R27 C28 q26 :: mw κ a r f (va_up q 3 t20) (tb a) w) 2 (a 0) (a 1) ((va_up q 3 t20) 0) ((va_up q 3 t20) 1) ((va_up q 3 t20) 2) ((va_up q 3 t20) 3) 0 0 0 (mw0x (a := a) (r := r) (f := f) (q := (va_up q 3 t20)) (T := tb a) (w := w) rfl)) ⟨rfl, by decide, by decide, by decide +kernel⟩ wm_5_192 wm_5_194 wp_28 wm_1_6 wm_5_195 ⟨Nat.le_of_ble_eq_true rfl, Nat.le_of_ble_eq_true rfl⟩ ⟨Nat.le_of_ble_eq_true rfl, Nat.le_of_ble_eq_true rfl⟩ (mw0x (a := a) (r := r) (f := f) (q := (va_up q 3 t20)) (T := tb a) (w := w) rfl) rfl rfl rfl hl.1 rfl (Nat.le_of_ble_eq_true rfl) dX10_restOf_83 (fun o w' H locs hp hB => ?_)
          obtain ⟨x41, t42, rfl, hf43, hw9⟩ := hp
          replace hB : Bd κ A s (lA κ q26 (R27 * 5) F29 :: gO q25 R27 C28 q26 :: mw κ a r f (va_up (va_up q 3 t20) 3 t42) (tb a) w) H locs := by exact Bd_eq (congrArg (List.cons _) (congrArg (List.cons _) (mwQ3x rfl _))) (by rw [hw9] at hB; exact hB)
          obtain rfl : x41 = 0 := hf43.trans (by decide)
          refine W.eq (g2 := F0 m 86 ls [.int 0]) rfl ?_
          refine lv_if_eq (tgt := 91) hx hb dX10_restOf_86 (by decide) (fun _ => ?_) (fun c44 => False.elim (by revert c44; decide))
          have hdN := hd30n
          refine lv_aload hx hb dX10_restOf_91 (lv_at hl 2 rfl) ?_
          refine gf (k0 := 2 + 2 * y.toNatClampNeg + 2) hX hB (mwG (i := y.toNatClampNeg) (a := a) (r := r) (f := f) (q := (va_up (va_up q 3 t20) 3 t42)) (T := tb a) (w := w) (by omega)) rfl in7 1 (by decide) wm_5_152 rfl rfl dX10_restOf_93 ?_
          refine newA (t0 := 0) (ty := .long) (N := r (2 * y.toNatClampNeg + 1)) (mx := 20) (a0 := ((r (2 * y.toNatClampNeg + 1)), .inr (.inl (fun _ => 0)))) hX hB rfl rfl (fun h => h) wm_1_65 (fun _ => rfl) (nI_pos (n := r (2 * y.toNatClampNeg + 1)) (by omega)) (nI_clamp (n := r (2 * y.toNatClampNeg + 1)) (by omega)) (by omega) (Nat.le_of_ble_eq_true rfl) (Nat.le_of_ble_eq_true rfl) (Nat.le_of_ble_eq_true rfl) dX10_restOf_96 (fun q45 H hB => ?_)
          refine lv_astore (lv' := [(7, .ref q45), (6, .ref q25), (5, .ref (a (2 + 2 * z.toNatClampNeg))), (4, .ref (a (2 + 2 * y.toNatClampNeg))), (0, .ref (a 0)), (1, .int y), (2, .int z), (3, .int u)]) hx hb dX10_restOf_98 hl (by decide) rfl (fun ls hl => ?_)
          refine lv_iconst (v := 0) hx hb dX10_restOf_100 (by decide) ?_
          refine lv_istore (lv' := [(8, .int 0), (7, .ref q45), (6, .ref q25), (5, .ref (a (2 + 2 * z.toNatClampNeg))), (4, .ref (a (2 + 2 * y.toNatClampNeg))), (0, .ref (a 0)), (1, .int y), (2, .int z), (3, .int u)]) hx hb dX10_restOf_101 hl (by decide) rfl (fun ls hl => ?_)
          have lp103 : ∀ (nn : Nat) (y8_103 : Nat) (fq45_103 : Nat → Int64) (H : Heap) (locs : List Loc), (y8_103 ≤ (r (2 * y.toNatClampNeg + 1))) → (r (2 * y.toNatClampNeg + 1)) + 1 - y8_103 < nn → Bd κ A s (lA κ q45 (r (2 * y.toNatClampNeg + 1)) fq45_103 :: lA κ q26 (R27 * 5) F29 :: gO q25 R27 C28 q26 :: mw κ a r f (va_up (va_up q 3 t20) 3 t42) (tb a) w) H locs → ∀ ls : Array Slot, lv_has ls 14 [(8, .int (nI y8_103)), (7, .ref q45), (6, .ref q25), (5, .ref (a (2 + 2 * z.toNatClampNeg))), (4, .ref (a (2 + 2 * y.toNatClampNeg))), (0, .ref (a 0)), (1, .int y), (2, .int z), (3, .int u)] → W p l e (Rm 8 209 6 70) s m args below meth c H locs 6 70 Q (F0 m 103 ls []) := by
            intro nn
            induction nn with
            | zero => intro y8_103 fq45_103 H locs hn8_103 hμ; exact absurd hμ (Nat.not_lt_zero _)
            | succ nn ih103 =>
              intro y8_103 fq45_103 H locs hn8_103 hμ103 hB ls hl
              refine lv_iload hx hb dX10_restOf_103 (lv_at hl 0 rfl) ?_
              refine lv_aload hx hb dX10_restOf_105 (lv_at hl 1 rfl) ?_
              refine alenL (k0 := 0) (v := nI (r (2 * y.toNatClampNeg + 1))) hX hB rfl rfl dX10_restOf_107 ?_
              refine lv_icmp_ge (tgt := 130) hx hb dX10_restOf_108 (by decide) (fun c78 => ?_) (fun c78 => ?_)
              · rw [nleP (a := r (2 * y.toNatClampNeg + 1)) (b := y8_103) (by omega) (by omega)] at c78
                refine lv_lconst (v := 0) hx hb dX10_restOf_130 (by decide) ?_
                refine lv_lstore (lv' := [(8, .long 0), (7, .ref q45), (6, .ref q25), (5, .ref (a (2 + 2 * z.toNatClampNeg))), (4, .ref (a (2 + 2 * y.toNatClampNeg))), (0, .ref (a 0)), (1, .int y), (2, .int z), (3, .int u)]) hx hb dX10_restOf_131 hl (by decide) rfl (fun ls hl => ?_)
                refine lv_iconst (v := 0) hx hb dX10_restOf_133 (by decide) ?_
                refine lv_istore (lv' := [(10, .int 0), (8, .long 0), (7, .ref q45), (6, .ref q25), (5, .ref (a (2 + 2 * z.toNatClampNeg))), (4, .ref (a (2 + 2 * y.toNatClampNeg))), (0, .ref (a 0)), (1, .int y), (2, .int z), (3, .int u)]) hx hb dX10_restOf_134 hl (by decide) rfl (fun ls hl => ?_)
                have lp136 : ∀ (nn : Nat) (y10_136 : Nat) (y8_136 : Int64) (fq45_136 : Nat → Int64) (H : Heap) (locs : List Loc), (y10_136 ≤ (r (2 * y.toNatClampNeg + 1))) → (r (2 * y.toNatClampNeg + 1)) + 1 - y10_136 < nn → Bd κ A s (lA κ q45 (r (2 * y.toNatClampNeg + 1)) fq45_136 :: lA κ q26 (R27 * 5) F29 :: gO q25 R27 C28 q26 :: mw κ a r f (va_up (va_up q 3 t20) 3 t42) (tb a) w) H locs → ∀ ls : Array Slot, lv_has ls 14 [(10, .int (nI y10_136)), (8, .long y8_136), (7, .ref q45), (6, .ref q25), (5, .ref (a (2 + 2 * z.toNatClampNeg))), (4, .ref (a (2 + 2 * y.toNatClampNeg))), (0, .ref (a 0)), (1, .int y), (2, .int z), (3, .int u)] → W p l e (Rm 8 209 6 70) s m args below meth c H locs 6 70 Q (F0 m 136 ls []) := by
                  intro nn
                  induction nn with
                  | zero => intro y10_136 y8_136 fq45_136 H locs hn10_136 hμ; exact absurd hμ (Nat.not_lt_zero _)
                  | succ nn ih136 =>
                    intro y10_136 y8_136 fq45_136 H locs hn10_136 hμ136 hB ls hl
                    refine lv_iload hx hb dX10_restOf_136 (lv_at hl 0 rfl) ?_
                    refine lv_aload hx hb dX10_restOf_138 (lv_at hl 2 rfl) ?_
                    refine alenL (k0 := 0) (v := nI (r (2 * y.toNatClampNeg + 1))) hX hB rfl rfl dX10_restOf_140 ?_
                    refine lv_icmp_ge (tgt := 226) hx hb dX10_restOf_141 (by decide) (fun c89 => ?_) (fun c89 => ?_)
                    · rw [nleP (a := r (2 * y.toNatClampNeg + 1)) (b := y10_136) (by omega) (by omega)] at c89
                      refine lv_lload hx hb dX10_restOf_226 (lv_at hl 1 rfl) ?_
                      refine lv_l2i hx hb dX10_restOf_228 rfl ?_
                      replace hB : Bd κ A s (lA κ q45 (r (2 * y.toNatClampNeg + 1)) fq45_136 :: lA κ q26 (R27 * 5) F29 :: mw κ a r f (va_up (va_up q 3 t20) 3 t42) (tb a) w) H locs := Bd_del 2 hB
                      replace hB : Bd κ A s (lA κ q45 (r (2 * y.toNatClampNeg + 1)) fq45_136 :: mw κ a r f (va_up (va_up q 3 t20) 3 t42) (tb a) w) H locs := Bd_del 1 hB
                      replace hB : Bd κ A s (mw κ a r f (va_up (va_up q 3 t20) 3 t42) (tb a) w) H locs := Bd_del 0 hB
                      rw [← hQ]
                      exact end_i hX hB hA3 rfl rfl ⟨((y8_136).toInt32), (va_up (va_up q 3 t20) 3 t42), rfl, rfl, rfl⟩ (Nat.le_of_ble_eq_true rfl) (Nat.le_of_ble_eq_true rfl) dX10_restOf_229
                    · rw [nleP (a := r (2 * y.toNatClampNeg + 1)) (b := y10_136) (by omega) (by omega)] at c89
                      refine lv_aload hx hb dX10_restOf_144 (lv_at hl 2 rfl) ?_
                      refine lv_iload hx hb dX10_restOf_146 (lv_at hl 0 rfl) ?_
                      refine laldN (k0 := 0) (k := y10_136) hX hB rfl (by omega) (by omega) dX10_restOf_148 ?_
                      refine lv_aload hx hb dX10_restOf_149 (lv_at hl 3 rfl) ?_
                      refine lv_iload hx hb dX10_restOf_151 (lv_at hl 0 rfl) ?_
                      refine lv_iload hx hb dX10_restOf_153 (lv_at hl 0 rfl) ?_
                      refine call_V (n := 2) (k0 := 2) (As := [.int (nI y10_136), .int (nI y10_136)]) (rest := [.long (fq45_136 y10_136)]) hX hB (k_X7_at κ l (lA κ q45 (r (2 * y.toNatClampNeg + 1)) fq45_136 :: lA κ q26 (R27 * 5) F29 :: gO q25 R27 C28 q26 :: mw κ a r f (va_up (va_up q 3 t20) 3 t42) (tb a) w) 2 1 q25 q26 R27 C28 F29 (nI y10_136) y10_136 (nI y10_136) y10_136 rfl rfl ⟨by omega, by omega, by omega, by omega⟩ rfl rfl (by omega)) ⟨rfl, by decide, by decide, by decide +kernel⟩ wm_5_233 wm_5_234 wm_5_235 wm_1_7 wm_5_236 ⟨Nat.le_of_ble_eq_true rfl, Nat.le_of_ble_eq_true rfl⟩ ⟨Nat.le_of_ble_eq_true rfl, Nat.le_of_ble_eq_true rfl⟩ rfl rfl rfl rfl hl.1 rfl (Nat.le_of_ble_eq_true rfl) dX10_restOf_155 (fun o w' H locs hp hB => ?_)
                      obtain ⟨rfl, hw9⟩ := hp
                      replace hB : Bd κ A s (lA κ q45 (r (2 * y.toNatClampNeg + 1)) fq45_136 :: lA κ q26 (R27 * 5) F29 :: gO q25 R27 C28 q26 :: mw κ a r f (va_up (va_up q 3 t20) 3 t42) (tb a) w) H locs := by rw [hw9] at hB; exact hB
                      refine W.eq (g2 := F0 m 158 ls [.long (F29 (y10_136 * 5 + y10_136)), .long (fq45_136 y10_136)]) rfl ?_
                      refine call_S (n := 2) (As := [.long (fq45_136 y10_136), .long (F29 (y10_136 * 5 + y10_136))]) (rest := []) hX hB (k_J9_floorDiv_f86c9 κ l (lA κ q45 (r (2 * y.toNatClampNeg + 1)) fq45_136 :: lA κ q26 (R27 * 5) F29 :: gO q25 R27 C28 q26 :: mw κ a r f (va_up (va_up q 3 t20) 3 t42) (tb a) w) (fq45_136 y10_136) (F29 (y10_136 * 5 + y10_136)) (hdN _ (by omega))) ⟨by decide, by decide, by decide +kernel⟩ wm_7_153 wm_2_20 wm_1_14 wm_2_21 ⟨Nat.le_of_ble_eq_true rfl, Nat.le_of_ble_eq_true rfl⟩ ⟨Nat.le_of_ble_eq_true rfl, Nat.le_of_ble_eq_true rfl⟩ rfl hl.1 rfl (Nat.le_of_ble_eq_true rfl) dX10_restOf_158 (fun o w' H locs hp hB => ?_)
                      obtain ⟨x90, rfl, efx90, hw9⟩ := hp
                      rw [hw9] at hB
                      refine W.eq (g2 := F0 m 161 ls [.long x90]) rfl ?_
                      refine lv_lstore (lv' := [(11, .long x90), (10, .int (nI y10_136)), (8, .long y8_136), (7, .ref q45), (6, .ref q25), (5, .ref (a (2 + 2 * z.toNatClampNeg))), (4, .ref (a (2 + 2 * y.toNatClampNeg))), (0, .ref (a 0)), (1, .int y), (2, .int z), (3, .int u)]) hx hb dX10_restOf_161 hl (by decide) rfl (fun ls hl => ?_)
                      refine lv_iconst (v := 0) hx hb dX10_restOf_163 (by decide) ?_
                      refine lv_istore (lv' := [(13, .int 0), (11, .long x90), (10, .int (nI y10_136)), (8, .long y8_136), (7, .ref q45), (6, .ref q25), (5, .ref (a (2 + 2 * z.toNatClampNeg))), (4, .ref (a (2 + 2 * y.toNatClampNeg))), (0, .ref (a 0)), (1, .int y), (2, .int z), (3, .int u)]) hx hb dX10_restOf_164 hl (by decide) rfl (fun ls hl => ?_)
                      have lp166 : ∀ (nn : Nat) (y13_166 : Nat) (fq45_166 : Nat → Int64) (H : Heap) (locs : List Loc), (y13_166 ≤ (r (2 * y.toNatClampNeg + 1))) → (r (2 * y.toNatClampNeg + 1)) + 1 - y13_166 < nn → Bd κ A s (lA κ q45 (r (2 * y.toNatClampNeg + 1)) fq45_166 :: lA κ q26 (R27 * 5) F29 :: gO q25 R27 C28 q26 :: mw κ a r f (va_up (va_up q 3 t20) 3 t42) (tb a) w) H locs → ∀ ls : Array Slot, lv_has ls 14 [(13, .int (nI y13_166)), (11, .long x90), (10, .int (nI y10_136)), (8, .long y8_136), (7, .ref q45), (6, .ref q25), (5, .ref (a (2 + 2 * z.toNatClampNeg))), (4, .ref (a (2 + 2 * y.toNatClampNeg))), (0, .ref (a 0)), (1, .int y), (2, .int z), (3, .int u)] → W p l e (Rm 8 209 6 70) s m args below meth c H locs 6 70 Q (F0 m 166 ls []) := by
                        intro nn
                        induction nn with
                        | zero => intro y13_166 fq45_166 H locs hn13_166 hμ; exact absurd hμ (Nat.not_lt_zero _)
                        | succ nn ih166 =>
                          intro y13_166 fq45_166 H locs hn13_166 hμ166 hB ls hl
                          refine lv_iload hx hb dX10_restOf_166 (lv_at hl 0 rfl) ?_
                          refine lv_aload hx hb dX10_restOf_168 (lv_at hl 4 rfl) ?_
                          refine alenL (k0 := 0) (v := nI (r (2 * y.toNatClampNeg + 1))) hX hB rfl rfl dX10_restOf_170 ?_
                          refine lv_icmp_ge (tgt := 200) hx hb dX10_restOf_171 (by decide) (fun c93 => ?_) (fun c93 => ?_)
                          · rw [nleP (a := r (2 * y.toNatClampNeg + 1)) (b := y13_166) (by omega) (by omega)] at c93
                            refine lv_lload hx hb dX10_restOf_200 (lv_at hl 3 rfl) ?_
                            refine lv_aload hx hb dX10_restOf_202 (lv_at hl 5 rfl) ?_
                            refine lv_iload hx hb dX10_restOf_204 (lv_at hl 2 rfl) ?_
                            refine lv_iload hx hb dX10_restOf_206 (lv_at hl 2 rfl) ?_
                            refine call_V (n := 2) (k0 := 2) (As := [.int (nI y10_136), .int (nI y10_136)]) (rest := [.long y8_136]) hX hB (k_X7_at κ l (lA κ q45 (r (2 * y.toNatClampNeg + 1)) fq45_166 :: lA κ q26 (R27 * 5) F29 :: gO q25 R27 C28 q26 :: mw κ a r f (va_up (va_up q 3 t20) 3 t42) (tb a) w) 2 1 q25 q26 R27 C28 F29 (nI y10_136) y10_136 (nI y10_136) y10_136 rfl rfl ⟨by omega, by omega, by omega, by omega⟩ rfl rfl (by omega)) ⟨rfl, by decide, by decide, by decide +kernel⟩ wm_5_233 wm_5_234 wm_5_235 wm_1_7 wm_5_236 ⟨Nat.le_of_ble_eq_true rfl, Nat.le_of_ble_eq_true rfl⟩ ⟨Nat.le_of_ble_eq_true rfl, Nat.le_of_ble_eq_true rfl⟩ rfl rfl rfl rfl hl.1 rfl (Nat.le_of_ble_eq_true rfl) dX10_restOf_208 (fun o w' H locs hp hB => ?_)
                            obtain ⟨rfl, hw9⟩ := hp
                            replace hB : Bd κ A s (lA κ q45 (r (2 * y.toNatClampNeg + 1)) fq45_166 :: lA κ q26 (R27 * 5) F29 :: gO q25 R27 C28 q26 :: mw κ a r f (va_up (va_up q 3 t20) 3 t42) (tb a) w) H locs := by rw [hw9] at hB; exact hB
                            refine W.eq (g2 := F0 m 211 ls [.long (F29 (y10_136 * 5 + y10_136)), .long y8_136]) rfl ?_
                            refine lv_lmul hx hb dX10_restOf_211 ?_
                            refine lv_aload hx hb dX10_restOf_212 (lv_at hl 4 rfl) ?_
                            refine lv_iload hx hb dX10_restOf_214 (lv_at hl 2 rfl) ?_
                            refine laldN (k0 := 0) (k := y10_136) hX hB rfl (by omega) (by omega) dX10_restOf_216 ?_
                            refine lv_ladd hx hb dX10_restOf_217 ?_
                            refine lv_lstore (lv' := [(8, .long ((y8_136 * (F29 (y10_136 * 5 + y10_136))) + (fq45_166 y10_136))), (13, .int (nI y13_166)), (11, .long x90), (10, .int (nI y10_136)), (7, .ref q45), (6, .ref q25), (5, .ref (a (2 + 2 * z.toNatClampNeg))), (4, .ref (a (2 + 2 * y.toNatClampNeg))), (0, .ref (a 0)), (1, .int y), (2, .int z), (3, .int u)]) hx hb dX10_restOf_218 hl (by decide) rfl (fun ls hl => ?_)
                            refine lv_iinc (v := nI (y10_136 + 1)) (lv' := [(10, .int (nI (y10_136 + 1))), (8, .long ((y8_136 * (F29 (y10_136 * 5 + y10_136))) + (fq45_166 y10_136))), (13, .int (nI y13_166)), (11, .long x90), (7, .ref q45), (6, .ref q25), (5, .ref (a (2 + 2 * z.toNatClampNeg))), (4, .ref (a (2 + 2 * y.toNatClampNeg))), (0, .ref (a 0)), (1, .int y), (2, .int z), (3, .int u)]) hx hb dX10_restOf_220 hl (k := 3) rfl (nI_add y10_136 1) (by decide) rfl (fun ls hl => ?_)
                            refine lv_goto (tgt := 136) hx hb dX10_restOf_223 (by decide) ?_
                            exact ih136 (y10_136 + 1) ((y8_136 * (F29 (y10_136 * 5 + y10_136))) + (fq45_166 y10_136)) fq45_166 _ _ (by omega) (by omega) hB _ (lv_sub hl [0, 1, 4, 5, 6, 7, 8, 9, 10, 11] rfl)
                          · rw [nleP (a := r (2 * y.toNatClampNeg + 1)) (b := y13_166) (by omega) (by omega)] at c93
                            refine lv_aload hx hb dX10_restOf_174 (lv_at hl 4 rfl) ?_
                            refine lv_iload hx hb dX10_restOf_176 (lv_at hl 0 rfl) ?_
                            refine lv_dup2_11 hx hb dX10_restOf_178 rfl rfl ?_
                            refine laldN (k0 := 0) (k := y13_166) hX hB rfl (by omega) (by omega) dX10_restOf_179 ?_
                            refine lv_lload hx hb dX10_restOf_180 (lv_at hl 1 rfl) ?_
                            refine lv_aload hx hb dX10_restOf_182 (lv_at hl 5 rfl) ?_
                            refine lv_iload hx hb dX10_restOf_184 (lv_at hl 2 rfl) ?_
                            refine lv_iload hx hb dX10_restOf_186 (lv_at hl 0 rfl) ?_
                            refine call_V (n := 2) (k0 := 2) (As := [.int (nI y10_136), .int (nI y13_166)]) (rest := [.long x90, .long (fq45_166 y13_166), .int (nI y13_166), .ref q45]) hX hB (k_X7_at κ l (lA κ q45 (r (2 * y.toNatClampNeg + 1)) fq45_166 :: lA κ q26 (R27 * 5) F29 :: gO q25 R27 C28 q26 :: mw κ a r f (va_up (va_up q 3 t20) 3 t42) (tb a) w) 2 1 q25 q26 R27 C28 F29 (nI y10_136) y10_136 (nI y13_166) y13_166 rfl rfl ⟨by omega, by omega, by omega, by omega⟩ rfl rfl (by omega)) ⟨rfl, by decide, by decide, by decide +kernel⟩ wm_5_233 wm_5_234 wm_5_235 wm_1_7 wm_5_236 ⟨Nat.le_of_ble_eq_true rfl, Nat.le_of_ble_eq_true rfl⟩ ⟨Nat.le_of_ble_eq_true rfl, Nat.le_of_ble_eq_true rfl⟩ rfl rfl rfl rfl hl.1 rfl (Nat.le_of_ble_eq_true rfl) dX10_restOf_188 (fun o w' H locs hp hB => ?_)
                            obtain ⟨rfl, hw9⟩ := hp
                            replace hB : Bd κ A s (lA κ q45 (r (2 * y.toNatClampNeg + 1)) fq45_166 :: lA κ q26 (R27 * 5) F29 :: gO q25 R27 C28 q26 :: mw κ a r f (va_up (va_up q 3 t20) 3 t42) (tb a) w) H locs := by rw [hw9] at hB; exact hB
                            refine W.eq (g2 := F0 m 191 ls [.long (F29 (y10_136 * 5 + y13_166)), .long x90, .long (fq45_166 y13_166), .int (nI y13_166), .ref q45]) rfl ?_
                            refine lv_lmul hx hb dX10_restOf_191 ?_
                            refine lv_lsub hx hb dX10_restOf_192 ?_
                            refine lastN (k0 := 0) (k := y13_166) hX hB rfl (by omega) (by omega) (w1 := lA κ q45 (r (2 * y.toNatClampNeg + 1)) (vp_updL fq45_166 y13_166 ((fq45_166 y13_166) - (x90 * (F29 (y10_136 * 5 + y13_166))))) :: lA κ q26 (R27 * 5) F29 :: gO q25 R27 C28 q26 :: mw κ a r f (va_up (va_up q 3 t20) 3 t42) (tb a) w) rfl dX10_restOf_193 (fun H locs hB => ?_)
                            refine lv_iinc (v := nI (y13_166 + 1)) (lv' := [(13, .int (nI (y13_166 + 1))), (11, .long x90), (10, .int (nI y10_136)), (8, .long y8_136), (7, .ref q45), (6, .ref q25), (5, .ref (a (2 + 2 * z.toNatClampNeg))), (4, .ref (a (2 + 2 * y.toNatClampNeg))), (0, .ref (a 0)), (1, .int y), (2, .int z), (3, .int u)]) hx hb dX10_restOf_194 hl (k := 0) rfl (nI_add y13_166 1) (by decide) rfl (fun ls hl => ?_)
                            refine lv_goto (tgt := 166) hx hb dX10_restOf_197 (by decide) ?_
                            exact ih166 (y13_166 + 1) (vp_updL fq45_166 y13_166 ((fq45_166 y13_166) - (x90 * (F29 (y10_136 * 5 + y13_166))))) _ _ (by omega) (by omega) hB _ hl
                      exact lp166 _ 0 fq45_136 _ _ (by omega) (Nat.lt_succ_self _) hB _ hl
                exact lp136 _ 0 0 fq45_103 _ _ (by omega) (Nat.lt_succ_self _) hB _ hl
              · rw [nleP (a := r (2 * y.toNatClampNeg + 1)) (b := y8_103) (by omega) (by omega)] at c78
                refine lv_aload hx hb dX10_restOf_111 (lv_at hl 1 rfl) ?_
                refine lv_iload hx hb dX10_restOf_113 (lv_at hl 0 rfl) ?_
                refine lv_aload hx hb dX10_restOf_115 (lv_at hl 3 rfl) ?_
                refine lv_iload_n hx hb dX10_restOf_117 rfl (lv_at hl 8 rfl) ?_
                refine lv_iload hx hb dX10_restOf_118 (lv_at hl 0 rfl) ?_
                refine call_V (n := 2) (k0 := (2 + 2 * z.toNatClampNeg + 3)) (As := [.int u, .int (nI y8_103)]) (rest := [.int (nI y8_103), .ref q45]) hX hB (k_X7_at κ l (lA κ q45 (r (2 * y.toNatClampNeg + 1)) fq45_103 :: lA κ q26 (R27 * 5) F29 :: gO q25 R27 C28 q26 :: mw κ a r f (va_up (va_up q 3 t20) 3 t42) (tb a) w) (2 + 2 * z.toNatClampNeg + 3) (3 + 2 * z.toNatClampNeg + 3) (a (2 + 2 * z.toNatClampNeg)) (a (3 + 2 * z.toNatClampNeg)) (r (2 * z.toNatClampNeg)) (r (2 * z.toNatClampNeg + 1)) (f z.toNatClampNeg) u ((u).toNatClampNeg) (nI y8_103) y8_103 (mwG (i := z.toNatClampNeg) (a := a) (r := r) (f := f) (q := (va_up (va_up q 3 t20) 3 t42)) (T := tb a) (w := w) (by omega)) (mwA (i := z.toNatClampNeg) (a := a) (r := r) (f := f) (q := (va_up (va_up q 3 t20) 3 t42)) (T := tb a) (w := w) (by omega)) (mok_shp (i := z.toNatClampNeg) hm (by omega)) (nI_rep (by assumption)) rfl (by omega)) ⟨rfl, by decide, by decide, by decide +kernel⟩ wm_5_233 wm_5_234 wm_5_235 wm_1_7 wm_5_236 ⟨Nat.le_of_ble_eq_true rfl, Nat.le_of_ble_eq_true rfl⟩ ⟨Nat.le_of_ble_eq_true rfl, Nat.le_of_ble_eq_true rfl⟩ (mwG (i := z.toNatClampNeg) (a := a) (r := r) (f := f) (q := (va_up (va_up q 3 t20) 3 t42)) (T := tb a) (w := w) (by omega)) rfl rfl rfl hl.1 rfl (Nat.le_of_ble_eq_true rfl) dX10_restOf_120 (fun o w' H locs hp hB => ?_)
                obtain ⟨rfl, hw9⟩ := hp
                replace hB : Bd κ A s (lA κ q45 (r (2 * y.toNatClampNeg + 1)) fq45_103 :: lA κ q26 (R27 * 5) F29 :: gO q25 R27 C28 q26 :: mw κ a r f (va_up (va_up q 3 t20) 3 t42) (tb a) w) H locs := by rw [hw9] at hB; exact hB
                refine W.eq (g2 := F0 m 123 ls [.long ((f z.toNatClampNeg) (((u).toNatClampNeg) * 5 + y8_103)), .int (nI y8_103), .ref q45]) rfl ?_
                refine lastN (k0 := 0) (k := y8_103) hX hB rfl (by omega) (by omega) (w1 := lA κ q45 (r (2 * y.toNatClampNeg + 1)) (vp_updL fq45_103 y8_103 ((f z.toNatClampNeg) (((u).toNatClampNeg) * 5 + y8_103))) :: lA κ q26 (R27 * 5) F29 :: gO q25 R27 C28 q26 :: mw κ a r f (va_up (va_up q 3 t20) 3 t42) (tb a) w) rfl dX10_restOf_123 (fun H locs hB => ?_)
                refine lv_iinc (v := nI (y8_103 + 1)) (lv' := [(8, .int (nI (y8_103 + 1))), (7, .ref q45), (6, .ref q25), (5, .ref (a (2 + 2 * z.toNatClampNeg))), (4, .ref (a (2 + 2 * y.toNatClampNeg))), (0, .ref (a 0)), (1, .int y), (2, .int z), (3, .int u)]) hx hb dX10_restOf_124 hl (k := 0) rfl (nI_add y8_103 1) (by decide) rfl (fun ls hl => ?_)
                refine lv_goto (tgt := 103) hx hb dX10_restOf_127 (by decide) ?_
                exact ih103 (y8_103 + 1) (vp_updL fq45_103 y8_103 ((f z.toNatClampNeg) (((u).toNatClampNeg) * 5 + y8_103))) _ _ (by omega) (by omega) hB _ hl
          exact lp103 _ 0 (fun _ => 0) _ _ (by omega) (Nat.lt_succ_self _) hB _ hl
        · rw [neqP (a := r (2 * y.toNatClampNeg + 1)) (b := r (2 * z.toNatClampNeg + 1)) (by omega) (by omega)] at c40
          refine lv_iconst (v := 1) hx hb dX10_restOf_78 (by decide) ?_
          refine lv_goto (tgt := 83) hx hb dX10_restOf_79 (by decide) ?_
          refine call_V (n := 3) (k0 := 2) (As := [.int 0, .int 0, .int 1]) (rest := []) hX hB (k_X10_isThrown κ l (lA κ q26 (R27 * 5) F29 :: gO q25 R27 C28 q26 :: mw κ a r f (va_up q 3 t20) (tb a) w) 2 (a 0) (a 1) ((va_up q 3 t20) 0) ((va_up q 3 t20) 1) ((va_up q 3 t20) 2) ((va_up q 3 t20) 3) 0 0 1 (mw0x (a := a) (r := r) (f := f) (q := (va_up q 3 t20)) (T := tb a) (w := w) rfl)) ⟨rfl, by decide, by decide, by decide +kernel⟩ wm_5_192 wm_5_194 wp_28 wm_1_6 wm_5_195 ⟨Nat.le_of_ble_eq_true rfl, Nat.le_of_ble_eq_true rfl⟩ ⟨Nat.le_of_ble_eq_true rfl, Nat.le_of_ble_eq_true rfl⟩ (mw0x (a := a) (r := r) (f := f) (q := (va_up q 3 t20)) (T := tb a) (w := w) rfl) rfl rfl rfl hl.1 rfl (Nat.le_of_ble_eq_true rfl) dX10_restOf_83 (fun o w' H locs hp hB => ?_)
          obtain ⟨x94, t95, rfl, hf96, hw9⟩ := hp
          replace hB : Bd κ A s (lA κ q26 (R27 * 5) F29 :: gO q25 R27 C28 q26 :: mw κ a r f (va_up (va_up q 3 t20) 3 t95) (tb a) w) H locs := by exact Bd_eq (congrArg (List.cons _) (congrArg (List.cons _) (mwQ3x rfl _))) (by rw [hw9] at hB; exact hB)
          obtain rfl : x94 = 1 := hf96.trans (by decide)
          refine W.eq (g2 := F0 m 86 ls [.int 1]) rfl ?_
          refine lv_if_eq (tgt := 91) hx hb dX10_restOf_86 (by decide) (fun c97 => False.elim (by revert c97; decide)) (fun _ => ?_)
          refine lv_iconst (v := 0) hx hb dX10_restOf_89 (by decide) ?_
          replace hB : Bd κ A s (lA κ q26 (R27 * 5) F29 :: mw κ a r f (va_up (va_up q 3 t20) 3 t95) (tb a) w) H locs := Bd_del 1 hB
          replace hB : Bd κ A s (mw κ a r f (va_up (va_up q 3 t20) 3 t95) (tb a) w) H locs := Bd_del 0 hB
          rw [← hQ]
          exact end_i hX hB hA3 rfl rfl ⟨0, (va_up (va_up q 3 t20) 3 t95), rfl, rfl, rfl⟩ (Nat.le_of_ble_eq_true rfl) (Nat.le_of_ble_eq_true rfl) dX10_restOf_90
