theorem alenM {p : Program} {l : Launch} {e : Env} {R : Room} {s : State} {m : MethodId} {args : Array Value} {below : List Frame} {meth : Method} {c : Code} {H : Heap} {locs : List Loc} {cells slots : Nat} {Q : State → Prop} {κ : Kt} {cc : ByteArray} {nL : Nat} {own : String} {ret : Option FieldType} {A : Nat → Prop} {w : va_W} {pc : Nat} {ls : Array Slot} {rest : List Value} {k0 b n : Nat} {f : Nat → Option Nat} {v : Int32} (hX : Cx κ p m c cc nL s args own meth ret A) (hB : Bd κ A s w H locs) (he : w[k0]? = some (b, .inl (κ.2.1 2, n, .inr (.inr (.inr (.inr f)))))) (hv : Int32.ofNat n = v) (hdg : decode cc pc = .ok (.arraylength, 1))
    (kk : W p l e R s m args below meth c H locs cells slots Q (F0 m (pc + 1) ls (.int v :: rest))) : W p l e R s m args below meth c H locs cells slots Q (F0 m pc ls (.ref b :: rest)) :=
  va_alen (tys := tysK κ) (ty := .object "GridmenderModel$Grid") hX.1.1 hX.1.2.1 hX.2.1.1 hB.1 k0 2 he rfl hv hdg kk

noncomputable def D_X10_shape (r : Nat → Nat) (f : Nat → Nat → Int64) (q : Nat → Int32) (y : Int32) (c0 : Int32) : Int32 × (Nat → Int32) := bnd1 (D_X10_isTable y) (fun (z1 : Int32) => (if z1 = 0 then bnd2 (D_X10_isThrown__ (q 0) (q 1) (q 2) (q 3) 1) (fun (x6 : Int32) (t7 : Int32) => (0, va_up q 3 t7)) else bnd2 (D_X10_isThrown__ (q 0) (q 1) (q 2) (q 3) 0) (fun (x12 : Int32) (t13 : Int32) => (if c0 = 0 then (nI (r (2 * y.toNatClampNeg)), va_up q 3 t13) else (nI (r (2 * y.toNatClampNeg + 1)), va_up q 3 t13)))))
theorem D_X10_shape_s {r : Nat → Nat} {f : Nat → Nat → Int64} {q : Nat → Int32} {y : Int32} {c0 : Int32} : D_X10_shape r f q y c0 = bnd1 (D_X10_isTable y) (fun (z1 : Int32) => (if z1 = 0 then bnd2 (D_X10_isThrown__ (q 0) (q 1) (q 2) (q 3) 1) (fun (x6 : Int32) (t7 : Int32) => (0, va_up q 3 t7)) else bnd2 (D_X10_isThrown__ (q 0) (q 1) (q 2) (q 3) 0) (fun (x12 : Int32) (t13 : Int32) => (if c0 = 0 then (nI (r (2 * y.toNatClampNeg)), va_up q 3 t13) else (nI (r (2 * y.toNatClampNeg + 1)), va_up q 3 t13))))) := rfl
set_option maxHeartbeats 4000000 in
set_option maxRecDepth 100000 in
theorem k_X10_shape (κ : Kt) (l : Launch) (w : va_W) (a r : Nat → Nat) (f : Nat → Nat → Int64) (q : Nat → Int32) (y : Int32) (c0 : Int32) (hm : mok r f) (o_x : Int32) (o_q' : Nat → Int32) (hR : D_X10_shape r f q y c0 = (o_x, o_q')) : CM κ l yX10_shape cX10_shape 3 (some .int) 2 44 0 0 [.ref (a 0), .int y, .int c0] (mw κ a r f q (tb a) w) (fun o w' => o = some (.int o_x) ∧ (o_q' 2 = q 2 ∧ o_q' 0 = q 0 ∧ o_q' 1 = q 1) ∧ w' = mw κ a r f o_q' (tb a) w) := by
  refine CM_begin (plainFor_of_name pn_RX10) (Nat.le_of_ble_eq_true rfl) ?_
  intro p e s m args below meth c A Q hX hnm hA3 hQ hB ls hl
  have hx := hX.1.1
  have hb := hX.1.2.1
  have hl : lv_has ls 3 [(0, .ref (a 0)), (1, .int y), (2, .int c0)] := hl
  replace hR := (D_X10_shape_s).symm.trans hR
  refine lv_aload_n hx hb dX10_shape_0 rfl (lv_at hl 0 rfl) ?_
  refine lv_iload_n hx hb dX10_shape_1 rfl (lv_at hl 1 rfl) ?_
  obtain ⟨z1, hd2⟩ := ex1 (D_X10_isTable y)
  replace hR := bnd1_use hd2 hR
  refine call_S (n := 1) (As := [.int y]) (rest := [.ref (a 0)]) hX hB (k_X10_isTable κ l (mw κ a r f q (tb a) w) y z1 hd2) yk_X10_isTable wm_5_186 wm_5_187 wm_1_6 wm_5_188 ⟨Nat.le_of_ble_eq_true rfl, Nat.le_of_ble_eq_true rfl⟩ ⟨Nat.le_of_ble_eq_true rfl, Nat.le_of_ble_eq_true rfl⟩ rfl hl.1 rfl (Nat.le_of_ble_eq_true rfl) dX10_shape_2 (fun o w' H locs hp hB => ?_)
  obtain ⟨rfl, hf3, hw9⟩ := hp
  replace hB : Bd κ A s (mw κ a r f q (tb a) w) H locs := by rw [hw9] at hB; exact hB
  rcases hf3 with rfl | ⟨rfl, hz4a, hz4b⟩
  · replace hR := ifp rfl hR
    refine W.eq (g2 := F0 m 5 ls [.int 0, .ref (a 0)]) rfl ?_
    refine lv_if_ne (tgt := 12) hx hb dX10_shape_5 (by decide) (fun c5 => False.elim (by revert c5; decide)) (fun _ => ?_)
    refine lv_iconst (v := 1) hx hb dX10_shape_8 (by decide) ?_
    refine lv_goto (tgt := 13) hx hb dX10_shape_9 (by decide) ?_
    obtain ⟨x6, t7, hd8⟩ := ex2 (D_X10_isThrown__ (q 0) (q 1) (q 2) (q 3) 1)
    replace hR := bnd2_use hd8 hR
    refine call_V (n := 1) (k0 := 0) (As := [.int 1]) (rest := []) hX hB (k_X10_isThrown__ κ l (mw κ a r f q (tb a) w) 0 (a 0) (a 1) (q 0) (q 1) (q 2) (q 3) 1 (mw0x (a := a) (r := r) (f := f) (q := q) (T := tb a) (w := w) rfl) x6 t7 hd8) ⟨rfl, yk_X10_isThrown__⟩ wm_6_15 wm_6_17 wp_33 wm_1_6 wm_6_18 ⟨Nat.le_of_ble_eq_true rfl, Nat.le_of_ble_eq_true rfl⟩ ⟨Nat.le_of_ble_eq_true rfl, Nat.le_of_ble_eq_true rfl⟩ (mw0x (a := a) (r := r) (f := f) (q := q) (T := tb a) (w := w) rfl) rfl rfl rfl hl.1 rfl (Nat.le_of_ble_eq_true rfl) dX10_shape_13 (fun o w' H locs hp hB => ?_)
    obtain ⟨rfl, hf9, hw9⟩ := hp
    replace hB : Bd κ A s (mw κ a r f (va_up q 3 t7) (tb a) w) H locs := by exact Bd_eq (mwQ3x rfl _) (by rw [hw9] at hB; exact hB)
    obtain rfl : x6 = 1 := hf9.trans (by decide)
    refine W.eq (g2 := F0 m 16 ls [.int 1]) rfl ?_
    refine lv_if_eq (tgt := 23) hx hb dX10_shape_16 (by decide) (fun c10 => False.elim (by revert c10; decide)) (fun _ => ?_)
    refine lv_iconst (v := 0) hx hb dX10_shape_19 (by decide) ?_
    refine lv_goto (tgt := 48) hx hb dX10_shape_20 (by decide) ?_
    rw [← hQ]
    exact end_i hX hB hA3 rfl rfl (by obtain ⟨rfl, rfl⟩ := pr2 hR; exact ⟨rfl, ⟨rfl, rfl, rfl⟩, rfl⟩) (Nat.le_of_ble_eq_true rfl) (Nat.le_of_ble_eq_true rfl) dX10_shape_48
  · replace hR := ifn (by decide) hR
    refine W.eq (g2 := F0 m 5 ls [.int 1, .ref (a 0)]) rfl ?_
    refine lv_if_ne (tgt := 12) hx hb dX10_shape_5 (by decide) (fun _ => ?_) (fun c11 => False.elim (by revert c11; decide))
    refine lv_iconst (v := 0) hx hb dX10_shape_12 (by decide) ?_
    obtain ⟨x12, t13, hd14⟩ := ex2 (D_X10_isThrown__ (q 0) (q 1) (q 2) (q 3) 0)
    replace hR := bnd2_use hd14 hR
    refine call_V (n := 1) (k0 := 0) (As := [.int 0]) (rest := []) hX hB (k_X10_isThrown__ κ l (mw κ a r f q (tb a) w) 0 (a 0) (a 1) (q 0) (q 1) (q 2) (q 3) 0 (mw0x (a := a) (r := r) (f := f) (q := q) (T := tb a) (w := w) rfl) x12 t13 hd14) ⟨rfl, yk_X10_isThrown__⟩ wm_6_15 wm_6_17 wp_33 wm_1_6 wm_6_18 ⟨Nat.le_of_ble_eq_true rfl, Nat.le_of_ble_eq_true rfl⟩ ⟨Nat.le_of_ble_eq_true rfl, Nat.le_of_ble_eq_true rfl⟩ (mw0x (a := a) (r := r) (f := f) (q := q) (T := tb a) (w := w) rfl) rfl rfl rfl hl.1 rfl (Nat.le_of_ble_eq_true rfl) dX10_shape_13 (fun o w' H locs hp hB => ?_)
    obtain ⟨rfl, hf15, hw9⟩ := hp
    replace hB : Bd κ A s (mw κ a r f (va_up q 3 t13) (tb a) w) H locs := by exact Bd_eq (mwQ3x rfl _) (by rw [hw9] at hB; exact hB)
    obtain rfl : x12 = 0 := hf15.trans (by decide)
    refine W.eq (g2 := F0 m 16 ls [.int 0]) rfl ?_
    refine lv_if_eq (tgt := 23) hx hb dX10_shape_16 (by decide) (fun _ => ?_) (fun c16 => False.elim (by revert c16; decide))
    refine lv_iload_n hx hb dX10_shape_23 rfl (lv_at hl 2 rfl) ?_
    refine lv_if_eq (tgt := 39) hx hb dX10_shape_24 (by decide) (fun c17 => ?_) (fun c17 => ?_)
    · replace hR := ifp c17 hR
      refine lv_aload_n hx hb dX10_shape_39 rfl (lv_at hl 0 rfl) ?_
      refine gf (k0 := 0) hX hB (mw0x (a := a) (r := r) (f := f) (q := (va_up q 3 t13)) (T := tb a) (w := w) rfl) rfl in10 0 (by decide) wm_5_162 rfl rfl dX10_shape_40 ?_
      refine lv_iload_n hx hb dX10_shape_43 rfl (lv_at hl 1 rfl) ?_
      refine aaldM (k0 := 1) hX hB (mw1 (a := a) (r := r) (f := f) (q := (va_up q 3 t13)) (T := tb a) (w := w)) (vp_in_mk (by assumption) (by assumption)) rfl dX10_shape_44 ?_
      have hb18 := mok_r hm y.toNatClampNeg (by omega)
      refine gf (k0 := 2 + 2 * y.toNatClampNeg) hX hB (mwG (i := y.toNatClampNeg) (a := a) (r := r) (f := f) (q := (va_up q 3 t13)) (T := tb a) (w := w) (by omega)) rfl in7 0 (by decide) wm_5_148 rfl rfl dX10_shape_45 ?_
      rw [← hQ]
      exact end_i hX hB hA3 rfl rfl (by obtain ⟨rfl, rfl⟩ := pr2 hR; exact ⟨rfl, ⟨rfl, rfl, rfl⟩, rfl⟩) (Nat.le_of_ble_eq_true rfl) (Nat.le_of_ble_eq_true rfl) dX10_shape_48
    · replace hR := ifn c17 hR
      refine lv_aload_n hx hb dX10_shape_27 rfl (lv_at hl 0 rfl) ?_
      refine gf (k0 := 0) hX hB (mw0x (a := a) (r := r) (f := f) (q := (va_up q 3 t13)) (T := tb a) (w := w) rfl) rfl in10 0 (by decide) wm_5_162 rfl rfl dX10_shape_28 ?_
      refine lv_iload_n hx hb dX10_shape_31 rfl (lv_at hl 1 rfl) ?_
      refine aaldM (k0 := 1) hX hB (mw1 (a := a) (r := r) (f := f) (q := (va_up q 3 t13)) (T := tb a) (w := w)) (vp_in_mk (by assumption) (by assumption)) rfl dX10_shape_32 ?_
      have hb19 := mok_r hm y.toNatClampNeg (by omega)
      refine gf (k0 := 2 + 2 * y.toNatClampNeg) hX hB (mwG (i := y.toNatClampNeg) (a := a) (r := r) (f := f) (q := (va_up q 3 t13)) (T := tb a) (w := w) (by omega)) rfl in7 1 (by decide) wm_5_152 rfl rfl dX10_shape_33 ?_
      refine lv_goto (tgt := 48) hx hb dX10_shape_36 (by decide) ?_
      rw [← hQ]
      exact end_i hX hB hA3 rfl rfl (by obtain ⟨rfl, rfl⟩ := pr2 hR; exact ⟨rfl, ⟨rfl, rfl, rfl⟩, rfl⟩) (Nat.le_of_ble_eq_true rfl) (Nat.le_of_ble_eq_true rfl) dX10_shape_48
noncomputable def D_X10_at (r : Nat → Nat) (f : Nat → Nat → Int64) (q : Nat → Int32) (y : Int32) (z : Int32) (u : Int32) : Int32 × (Nat → Int32) := bnd1 (D_X10_isRow r f q y z) (fun (x1 : Int32) => (if x1 = 0 then bnd2 (D_X10_isThrown__ (q 0) (q 1) (q 2) (q 3) 1) (fun (x6 : Int32) (t7 : Int32) => (0, va_up q 3 t7)) else bnd1 (D_X10_isColumn r f q y u) (fun (x12 : Int32) => (if x12 = 0 then bnd2 (D_X10_isThrown__ (q 0) (q 1) (q 2) (q 3) 1) (fun (x17 : Int32) (t18 : Int32) => (0, va_up q 3 t18)) else bnd2 (D_X10_isThrown__ (q 0) (q 1) (q 2) (q 3) 0) (fun (x23 : Int32) (t24 : Int32) => ((((f y.toNatClampNeg) (((z).toNatClampNeg) * 5 + ((u).toNatClampNeg)))).toInt32, va_up q 3 t24))))))
theorem D_X10_at_s {r : Nat → Nat} {f : Nat → Nat → Int64} {q : Nat → Int32} {y : Int32} {z : Int32} {u : Int32} : D_X10_at r f q y z u = bnd1 (D_X10_isRow r f q y z) (fun (x1 : Int32) => (if x1 = 0 then bnd2 (D_X10_isThrown__ (q 0) (q 1) (q 2) (q 3) 1) (fun (x6 : Int32) (t7 : Int32) => (0, va_up q 3 t7)) else bnd1 (D_X10_isColumn r f q y u) (fun (x12 : Int32) => (if x12 = 0 then bnd2 (D_X10_isThrown__ (q 0) (q 1) (q 2) (q 3) 1) (fun (x17 : Int32) (t18 : Int32) => (0, va_up q 3 t18)) else bnd2 (D_X10_isThrown__ (q 0) (q 1) (q 2) (q 3) 0) (fun (x23 : Int32) (t24 : Int32) => ((((f y.toNatClampNeg) (((z).toNatClampNeg) * 5 + ((u).toNatClampNeg)))).toInt32, va_up q 3 t24)))))) := rfl
set_option maxHeartbeats 4000000 in
set_option maxRecDepth 100000 in
theorem k_X10_at (κ : Kt) (l : Launch) (w : va_W) (a r : Nat → Nat) (f : Nat → Nat → Int64) (q : Nat → Int32) (y : Int32) (z : Int32) (u : Int32) (hm : mok r f) (o_x : Int32) (o_q' : Nat → Int32) (hR : D_X10_at r f q y z u = (o_x, o_q')) : CM κ l yX10_at cX10_at 4 (some .int) 2 44 0 0 [.ref (a 0), .int y, .int z, .int u] (mw κ a r f q (tb a) w) (fun o w' => o = some (.int o_x) ∧ (o_q' 2 = q 2 ∧ o_q' 0 = q 0 ∧ o_q' 1 = q 1) ∧ w' = mw κ a r f o_q' (tb a) w) := by
  refine CM_begin (plainFor_of_name pn_RX10) (Nat.le_of_ble_eq_true rfl) ?_
  intro p e s m args below meth c A Q hX hnm hA3 hQ hB ls hl
  have hx := hX.1.1
  have hb := hX.1.2.1
  have hl : lv_has ls 4 [(0, .ref (a 0)), (1, .int y), (2, .int z), (3, .int u)] := hl
  replace hR := (D_X10_at_s).symm.trans hR
  refine lv_aload_n hx hb dX10_at_0 rfl (lv_at hl 0 rfl) ?_
  refine lv_aload_n hx hb dX10_at_1 rfl (lv_at hl 0 rfl) ?_
  refine lv_iload_n hx hb dX10_at_2 rfl (lv_at hl 1 rfl) ?_
  refine lv_iload_n hx hb dX10_at_3 rfl (lv_at hl 2 rfl) ?_
  obtain ⟨x1, hd2⟩ := ex1 (D_X10_isRow r f q y z)
  replace hR := bnd1_use hd2 hR
  refine call_V (n := 2) (k0 := 0) (As := [.int y, .int z]) (rest := [.ref (a 0)]) hX hB (k_X10_isRow κ l w a r f q y z hm x1 hd2) ⟨rfl, yk_X10_isRow⟩ wm_5_229 wm_5_231 wp_31 wm_1_6 wm_5_232 ⟨Nat.le_of_ble_eq_true rfl, Nat.le_of_ble_eq_true rfl⟩ ⟨Nat.le_of_ble_eq_true rfl, Nat.le_of_ble_eq_true rfl⟩ (mw0x (a := a) (r := r) (f := f) (q := q) (T := tb a) (w := w) rfl) rfl rfl rfl hl.1 rfl (Nat.le_of_ble_eq_true rfl) dX10_at_4 (fun o w' H locs hp hB => ?_)
  obtain ⟨rfl, hf3, hw9⟩ := hp
  replace hB : Bd κ A s (mw κ a r f q (tb a) w) H locs := by rw [hw9] at hB; exact hB
  rcases hf3 with rfl | ⟨rfl, hz4a, hz4b, hz4c, hz4d⟩
  · replace hR := ifp rfl hR
    refine W.eq (g2 := F0 m 7 ls [.int 0, .ref (a 0)]) rfl ?_
    refine lv_if_eq (tgt := 19) hx hb dX10_at_7 (by decide) (fun _ => ?_) (fun c5 => False.elim (by revert c5; decide))
    refine lv_iconst (v := 1) hx hb dX10_at_19 (by decide) ?_
    refine lv_goto (tgt := 24) hx hb dX10_at_20 (by decide) ?_
    obtain ⟨x6, t7, hd8⟩ := ex2 (D_X10_isThrown__ (q 0) (q 1) (q 2) (q 3) 1)
    replace hR := bnd2_use hd8 hR
    refine call_V (n := 1) (k0 := 0) (As := [.int 1]) (rest := []) hX hB (k_X10_isThrown__ κ l (mw κ a r f q (tb a) w) 0 (a 0) (a 1) (q 0) (q 1) (q 2) (q 3) 1 (mw0x (a := a) (r := r) (f := f) (q := q) (T := tb a) (w := w) rfl) x6 t7 hd8) ⟨rfl, yk_X10_isThrown__⟩ wm_6_15 wm_6_17 wp_33 wm_1_6 wm_6_18 ⟨Nat.le_of_ble_eq_true rfl, Nat.le_of_ble_eq_true rfl⟩ ⟨Nat.le_of_ble_eq_true rfl, Nat.le_of_ble_eq_true rfl⟩ (mw0x (a := a) (r := r) (f := f) (q := q) (T := tb a) (w := w) rfl) rfl rfl rfl hl.1 rfl (Nat.le_of_ble_eq_true rfl) dX10_at_24 (fun o w' H locs hp hB => ?_)
    obtain ⟨rfl, hf9, hw9⟩ := hp
    replace hB : Bd κ A s (mw κ a r f (va_up q 3 t7) (tb a) w) H locs := by exact Bd_eq (mwQ3x rfl _) (by rw [hw9] at hB; exact hB)
    obtain rfl : x6 = 1 := hf9.trans (by decide)
    refine W.eq (g2 := F0 m 27 ls [.int 1]) rfl ?_
    refine lv_if_eq (tgt := 34) hx hb dX10_at_27 (by decide) (fun c10 => False.elim (by revert c10; decide)) (fun _ => ?_)
    refine lv_iconst (v := 0) hx hb dX10_at_30 (by decide) ?_
    refine lv_goto (tgt := 46) hx hb dX10_at_31 (by decide) ?_
    rw [← hQ]
    exact end_i hX hB hA3 rfl rfl (by obtain ⟨rfl, rfl⟩ := pr2 hR; exact ⟨rfl, ⟨rfl, rfl, rfl⟩, rfl⟩) (Nat.le_of_ble_eq_true rfl) (Nat.le_of_ble_eq_true rfl) dX10_at_46
  · replace hR := ifn (by decide) hR
    refine W.eq (g2 := F0 m 7 ls [.int 1, .ref (a 0)]) rfl ?_
    refine lv_if_eq (tgt := 19) hx hb dX10_at_7 (by decide) (fun c11 => False.elim (by revert c11; decide)) (fun _ => ?_)
    refine lv_aload_n hx hb dX10_at_10 rfl (lv_at hl 0 rfl) ?_
    refine lv_iload_n hx hb dX10_at_11 rfl (lv_at hl 1 rfl) ?_
    refine lv_iload_n hx hb dX10_at_12 rfl (lv_at hl 3 rfl) ?_
    obtain ⟨x12, hd13⟩ := ex1 (D_X10_isColumn r f q y u)
    replace hR := bnd1_use hd13 hR
    refine call_V (n := 2) (k0 := 0) (As := [.int y, .int u]) (rest := [.ref (a 0)]) hX hB (k_X10_isColumn κ l w a r f q y u hm x12 hd13) ⟨rfl, yk_X10_isColumn⟩ wm_5_233 wm_5_235 wp_32 wm_1_6 wm_5_236 ⟨Nat.le_of_ble_eq_true rfl, Nat.le_of_ble_eq_true rfl⟩ ⟨Nat.le_of_ble_eq_true rfl, Nat.le_of_ble_eq_true rfl⟩ (mw0x (a := a) (r := r) (f := f) (q := q) (T := tb a) (w := w) rfl) rfl rfl rfl hl.1 rfl (Nat.le_of_ble_eq_true rfl) dX10_at_13 (fun o w' H locs hp hB => ?_)
    obtain ⟨rfl, hf14, hw9⟩ := hp
    replace hB : Bd κ A s (mw κ a r f q (tb a) w) H locs := by rw [hw9] at hB; exact hB
    rcases hf14 with rfl | ⟨rfl, hz15a, hz15b, hz15c, hz15d⟩
    · replace hR := ifp rfl hR
      refine W.eq (g2 := F0 m 16 ls [.int 0, .ref (a 0)]) rfl ?_
      refine lv_if_ne (tgt := 23) hx hb dX10_at_16 (by decide) (fun c16 => False.elim (by revert c16; decide)) (fun _ => ?_)
      refine lv_iconst (v := 1) hx hb dX10_at_19 (by decide) ?_
      refine lv_goto (tgt := 24) hx hb dX10_at_20 (by decide) ?_
      obtain ⟨x17, t18, hd19⟩ := ex2 (D_X10_isThrown__ (q 0) (q 1) (q 2) (q 3) 1)
      replace hR := bnd2_use hd19 hR
      refine call_V (n := 1) (k0 := 0) (As := [.int 1]) (rest := []) hX hB (k_X10_isThrown__ κ l (mw κ a r f q (tb a) w) 0 (a 0) (a 1) (q 0) (q 1) (q 2) (q 3) 1 (mw0x (a := a) (r := r) (f := f) (q := q) (T := tb a) (w := w) rfl) x17 t18 hd19) ⟨rfl, yk_X10_isThrown__⟩ wm_6_15 wm_6_17 wp_33 wm_1_6 wm_6_18 ⟨Nat.le_of_ble_eq_true rfl, Nat.le_of_ble_eq_true rfl⟩ ⟨Nat.le_of_ble_eq_true rfl, Nat.le_of_ble_eq_true rfl⟩ (mw0x (a := a) (r := r) (f := f) (q := q) (T := tb a) (w := w) rfl) rfl rfl rfl hl.1 rfl (Nat.le_of_ble_eq_true rfl) dX10_at_24 (fun o w' H locs hp hB => ?_)
      obtain ⟨rfl, hf20, hw9⟩ := hp
      replace hB : Bd κ A s (mw κ a r f (va_up q 3 t18) (tb a) w) H locs := by exact Bd_eq (mwQ3x rfl _) (by rw [hw9] at hB; exact hB)
      obtain rfl : x17 = 1 := hf20.trans (by decide)
      refine W.eq (g2 := F0 m 27 ls [.int 1]) rfl ?_
      refine lv_if_eq (tgt := 34) hx hb dX10_at_27 (by decide) (fun c21 => False.elim (by revert c21; decide)) (fun _ => ?_)
      refine lv_iconst (v := 0) hx hb dX10_at_30 (by decide) ?_
      refine lv_goto (tgt := 46) hx hb dX10_at_31 (by decide) ?_
      rw [← hQ]
      exact end_i hX hB hA3 rfl rfl (by obtain ⟨rfl, rfl⟩ := pr2 hR; exact ⟨rfl, ⟨rfl, rfl, rfl⟩, rfl⟩) (Nat.le_of_ble_eq_true rfl) (Nat.le_of_ble_eq_true rfl) dX10_at_46
    · replace hR := ifn (by decide) hR
      refine W.eq (g2 := F0 m 16 ls [.int 1, .ref (a 0)]) rfl ?_
      refine lv_if_ne (tgt := 23) hx hb dX10_at_16 (by decide) (fun _ => ?_) (fun c22 => False.elim (by revert c22; decide))
      refine lv_iconst (v := 0) hx hb dX10_at_23 (by decide) ?_
      obtain ⟨x23, t24, hd25⟩ := ex2 (D_X10_isThrown__ (q 0) (q 1) (q 2) (q 3) 0)
      replace hR := bnd2_use hd25 hR
      refine call_V (n := 1) (k0 := 0) (As := [.int 0]) (rest := []) hX hB (k_X10_isThrown__ κ l (mw κ a r f q (tb a) w) 0 (a 0) (a 1) (q 0) (q 1) (q 2) (q 3) 0 (mw0x (a := a) (r := r) (f := f) (q := q) (T := tb a) (w := w) rfl) x23 t24 hd25) ⟨rfl, yk_X10_isThrown__⟩ wm_6_15 wm_6_17 wp_33 wm_1_6 wm_6_18 ⟨Nat.le_of_ble_eq_true rfl, Nat.le_of_ble_eq_true rfl⟩ ⟨Nat.le_of_ble_eq_true rfl, Nat.le_of_ble_eq_true rfl⟩ (mw0x (a := a) (r := r) (f := f) (q := q) (T := tb a) (w := w) rfl) rfl rfl rfl hl.1 rfl (Nat.le_of_ble_eq_true rfl) dX10_at_24 (fun o w' H locs hp hB => ?_)
      obtain ⟨rfl, hf26, hw9⟩ := hp
      replace hB : Bd κ A s (mw κ a r f (va_up q 3 t24) (tb a) w) H locs := by exact Bd_eq (mwQ3x rfl _) (by rw [hw9] at hB; exact hB)
      obtain rfl : x23 = 0 := hf26.trans (by decide)
      refine W.eq (g2 := F0 m 27 ls [.int 0]) rfl ?_
      refine lv_if_eq (tgt := 34) hx hb dX10_at_27 (by decide) (fun _ => ?_) (fun c27 => False.elim (by revert c27; decide))
      refine lv_aload_n hx hb dX10_at_34 rfl (lv_at hl 0 rfl) ?_
      refine gf (k0 := 0) hX hB (mw0x (a := a) (r := r) (f := f) (q := (va_up q 3 t24)) (T := tb a) (w := w) rfl) rfl in10 0 (by decide) wm_5_162 rfl rfl dX10_at_35 ?_
      refine lv_iload_n hx hb dX10_at_38 rfl (lv_at hl 1 rfl) ?_
      refine aaldM (k0 := 1) hX hB (mw1 (a := a) (r := r) (f := f) (q := (va_up q 3 t24)) (T := tb a) (w := w)) (vp_in_mk (by assumption) (by assumption)) rfl dX10_at_39 ?_
      have hb28 := mok_r hm y.toNatClampNeg (by omega)
      refine lv_iload_n hx hb dX10_at_40 rfl (lv_at hl 2 rfl) ?_
      refine lv_iload_n hx hb dX10_at_41 rfl (lv_at hl 3 rfl) ?_
      refine call_V (n := 2) (k0 := (2 + 2 * y.toNatClampNeg)) (As := [.int z, .int u]) (rest := []) hX hB (k_X7_at κ l (mw κ a r f (va_up q 3 t24) (tb a) w) (2 + 2 * y.toNatClampNeg) (3 + 2 * y.toNatClampNeg) (a (2 + 2 * y.toNatClampNeg)) (a (3 + 2 * y.toNatClampNeg)) (r (2 * y.toNatClampNeg)) (r (2 * y.toNatClampNeg + 1)) (f y.toNatClampNeg) z ((z).toNatClampNeg) u ((u).toNatClampNeg) (mwG (i := y.toNatClampNeg) (a := a) (r := r) (f := f) (q := (va_up q 3 t24)) (T := tb a) (w := w) (by omega)) (mwA (i := y.toNatClampNeg) (a := a) (r := r) (f := f) (q := (va_up q 3 t24)) (T := tb a) (w := w) (by omega)) (mok_shp (i := y.toNatClampNeg) hm (by omega)) (nI_rep (by assumption)) (nI_rep (by assumption)) (by omega)) ⟨rfl, yk_X7_at⟩ wm_5_237 wm_5_238 wm_5_239 wm_1_7 wm_6_0 ⟨Nat.le_of_ble_eq_true rfl, Nat.le_of_ble_eq_true rfl⟩ ⟨Nat.le_of_ble_eq_true rfl, Nat.le_of_ble_eq_true rfl⟩ (mwG (i := y.toNatClampNeg) (a := a) (r := r) (f := f) (q := (va_up q 3 t24)) (T := tb a) (w := w) (by omega)) rfl rfl rfl hl.1 rfl (Nat.le_of_ble_eq_true rfl) dX10_at_42 (fun o w' H locs hp hB => ?_)
      obtain ⟨rfl, hw9⟩ := hp
      replace hB : Bd κ A s (mw κ a r f (va_up q 3 t24) (tb a) w) H locs := by rw [hw9] at hB; exact hB
      refine W.eq (g2 := F0 m 45 ls [.long ((f y.toNatClampNeg) (((z).toNatClampNeg) * 5 + ((u).toNatClampNeg)))]) rfl ?_
      refine lv_l2i hx hb dX10_at_45 rfl ?_
      rw [← hQ]
      exact end_i hX hB hA3 rfl rfl (by obtain ⟨rfl, rfl⟩ := pr2 hR; exact ⟨rfl, ⟨rfl, rfl, rfl⟩, rfl⟩) (Nat.le_of_ble_eq_true rfl) (Nat.le_of_ble_eq_true rfl) dX10_at_46
noncomputable def D_X10_isSame (r : Nat → Nat) (f : Nat → Nat → Int64) (q : Nat → Int32) (y : Int32) (z : Int32) : Int32 × (Nat → Int32) := bnd1 (D_X10_isTable y) (fun (z1 : Int32) => (if z1 = 0 then bnd2 (D_X10_isThrown__ (q 0) (q 1) (q 2) (q 3) 1) (fun (x6 : Int32) (t7 : Int32) => (0, va_up q 3 t7)) else bnd1 (D_X10_isTable z) (fun (z12 : Int32) => (if z12 = 0 then bnd2 (D_X10_isThrown__ (q 0) (q 1) (q 2) (q 3) 1) (fun (x17 : Int32) (t18 : Int32) => (0, va_up q 3 t18)) else bnd2 (D_X10_isThrown__ (q 0) (q 1) (q 2) (q 3) 0) (fun (x23 : Int32) (t24 : Int32) => bnd1 (D_X7_isSame (r (2 * y.toNatClampNeg)) (r (2 * y.toNatClampNeg + 1)) (f y.toNatClampNeg) (r (2 * z.toNatClampNeg)) (r (2 * z.toNatClampNeg + 1)) (f z.toNatClampNeg)) (fun (x30 : Int32) => (if x30 = 0 then (0, va_up q 3 t24) else (1, va_up q 3 t24))))))))
theorem D_X10_isSame_s {r : Nat → Nat} {f : Nat → Nat → Int64} {q : Nat → Int32} {y : Int32} {z : Int32} : D_X10_isSame r f q y z = bnd1 (D_X10_isTable y) (fun (z1 : Int32) => (if z1 = 0 then bnd2 (D_X10_isThrown__ (q 0) (q 1) (q 2) (q 3) 1) (fun (x6 : Int32) (t7 : Int32) => (0, va_up q 3 t7)) else bnd1 (D_X10_isTable z) (fun (z12 : Int32) => (if z12 = 0 then bnd2 (D_X10_isThrown__ (q 0) (q 1) (q 2) (q 3) 1) (fun (x17 : Int32) (t18 : Int32) => (0, va_up q 3 t18)) else bnd2 (D_X10_isThrown__ (q 0) (q 1) (q 2) (q 3) 0) (fun (x23 : Int32) (t24 : Int32) => bnd1 (D_X7_isSame (r (2 * y.toNatClampNeg)) (r (2 * y.toNatClampNeg + 1)) (f y.toNatClampNeg) (r (2 * z.toNatClampNeg)) (r (2 * z.toNatClampNeg + 1)) (f z.toNatClampNeg)) (fun (x30 : Int32) => (if x30 = 0 then (0, va_up q 3 t24) else (1, va_up q 3 t24)))))))) := rfl
set_option maxHeartbeats 4000000 in
set_option maxRecDepth 100000 in
theorem k_X10_isSame (κ : Kt) (l : Launch) (w : va_W) (a r : Nat → Nat) (f : Nat → Nat → Int64) (q : Nat → Int32) (y : Int32) (z : Int32) (hm : mok r f) (o_x : Int32) (o_q' : Nat → Int32) (hR : D_X10_isSame r f q y z = (o_x, o_q')) : CM κ l yX10_isSame cX10_isSame 3 (some .boolean) 2 44 0 0 [.ref (a 0), .int y, .int z] (mw κ a r f q (tb a) w) (fun o w' => o = some (.int o_x) ∧ (o_x = 0 ∨ o_x = 1) ∧ (o_q' 2 = q 2 ∧ o_q' 0 = q 0 ∧ o_q' 1 = q 1) ∧ w' = mw κ a r f o_q' (tb a) w) := by
  refine CM_begin (plainFor_of_name pn_RX10) (Nat.le_of_ble_eq_true rfl) ?_
  intro p e s m args below meth c A Q hX hnm hA3 hQ hB ls hl
  have hx := hX.1.1
  have hb := hX.1.2.1
  have hl : lv_has ls 3 [(0, .ref (a 0)), (1, .int y), (2, .int z)] := hl
  replace hR := (D_X10_isSame_s).symm.trans hR
  refine lv_aload_n hx hb dX10_isSame_0 rfl (lv_at hl 0 rfl) ?_
  refine lv_iload_n hx hb dX10_isSame_1 rfl (lv_at hl 1 rfl) ?_
  obtain ⟨z1, hd2⟩ := ex1 (D_X10_isTable y)
  replace hR := bnd1_use hd2 hR
  refine call_S (n := 1) (As := [.int y]) (rest := [.ref (a 0)]) hX hB (k_X10_isTable κ l (mw κ a r f q (tb a) w) y z1 hd2) yk_X10_isTable wm_5_186 wm_5_187 wm_1_6 wm_5_188 ⟨Nat.le_of_ble_eq_true rfl, Nat.le_of_ble_eq_true rfl⟩ ⟨Nat.le_of_ble_eq_true rfl, Nat.le_of_ble_eq_true rfl⟩ rfl hl.1 rfl (Nat.le_of_ble_eq_true rfl) dX10_isSame_2 (fun o w' H locs hp hB => ?_)
  obtain ⟨rfl, hf3, hw9⟩ := hp
  replace hB : Bd κ A s (mw κ a r f q (tb a) w) H locs := by rw [hw9] at hB; exact hB
  rcases hf3 with rfl | ⟨rfl, hz4a, hz4b⟩
  · replace hR := ifp rfl hR
    refine W.eq (g2 := F0 m 5 ls [.int 0, .ref (a 0)]) rfl ?_
    refine lv_if_eq (tgt := 15) hx hb dX10_isSame_5 (by decide) (fun _ => ?_) (fun c5 => False.elim (by revert c5; decide))
    refine lv_iconst (v := 1) hx hb dX10_isSame_15 (by decide) ?_
    refine lv_goto (tgt := 20) hx hb dX10_isSame_16 (by decide) ?_
    obtain ⟨x6, t7, hd8⟩ := ex2 (D_X10_isThrown__ (q 0) (q 1) (q 2) (q 3) 1)
    replace hR := bnd2_use hd8 hR
    refine call_V (n := 1) (k0 := 0) (As := [.int 1]) (rest := []) hX hB (k_X10_isThrown__ κ l (mw κ a r f q (tb a) w) 0 (a 0) (a 1) (q 0) (q 1) (q 2) (q 3) 1 (mw0x (a := a) (r := r) (f := f) (q := q) (T := tb a) (w := w) rfl) x6 t7 hd8) ⟨rfl, yk_X10_isThrown__⟩ wm_6_15 wm_6_17 wp_33 wm_1_6 wm_6_18 ⟨Nat.le_of_ble_eq_true rfl, Nat.le_of_ble_eq_true rfl⟩ ⟨Nat.le_of_ble_eq_true rfl, Nat.le_of_ble_eq_true rfl⟩ (mw0x (a := a) (r := r) (f := f) (q := q) (T := tb a) (w := w) rfl) rfl rfl rfl hl.1 rfl (Nat.le_of_ble_eq_true rfl) dX10_isSame_20 (fun o w' H locs hp hB => ?_)
    obtain ⟨rfl, hf9, hw9⟩ := hp
    replace hB : Bd κ A s (mw κ a r f (va_up q 3 t7) (tb a) w) H locs := by exact Bd_eq (mwQ3x rfl _) (by rw [hw9] at hB; exact hB)
    obtain rfl : x6 = 1 := hf9.trans (by decide)
    refine W.eq (g2 := F0 m 23 ls [.int 1]) rfl ?_
    refine lv_if_ne (tgt := 48) hx hb dX10_isSame_23 (by decide) (fun _ => ?_) (fun c10 => False.elim (by revert c10; decide))
    refine lv_iconst (v := 0) hx hb dX10_isSame_48 (by decide) ?_
    rw [← hQ]
    exact end_i hX hB hA3 rfl rfl (by obtain ⟨rfl, rfl⟩ := pr2 hR; exact ⟨rfl, (Or.inl rfl), ⟨rfl, rfl, rfl⟩, rfl⟩) (Nat.le_of_ble_eq_true rfl) (Nat.le_of_ble_eq_true rfl) dX10_isSame_49
  · replace hR := ifn (by decide) hR
    refine W.eq (g2 := F0 m 5 ls [.int 1, .ref (a 0)]) rfl ?_
    refine lv_if_eq (tgt := 15) hx hb dX10_isSame_5 (by decide) (fun c11 => False.elim (by revert c11; decide)) (fun _ => ?_)
    refine lv_iload_n hx hb dX10_isSame_8 rfl (lv_at hl 2 rfl) ?_
    obtain ⟨z12, hd13⟩ := ex1 (D_X10_isTable z)
    replace hR := bnd1_use hd13 hR
    refine call_S (n := 1) (As := [.int z]) (rest := [.ref (a 0)]) hX hB (k_X10_isTable κ l (mw κ a r f q (tb a) w) z z12 hd13) yk_X10_isTable wm_5_186 wm_5_187 wm_1_6 wm_5_188 ⟨Nat.le_of_ble_eq_true rfl, Nat.le_of_ble_eq_true rfl⟩ ⟨Nat.le_of_ble_eq_true rfl, Nat.le_of_ble_eq_true rfl⟩ rfl hl.1 rfl (Nat.le_of_ble_eq_true rfl) dX10_isSame_9 (fun o w' H locs hp hB => ?_)
    obtain ⟨rfl, hf14, hw9⟩ := hp
    replace hB : Bd κ A s (mw κ a r f q (tb a) w) H locs := by rw [hw9] at hB; exact hB
    rcases hf14 with rfl | ⟨rfl, hz15a, hz15b⟩
    · replace hR := ifp rfl hR
      refine W.eq (g2 := F0 m 12 ls [.int 0, .ref (a 0)]) rfl ?_
      refine lv_if_ne (tgt := 19) hx hb dX10_isSame_12 (by decide) (fun c16 => False.elim (by revert c16; decide)) (fun _ => ?_)
      refine lv_iconst (v := 1) hx hb dX10_isSame_15 (by decide) ?_
      refine lv_goto (tgt := 20) hx hb dX10_isSame_16 (by decide) ?_
      obtain ⟨x17, t18, hd19⟩ := ex2 (D_X10_isThrown__ (q 0) (q 1) (q 2) (q 3) 1)
      replace hR := bnd2_use hd19 hR
      refine call_V (n := 1) (k0 := 0) (As := [.int 1]) (rest := []) hX hB (k_X10_isThrown__ κ l (mw κ a r f q (tb a) w) 0 (a 0) (a 1) (q 0) (q 1) (q 2) (q 3) 1 (mw0x (a := a) (r := r) (f := f) (q := q) (T := tb a) (w := w) rfl) x17 t18 hd19) ⟨rfl, yk_X10_isThrown__⟩ wm_6_15 wm_6_17 wp_33 wm_1_6 wm_6_18 ⟨Nat.le_of_ble_eq_true rfl, Nat.le_of_ble_eq_true rfl⟩ ⟨Nat.le_of_ble_eq_true rfl, Nat.le_of_ble_eq_true rfl⟩ (mw0x (a := a) (r := r) (f := f) (q := q) (T := tb a) (w := w) rfl) rfl rfl rfl hl.1 rfl (Nat.le_of_ble_eq_true rfl) dX10_isSame_20 (fun o w' H locs hp hB => ?_)
      obtain ⟨rfl, hf20, hw9⟩ := hp
      replace hB : Bd κ A s (mw κ a r f (va_up q 3 t18) (tb a) w) H locs := by exact Bd_eq (mwQ3x rfl _) (by rw [hw9] at hB; exact hB)
      obtain rfl : x17 = 1 := hf20.trans (by decide)
      refine W.eq (g2 := F0 m 23 ls [.int 1]) rfl ?_
      refine lv_if_ne (tgt := 48) hx hb dX10_isSame_23 (by decide) (fun _ => ?_) (fun c21 => False.elim (by revert c21; decide))
      refine lv_iconst (v := 0) hx hb dX10_isSame_48 (by decide) ?_
      rw [← hQ]
      exact end_i hX hB hA3 rfl rfl (by obtain ⟨rfl, rfl⟩ := pr2 hR; exact ⟨rfl, (Or.inl rfl), ⟨rfl, rfl, rfl⟩, rfl⟩) (Nat.le_of_ble_eq_true rfl) (Nat.le_of_ble_eq_true rfl) dX10_isSame_49
    · replace hR := ifn (by decide) hR
      refine W.eq (g2 := F0 m 12 ls [.int 1, .ref (a 0)]) rfl ?_
      refine lv_if_ne (tgt := 19) hx hb dX10_isSame_12 (by decide) (fun _ => ?_) (fun c22 => False.elim (by revert c22; decide))
      refine lv_iconst (v := 0) hx hb dX10_isSame_19 (by decide) ?_
      obtain ⟨x23, t24, hd25⟩ := ex2 (D_X10_isThrown__ (q 0) (q 1) (q 2) (q 3) 0)
      replace hR := bnd2_use hd25 hR
      refine call_V (n := 1) (k0 := 0) (As := [.int 0]) (rest := []) hX hB (k_X10_isThrown__ κ l (mw κ a r f q (tb a) w) 0 (a 0) (a 1) (q 0) (q 1) (q 2) (q 3) 0 (mw0x (a := a) (r := r) (f := f) (q := q) (T := tb a) (w := w) rfl) x23 t24 hd25) ⟨rfl, yk_X10_isThrown__⟩ wm_6_15 wm_6_17 wp_33 wm_1_6 wm_6_18 ⟨Nat.le_of_ble_eq_true rfl, Nat.le_of_ble_eq_true rfl⟩ ⟨Nat.le_of_ble_eq_true rfl, Nat.le_of_ble_eq_true rfl⟩ (mw0x (a := a) (r := r) (f := f) (q := q) (T := tb a) (w := w) rfl) rfl rfl rfl hl.1 rfl (Nat.le_of_ble_eq_true rfl) dX10_isSame_20 (fun o w' H locs hp hB => ?_)
      obtain ⟨rfl, hf26, hw9⟩ := hp
      replace hB : Bd κ A s (mw κ a r f (va_up q 3 t24) (tb a) w) H locs := by exact Bd_eq (mwQ3x rfl _) (by rw [hw9] at hB; exact hB)
      obtain rfl : x23 = 0 := hf26.trans (by decide)
      refine W.eq (g2 := F0 m 23 ls [.int 0]) rfl ?_
      refine lv_if_ne (tgt := 48) hx hb dX10_isSame_23 (by decide) (fun c27 => False.elim (by revert c27; decide)) (fun _ => ?_)
      refine lv_aload_n hx hb dX10_isSame_26 rfl (lv_at hl 0 rfl) ?_
      refine gf (k0 := 0) hX hB (mw0x (a := a) (r := r) (f := f) (q := (va_up q 3 t24)) (T := tb a) (w := w) rfl) rfl in10 0 (by decide) wm_5_162 rfl rfl dX10_isSame_27 ?_
      refine lv_iload_n hx hb dX10_isSame_30 rfl (lv_at hl 1 rfl) ?_
      refine aaldM (k0 := 1) hX hB (mw1 (a := a) (r := r) (f := f) (q := (va_up q 3 t24)) (T := tb a) (w := w)) (vp_in_mk (by assumption) (by assumption)) rfl dX10_isSame_31 ?_
      have hb28 := mok_r hm y.toNatClampNeg (by omega)
      refine lv_aload_n hx hb dX10_isSame_32 rfl (lv_at hl 0 rfl) ?_
      refine gf (k0 := 0) hX hB (mw0x (a := a) (r := r) (f := f) (q := (va_up q 3 t24)) (T := tb a) (w := w) rfl) rfl in10 0 (by decide) wm_5_162 rfl rfl dX10_isSame_33 ?_
      refine lv_iload_n hx hb dX10_isSame_36 rfl (lv_at hl 2 rfl) ?_
      refine aaldM (k0 := 1) hX hB (mw1 (a := a) (r := r) (f := f) (q := (va_up q 3 t24)) (T := tb a) (w := w)) (vp_in_mk (by assumption) (by assumption)) rfl dX10_isSame_37 ?_
      have hb29 := mok_r hm z.toNatClampNeg (by omega)
      obtain ⟨x30, hd31⟩ := ex1 (D_X7_isSame (r (2 * y.toNatClampNeg)) (r (2 * y.toNatClampNeg + 1)) (f y.toNatClampNeg) (r (2 * z.toNatClampNeg)) (r (2 * z.toNatClampNeg + 1)) (f z.toNatClampNeg))
      replace hR := bnd1_use hd31 hR
      refine call_V (n := 1) (k0 := (2 + 2 * y.toNatClampNeg)) (As := [.ref (a (2 + 2 * z.toNatClampNeg))]) (rest := []) hX hB (k_X7_isSame κ l (mw κ a r f (va_up q 3 t24) (tb a) w) (2 + 2 * y.toNatClampNeg) (3 + 2 * y.toNatClampNeg) (a (2 + 2 * y.toNatClampNeg)) (a (3 + 2 * y.toNatClampNeg)) (r (2 * y.toNatClampNeg)) (r (2 * y.toNatClampNeg + 1)) (f y.toNatClampNeg) (2 + 2 * z.toNatClampNeg) (3 + 2 * z.toNatClampNeg) (a (2 + 2 * z.toNatClampNeg)) (a (3 + 2 * z.toNatClampNeg)) (r (2 * z.toNatClampNeg)) (r (2 * z.toNatClampNeg + 1)) (f z.toNatClampNeg) (mwG (i := y.toNatClampNeg) (a := a) (r := r) (f := f) (q := (va_up q 3 t24)) (T := tb a) (w := w) (by omega)) (mwA (i := y.toNatClampNeg) (a := a) (r := r) (f := f) (q := (va_up q 3 t24)) (T := tb a) (w := w) (by omega)) (mok_shp (i := y.toNatClampNeg) hm (by omega)) (mwG (i := z.toNatClampNeg) (a := a) (r := r) (f := f) (q := (va_up q 3 t24)) (T := tb a) (w := w) (by omega)) (mwA (i := z.toNatClampNeg) (a := a) (r := r) (f := f) (q := (va_up q 3 t24)) (T := tb a) (w := w) (by omega)) (mok_shp (i := z.toNatClampNeg) hm (by omega)) x30 hd31) ⟨rfl, yk_X7_isSame⟩ wm_6_19 wm_6_20 wm_6_21 wm_1_7 wm_6_22 ⟨Nat.le_of_ble_eq_true rfl, Nat.le_of_ble_eq_true rfl⟩ ⟨Nat.le_of_ble_eq_true rfl, Nat.le_of_ble_eq_true rfl⟩ (mwG (i := y.toNatClampNeg) (a := a) (r := r) (f := f) (q := (va_up q 3 t24)) (T := tb a) (w := w) (by omega)) rfl rfl rfl hl.1 rfl (Nat.le_of_ble_eq_true rfl) dX10_isSame_38 (fun o w' H locs hp hB => ?_)
      obtain ⟨rfl, hf32, hw9⟩ := hp
      replace hB : Bd κ A s (mw κ a r f (va_up q 3 t24) (tb a) w) H locs := by rw [hw9] at hB; exact hB
      rcases hf32 with rfl | rfl
      · replace hR := ifp rfl hR
        refine W.eq (g2 := F0 m 41 ls [.int 0]) rfl ?_
        refine lv_if_eq (tgt := 48) hx hb dX10_isSame_41 (by decide) (fun _ => ?_) (fun c33 => False.elim (by revert c33; decide))
        refine lv_iconst (v := 0) hx hb dX10_isSame_48 (by decide) ?_
        rw [← hQ]
        exact end_i hX hB hA3 rfl rfl (by obtain ⟨rfl, rfl⟩ := pr2 hR; exact ⟨rfl, (Or.inl rfl), ⟨rfl, rfl, rfl⟩, rfl⟩) (Nat.le_of_ble_eq_true rfl) (Nat.le_of_ble_eq_true rfl) dX10_isSame_49
      · replace hR := ifn (by decide) hR
        refine W.eq (g2 := F0 m 41 ls [.int 1]) rfl ?_
        refine lv_if_eq (tgt := 48) hx hb dX10_isSame_41 (by decide) (fun c34 => False.elim (by revert c34; decide)) (fun _ => ?_)
        refine lv_iconst (v := 1) hx hb dX10_isSame_44 (by decide) ?_
        refine lv_goto (tgt := 49) hx hb dX10_isSame_45 (by decide) ?_
        rw [← hQ]
        exact end_i hX hB hA3 rfl rfl (by obtain ⟨rfl, rfl⟩ := pr2 hR; exact ⟨rfl, (Or.inr rfl), ⟨rfl, rfl, rfl⟩, rfl⟩) (Nat.le_of_ble_eq_true rfl) (Nat.le_of_ble_eq_true rfl) dX10_isSame_49
noncomputable def D_X10_determinant_146 (r : Nat → Nat) (q : Nat → Int32) (y : Int32) (t32 : Int32) (F71 : Nat → Int64) (t84 : Int32) (nn : Nat) : Nat → Int64 → Int32 × (Nat → Int32) := @Nat.rec (fun _ => Nat → Int64 → Int32 × (Nat → Int32)) (fun _ _ => default) (fun _ lb146 (y7_146 : Nat) (y5_146 : Int64) => (if (r (2 * y.toNatClampNeg)) ≤ y7_146 then ((y5_146).toInt32, va_up (va_up q 3 t32) 3 t84) else (lb146 (y7_146 + 1) (y5_146 * (F71 (y7_146 * 5 + y7_146)))))) nn
theorem D_X10_determinant_146_s {r : Nat → Nat} {q : Nat → Int32} {y : Int32} {t32 : Int32} {F71 : Nat → Int64} {t84 : Int32} {nn : Nat} {y7_146 : Nat} {y5_146 : Int64} : D_X10_determinant_146 r q y t32 F71 t84 (nn + 1) y7_146 y5_146 = (if (r (2 * y.toNatClampNeg)) ≤ y7_146 then ((y5_146).toInt32, va_up (va_up q 3 t32) 3 t84) else ((D_X10_determinant_146 r q y t32 F71 t84 nn) (y7_146 + 1) (y5_146 * (F71 (y7_146 * 5 + y7_146))))) := rfl
noncomputable def D_X10_determinant (r : Nat → Nat) (f : Nat → Nat → Int64) (q : Nat → Int32) (y : Int32) (z : Int32) : Int32 × (Nat → Int32) := bnd1 (D_X10_isTable y) (fun (z1 : Int32) => (if z1 = 0 then (if z < 0 then bnd2 (D_X10_isThrown_ (q 0) (q 1) (q 2) (q 3) 1 1) (fun (x7 : Int32) (t8 : Int32) => (0, va_up q 3 t8)) else (if z ≤ 2 then bnd2 (D_X10_isThrown_ (q 0) (q 1) (q 2) (q 3) 1 0) (fun (x13 : Int32) (t14 : Int32) => (0, va_up q 3 t14)) else bnd2 (D_X10_isThrown_ (q 0) (q 1) (q 2) (q 3) 1 1) (fun (x18 : Int32) (t19 : Int32) => (0, va_up q 3 t19)))) else (if z < 0 then bnd2 (D_X10_isThrown_ (q 0) (q 1) (q 2) (q 3) 0 1) (fun (x25 : Int32) (t26 : Int32) => (0, va_up q 3 t26)) else (if z ≤ 2 then bnd2 (D_X10_isThrown_ (q 0) (q 1) (q 2) (q 3) 0 0) (fun (x31 : Int32) (t32 : Int32) => (if z = 2 then (if (r (2 * y.toNatClampNeg)) = (r (2 * y.toNatClampNeg + 1)) then bnd4 (D_X8_init (r (2 * y.toNatClampNeg)) (r (2 * y.toNatClampNeg + 1)) (f y.toNatClampNeg)) (fun (F70 : Nat → Int64) (F71 : Nat → Int64) (S72 : Int32) (G73 : Int32) => (if (r (2 * y.toNatClampNeg)) = (r (2 * y.toNatClampNeg + 1)) then (if G73 = 0 then bnd2 (D_X10_isThrown ((va_up q 3 t32) 0) ((va_up q 3 t32) 1) ((va_up q 3 t32) 2) ((va_up q 3 t32) 3) 0 0 0) (fun (x83 : Int32) (t84 : Int32) => (if z = 0 then (((mnv (f y.toNatClampNeg) (r (2 * y.toNatClampNeg + 1)) (r (2 * y.toNatClampNeg)) (2 ^ (r (2 * y.toNatClampNeg)) - 1) (2 ^ (r (2 * y.toNatClampNeg + 1)) - 1))).toInt32, va_up (va_up q 3 t32) 3 t84) else (if z = 1 then (((bsv (r (2 * y.toNatClampNeg)) (r (2 * y.toNatClampNeg + 1)) (f y.toNatClampNeg) 4 0 0)).toInt32, va_up (va_up q 3 t32) 3 t84) else (D_X10_determinant_146 r q y t32 F71 t84 ((r (2 * y.toNatClampNeg)) + 1 - 0 + 1) 0 ((S72).toInt64))))) else bnd2 (D_X10_isThrown ((va_up q 3 t32) 0) ((va_up q 3 t32) 1) ((va_up q 3 t32) 2) ((va_up q 3 t32) 3) 0 0 1) (fun (x93 : Int32) (t94 : Int32) => (0, va_up (va_up q 3 t32) 3 t94))) else bnd2 (D_X10_isThrown ((va_up q 3 t32) 0) ((va_up q 3 t32) 1) ((va_up q 3 t32) 2) ((va_up q 3 t32) 3) 0 0 1) (fun (x77 : Int32) (t78 : Int32) => (0, va_up (va_up q 3 t32) 3 t78)))) else (if (r (2 * y.toNatClampNeg)) = (r (2 * y.toNatClampNeg + 1)) then bnd2 (D_X10_isThrown ((va_up q 3 t32) 0) ((va_up q 3 t32) 1) ((va_up q 3 t32) 2) ((va_up q 3 t32) 3) 0 0 0) (fun (x58 : Int32) (t59 : Int32) => (if z = 0 then (((mnv (f y.toNatClampNeg) (r (2 * y.toNatClampNeg + 1)) (r (2 * y.toNatClampNeg)) (2 ^ (r (2 * y.toNatClampNeg)) - 1) (2 ^ (r (2 * y.toNatClampNeg + 1)) - 1))).toInt32, va_up (va_up q 3 t32) 3 t59) else (if z = 1 then (((bsv (r (2 * y.toNatClampNeg)) (r (2 * y.toNatClampNeg + 1)) (f y.toNatClampNeg) 4 0 0)).toInt32, va_up (va_up q 3 t32) 3 t59) else default))) else bnd2 (D_X10_isThrown ((va_up q 3 t32) 0) ((va_up q 3 t32) 1) ((va_up q 3 t32) 2) ((va_up q 3 t32) 3) 0 0 1) (fun (x53 : Int32) (t54 : Int32) => (0, va_up (va_up q 3 t32) 3 t54)))) else (if (r (2 * y.toNatClampNeg)) = (r (2 * y.toNatClampNeg + 1)) then bnd2 (D_X10_isThrown ((va_up q 3 t32) 0) ((va_up q 3 t32) 1) ((va_up q 3 t32) 2) ((va_up q 3 t32) 3) 0 0 0) (fun (x44 : Int32) (t45 : Int32) => (if z = 0 then (((mnv (f y.toNatClampNeg) (r (2 * y.toNatClampNeg + 1)) (r (2 * y.toNatClampNeg)) (2 ^ (r (2 * y.toNatClampNeg)) - 1) (2 ^ (r (2 * y.toNatClampNeg + 1)) - 1))).toInt32, va_up (va_up q 3 t32) 3 t45) else (if z = 1 then (((bsv (r (2 * y.toNatClampNeg)) (r (2 * y.toNatClampNeg + 1)) (f y.toNatClampNeg) 4 0 0)).toInt32, va_up (va_up q 3 t32) 3 t45) else default))) else bnd2 (D_X10_isThrown ((va_up q 3 t32) 0) ((va_up q 3 t32) 1) ((va_up q 3 t32) 2) ((va_up q 3 t32) 3) 0 0 1) (fun (x39 : Int32) (t40 : Int32) => (0, va_up (va_up q 3 t32) 3 t40))))) else bnd2 (D_X10_isThrown_ (q 0) (q 1) (q 2) (q 3) 0 1) (fun (x98 : Int32) (t99 : Int32) => (0, va_up q 3 t99))))))
theorem D_X10_determinant_s {r : Nat → Nat} {f : Nat → Nat → Int64} {q : Nat → Int32} {y : Int32} {z : Int32} : D_X10_determinant r f q y z = bnd1 (D_X10_isTable y) (fun (z1 : Int32) => (if z1 = 0 then (if z < 0 then bnd2 (D_X10_isThrown_ (q 0) (q 1) (q 2) (q 3) 1 1) (fun (x7 : Int32) (t8 : Int32) => (0, va_up q 3 t8)) else (if z ≤ 2 then bnd2 (D_X10_isThrown_ (q 0) (q 1) (q 2) (q 3) 1 0) (fun (x13 : Int32) (t14 : Int32) => (0, va_up q 3 t14)) else bnd2 (D_X10_isThrown_ (q 0) (q 1) (q 2) (q 3) 1 1) (fun (x18 : Int32) (t19 : Int32) => (0, va_up q 3 t19)))) else (if z < 0 then bnd2 (D_X10_isThrown_ (q 0) (q 1) (q 2) (q 3) 0 1) (fun (x25 : Int32) (t26 : Int32) => (0, va_up q 3 t26)) else (if z ≤ 2 then bnd2 (D_X10_isThrown_ (q 0) (q 1) (q 2) (q 3) 0 0) (fun (x31 : Int32) (t32 : Int32) => (if z = 2 then (if (r (2 * y.toNatClampNeg)) = (r (2 * y.toNatClampNeg + 1)) then bnd4 (D_X8_init (r (2 * y.toNatClampNeg)) (r (2 * y.toNatClampNeg + 1)) (f y.toNatClampNeg)) (fun (F70 : Nat → Int64) (F71 : Nat → Int64) (S72 : Int32) (G73 : Int32) => (if (r (2 * y.toNatClampNeg)) = (r (2 * y.toNatClampNeg + 1)) then (if G73 = 0 then bnd2 (D_X10_isThrown ((va_up q 3 t32) 0) ((va_up q 3 t32) 1) ((va_up q 3 t32) 2) ((va_up q 3 t32) 3) 0 0 0) (fun (x83 : Int32) (t84 : Int32) => (if z = 0 then (((mnv (f y.toNatClampNeg) (r (2 * y.toNatClampNeg + 1)) (r (2 * y.toNatClampNeg)) (2 ^ (r (2 * y.toNatClampNeg)) - 1) (2 ^ (r (2 * y.toNatClampNeg + 1)) - 1))).toInt32, va_up (va_up q 3 t32) 3 t84) else (if z = 1 then (((bsv (r (2 * y.toNatClampNeg)) (r (2 * y.toNatClampNeg + 1)) (f y.toNatClampNeg) 4 0 0)).toInt32, va_up (va_up q 3 t32) 3 t84) else (D_X10_determinant_146 r q y t32 F71 t84 ((r (2 * y.toNatClampNeg)) + 1 - 0 + 1) 0 ((S72).toInt64))))) else bnd2 (D_X10_isThrown ((va_up q 3 t32) 0) ((va_up q 3 t32) 1) ((va_up q 3 t32) 2) ((va_up q 3 t32) 3) 0 0 1) (fun (x93 : Int32) (t94 : Int32) => (0, va_up (va_up q 3 t32) 3 t94))) else bnd2 (D_X10_isThrown ((va_up q 3 t32) 0) ((va_up q 3 t32) 1) ((va_up q 3 t32) 2) ((va_up q 3 t32) 3) 0 0 1) (fun (x77 : Int32) (t78 : Int32) => (0, va_up (va_up q 3 t32) 3 t78)))) else (if (r (2 * y.toNatClampNeg)) = (r (2 * y.toNatClampNeg + 1)) then bnd2 (D_X10_isThrown ((va_up q 3 t32) 0) ((va_up q 3 t32) 1) ((va_up q 3 t32) 2) ((va_up q 3 t32) 3) 0 0 0) (fun (x58 : Int32) (t59 : Int32) => (if z = 0 then (((mnv (f y.toNatClampNeg) (r (2 * y.toNatClampNeg + 1)) (r (2 * y.toNatClampNeg)) (2 ^ (r (2 * y.toNatClampNeg)) - 1) (2 ^ (r (2 * y.toNatClampNeg + 1)) - 1))).toInt32, va_up (va_up q 3 t32) 3 t59) else (if z = 1 then (((bsv (r (2 * y.toNatClampNeg)) (r (2 * y.toNatClampNeg + 1)) (f y.toNatClampNeg) 4 0 0)).toInt32, va_up (va_up q 3 t32) 3 t59) else default))) else bnd2 (D_X10_isThrown ((va_up q 3 t32) 0) ((va_up q 3 t32) 1) ((va_up q 3 t32) 2) ((va_up q 3 t32) 3) 0 0 1) (fun (x53 : Int32) (t54 : Int32) => (0, va_up (va_up q 3 t32) 3 t54)))) else (if (r (2 * y.toNatClampNeg)) = (r (2 * y.toNatClampNeg + 1)) then bnd2 (D_X10_isThrown ((va_up q 3 t32) 0) ((va_up q 3 t32) 1) ((va_up q 3 t32) 2) ((va_up q 3 t32) 3) 0 0 0) (fun (x44 : Int32) (t45 : Int32) => (if z = 0 then (((mnv (f y.toNatClampNeg) (r (2 * y.toNatClampNeg + 1)) (r (2 * y.toNatClampNeg)) (2 ^ (r (2 * y.toNatClampNeg)) - 1) (2 ^ (r (2 * y.toNatClampNeg + 1)) - 1))).toInt32, va_up (va_up q 3 t32) 3 t45) else (if z = 1 then (((bsv (r (2 * y.toNatClampNeg)) (r (2 * y.toNatClampNeg + 1)) (f y.toNatClampNeg) 4 0 0)).toInt32, va_up (va_up q 3 t32) 3 t45) else default))) else bnd2 (D_X10_isThrown ((va_up q 3 t32) 0) ((va_up q 3 t32) 1) ((va_up q 3 t32) 2) ((va_up q 3 t32) 3) 0 0 1) (fun (x39 : Int32) (t40 : Int32) => (0, va_up (va_up q 3 t32) 3 t40))))) else bnd2 (D_X10_isThrown_ (q 0) (q 1) (q 2) (q 3) 0 1) (fun (x98 : Int32) (t99 : Int32) => (0, va_up q 3 t99)))))) := rfl
set_option maxHeartbeats 4000000 in
set_option maxRecDepth 100000 in
theorem k_X10_determinant (κ : Kt) (l : Launch) (w : va_W) (a r : Nat → Nat) (f : Nat → Nat → Int64) (q : Nat → Int32) (y : Int32) (z : Int32) (hm : mok r f) (o_x : Int32) (o_q' : Nat → Int32) (hR : D_X10_determinant r f q y z = (o_x, o_q')) : CM κ l yX10_determinant cX10_determinant 8 (some .int) 7 188 5 50 [.ref (a 0), .int y, .int z] (mw κ a r f q (tb a) w) (fun o w' => o = some (.int o_x) ∧ (o_q' 2 = q 2 ∧ o_q' 0 = q 0 ∧ o_q' 1 = q 1) ∧ w' = mw κ a r f o_q' (tb a) w) := by
  refine CM_begin (plainFor_of_name pn_RX10) (Nat.le_of_ble_eq_true rfl) ?_
  intro p e s m args below meth c A Q hX hnm hA3 hQ hB ls hl
  have hx := hX.1.1
  have hb := hX.1.2.1
  have hl : lv_has ls 8 [(0, .ref (a 0)), (1, .int y), (2, .int z)] := hl
  replace hR := (D_X10_determinant_s).symm.trans hR
  refine lv_aload_n hx hb dX10_determinant_0 rfl (lv_at hl 0 rfl) ?_
  refine lv_iload_n hx hb dX10_determinant_1 rfl (lv_at hl 1 rfl) ?_
  obtain ⟨z1, hd2⟩ := ex1 (D_X10_isTable y)
  replace hR := bnd1_use hd2 hR
  refine call_S (n := 1) (As := [.int y]) (rest := [.ref (a 0)]) hX hB (k_X10_isTable κ l (mw κ a r f q (tb a) w) y z1 hd2) yk_X10_isTable wm_5_186 wm_5_187 wm_1_6 wm_5_188 ⟨Nat.le_of_ble_eq_true rfl, Nat.le_of_ble_eq_true rfl⟩ ⟨Nat.le_of_ble_eq_true rfl, Nat.le_of_ble_eq_true rfl⟩ rfl hl.1 rfl (Nat.le_of_ble_eq_true rfl) dX10_determinant_2 (fun o w' H locs hp hB => ?_)
  obtain ⟨rfl, hf3, hw9⟩ := hp
  replace hB : Bd κ A s (mw κ a r f q (tb a) w) H locs := by rw [hw9] at hB; exact hB
  rcases hf3 with rfl | ⟨rfl, hz4a, hz4b⟩
  · replace hR := ifp rfl hR
    refine W.eq (g2 := F0 m 5 ls [.int 0, .ref (a 0)]) rfl ?_
    refine lv_if_ne (tgt := 12) hx hb dX10_determinant_5 (by decide) (fun c5 => False.elim (by revert c5; decide)) (fun _ => ?_)
    refine lv_iconst (v := 1) hx hb dX10_determinant_8 (by decide) ?_
    refine lv_goto (tgt := 13) hx hb dX10_determinant_9 (by decide) ?_
    refine lv_iload_n hx hb dX10_determinant_13 rfl (lv_at hl 2 rfl) ?_
    refine lv_if_lt (tgt := 22) hx hb dX10_determinant_14 (by decide) (fun c6 => ?_) (fun c6 => ?_)
    · replace hR := ifp c6 hR
      refine lv_iconst (v := 1) hx hb dX10_determinant_22 (by decide) ?_
      refine lv_goto (tgt := 27) hx hb dX10_determinant_23 (by decide) ?_
      obtain ⟨x7, t8, hd9⟩ := ex2 (D_X10_isThrown_ (q 0) (q 1) (q 2) (q 3) 1 1)
      replace hR := bnd2_use hd9 hR
      refine call_V (n := 2) (k0 := 0) (As := [.int 1, .int 1]) (rest := []) hX hB (k_X10_isThrown_ κ l (mw κ a r f q (tb a) w) 0 (a 0) (a 1) (q 0) (q 1) (q 2) (q 3) 1 1 (mw0x (a := a) (r := r) (f := f) (q := q) (T := tb a) (w := w) rfl) x7 t8 hd9) ⟨rfl, yk_X10_isThrown_⟩ wm_5_192 wm_5_194 wp_27 wm_1_6 wm_5_195 ⟨Nat.le_of_ble_eq_true rfl, Nat.le_of_ble_eq_true rfl⟩ ⟨Nat.le_of_ble_eq_true rfl, Nat.le_of_ble_eq_true rfl⟩ (mw0x (a := a) (r := r) (f := f) (q := q) (T := tb a) (w := w) rfl) rfl rfl rfl hl.1 rfl (Nat.le_of_ble_eq_true rfl) dX10_determinant_27 (fun o w' H locs hp hB => ?_)
      obtain ⟨rfl, hf10, hw9⟩ := hp
      replace hB : Bd κ A s (mw κ a r f (va_up q 3 t8) (tb a) w) H locs := by exact Bd_eq (mwQ3x rfl _) (by rw [hw9] at hB; exact hB)
      obtain rfl : x7 = 1 := hf10.trans (by decide)
      refine W.eq (g2 := F0 m 30 ls [.int 1]) rfl ?_
      refine lv_if_eq (tgt := 35) hx hb dX10_determinant_30 (by decide) (fun c11 => False.elim (by revert c11; decide)) (fun _ => ?_)
      refine lv_iconst (v := 0) hx hb dX10_determinant_33 (by decide) ?_
      rw [← hQ]
      exact end_i hX hB hA3 rfl rfl (by obtain ⟨rfl, rfl⟩ := pr2 hR; exact ⟨rfl, ⟨rfl, rfl, rfl⟩, rfl⟩) (Nat.le_of_ble_eq_true rfl) (Nat.le_of_ble_eq_true rfl) dX10_determinant_34
    · replace hR := ifn c6 hR
      refine lv_iload_n hx hb dX10_determinant_17 rfl (lv_at hl 2 rfl) ?_
      refine lv_iconst (v := 2) hx hb dX10_determinant_18 (by decide) ?_
      refine lv_icmp_le (tgt := 26) hx hb dX10_determinant_19 (by decide) (fun c12 => ?_) (fun c12 => ?_)
      · replace hR := ifp c12 hR
        refine lv_iconst (v := 0) hx hb dX10_determinant_26 (by decide) ?_
        obtain ⟨x13, t14, hd15⟩ := ex2 (D_X10_isThrown_ (q 0) (q 1) (q 2) (q 3) 1 0)
        replace hR := bnd2_use hd15 hR
        refine call_V (n := 2) (k0 := 0) (As := [.int 1, .int 0]) (rest := []) hX hB (k_X10_isThrown_ κ l (mw κ a r f q (tb a) w) 0 (a 0) (a 1) (q 0) (q 1) (q 2) (q 3) 1 0 (mw0x (a := a) (r := r) (f := f) (q := q) (T := tb a) (w := w) rfl) x13 t14 hd15) ⟨rfl, yk_X10_isThrown_⟩ wm_5_192 wm_5_194 wp_27 wm_1_6 wm_5_195 ⟨Nat.le_of_ble_eq_true rfl, Nat.le_of_ble_eq_true rfl⟩ ⟨Nat.le_of_ble_eq_true rfl, Nat.le_of_ble_eq_true rfl⟩ (mw0x (a := a) (r := r) (f := f) (q := q) (T := tb a) (w := w) rfl) rfl rfl rfl hl.1 rfl (Nat.le_of_ble_eq_true rfl) dX10_determinant_27 (fun o w' H locs hp hB => ?_)
        obtain ⟨rfl, hf16, hw9⟩ := hp
        replace hB : Bd κ A s (mw κ a r f (va_up q 3 t14) (tb a) w) H locs := by exact Bd_eq (mwQ3x rfl _) (by rw [hw9] at hB; exact hB)
        obtain rfl : x13 = 1 := hf16.trans (by decide)
        refine W.eq (g2 := F0 m 30 ls [.int 1]) rfl ?_
        refine lv_if_eq (tgt := 35) hx hb dX10_determinant_30 (by decide) (fun c17 => False.elim (by revert c17; decide)) (fun _ => ?_)
        refine lv_iconst (v := 0) hx hb dX10_determinant_33 (by decide) ?_
        rw [← hQ]
        exact end_i hX hB hA3 rfl rfl (by obtain ⟨rfl, rfl⟩ := pr2 hR; exact ⟨rfl, ⟨rfl, rfl, rfl⟩, rfl⟩) (Nat.le_of_ble_eq_true rfl) (Nat.le_of_ble_eq_true rfl) dX10_determinant_34
      · replace hR := ifn c12 hR
        refine lv_iconst (v := 1) hx hb dX10_determinant_22 (by decide) ?_
        refine lv_goto (tgt := 27) hx hb dX10_determinant_23 (by decide) ?_
        obtain ⟨x18, t19, hd20⟩ := ex2 (D_X10_isThrown_ (q 0) (q 1) (q 2) (q 3) 1 1)
        replace hR := bnd2_use hd20 hR
        refine call_V (n := 2) (k0 := 0) (As := [.int 1, .int 1]) (rest := []) hX hB (k_X10_isThrown_ κ l (mw κ a r f q (tb a) w) 0 (a 0) (a 1) (q 0) (q 1) (q 2) (q 3) 1 1 (mw0x (a := a) (r := r) (f := f) (q := q) (T := tb a) (w := w) rfl) x18 t19 hd20) ⟨rfl, yk_X10_isThrown_⟩ wm_5_192 wm_5_194 wp_27 wm_1_6 wm_5_195 ⟨Nat.le_of_ble_eq_true rfl, Nat.le_of_ble_eq_true rfl⟩ ⟨Nat.le_of_ble_eq_true rfl, Nat.le_of_ble_eq_true rfl⟩ (mw0x (a := a) (r := r) (f := f) (q := q) (T := tb a) (w := w) rfl) rfl rfl rfl hl.1 rfl (Nat.le_of_ble_eq_true rfl) dX10_determinant_27 (fun o w' H locs hp hB => ?_)
        obtain ⟨rfl, hf21, hw9⟩ := hp
        replace hB : Bd κ A s (mw κ a r f (va_up q 3 t19) (tb a) w) H locs := by exact Bd_eq (mwQ3x rfl _) (by rw [hw9] at hB; exact hB)
        obtain rfl : x18 = 1 := hf21.trans (by decide)
        refine W.eq (g2 := F0 m 30 ls [.int 1]) rfl ?_
        refine lv_if_eq (tgt := 35) hx hb dX10_determinant_30 (by decide) (fun c22 => False.elim (by revert c22; decide)) (fun _ => ?_)
        refine lv_iconst (v := 0) hx hb dX10_determinant_33 (by decide) ?_
        rw [← hQ]
        exact end_i hX hB hA3 rfl rfl (by obtain ⟨rfl, rfl⟩ := pr2 hR; exact ⟨rfl, ⟨rfl, rfl, rfl⟩, rfl⟩) (Nat.le_of_ble_eq_true rfl) (Nat.le_of_ble_eq_true rfl) dX10_determinant_34
  · replace hR := ifn (by decide) hR
    refine W.eq (g2 := F0 m 5 ls [.int 1, .ref (a 0)]) rfl ?_
    refine lv_if_ne (tgt := 12) hx hb dX10_determinant_5 (by decide) (fun _ => ?_) (fun c23 => False.elim (by revert c23; decide))
    refine lv_iconst (v := 0) hx hb dX10_determinant_12 (by decide) ?_
    refine lv_iload_n hx hb dX10_determinant_13 rfl (lv_at hl 2 rfl) ?_
    refine lv_if_lt (tgt := 22) hx hb dX10_determinant_14 (by decide) (fun c24 => ?_) (fun c24 => ?_)
    · replace hR := ifp c24 hR
      refine lv_iconst (v := 1) hx hb dX10_determinant_22 (by decide) ?_
      refine lv_goto (tgt := 27) hx hb dX10_determinant_23 (by decide) ?_
      obtain ⟨x25, t26, hd27⟩ := ex2 (D_X10_isThrown_ (q 0) (q 1) (q 2) (q 3) 0 1)
      replace hR := bnd2_use hd27 hR
      refine call_V (n := 2) (k0 := 0) (As := [.int 0, .int 1]) (rest := []) hX hB (k_X10_isThrown_ κ l (mw κ a r f q (tb a) w) 0 (a 0) (a 1) (q 0) (q 1) (q 2) (q 3) 0 1 (mw0x (a := a) (r := r) (f := f) (q := q) (T := tb a) (w := w) rfl) x25 t26 hd27) ⟨rfl, yk_X10_isThrown_⟩ wm_5_192 wm_5_194 wp_27 wm_1_6 wm_5_195 ⟨Nat.le_of_ble_eq_true rfl, Nat.le_of_ble_eq_true rfl⟩ ⟨Nat.le_of_ble_eq_true rfl, Nat.le_of_ble_eq_true rfl⟩ (mw0x (a := a) (r := r) (f := f) (q := q) (T := tb a) (w := w) rfl) rfl rfl rfl hl.1 rfl (Nat.le_of_ble_eq_true rfl) dX10_determinant_27 (fun o w' H locs hp hB => ?_)
      obtain ⟨rfl, hf28, hw9⟩ := hp
      replace hB : Bd κ A s (mw κ a r f (va_up q 3 t26) (tb a) w) H locs := by exact Bd_eq (mwQ3x rfl _) (by rw [hw9] at hB; exact hB)
      obtain rfl : x25 = 1 := hf28.trans (by decide)
      refine W.eq (g2 := F0 m 30 ls [.int 1]) rfl ?_
      refine lv_if_eq (tgt := 35) hx hb dX10_determinant_30 (by decide) (fun c29 => False.elim (by revert c29; decide)) (fun _ => ?_)
      refine lv_iconst (v := 0) hx hb dX10_determinant_33 (by decide) ?_
      rw [← hQ]
      exact end_i hX hB hA3 rfl rfl (by obtain ⟨rfl, rfl⟩ := pr2 hR; exact ⟨rfl, ⟨rfl, rfl, rfl⟩, rfl⟩) (Nat.le_of_ble_eq_true rfl) (Nat.le_of_ble_eq_true rfl) dX10_determinant_34
    · replace hR := ifn c24 hR
      refine lv_iload_n hx hb dX10_determinant_17 rfl (lv_at hl 2 rfl) ?_
      refine lv_iconst (v := 2) hx hb dX10_determinant_18 (by decide) ?_
      refine lv_icmp_le (tgt := 26) hx hb dX10_determinant_19 (by decide) (fun c30 => ?_) (fun c30 => ?_)
      · replace hR := ifp c30 hR
        refine lv_iconst (v := 0) hx hb dX10_determinant_26 (by decide) ?_
        obtain ⟨x31, t32, hd33⟩ := ex2 (D_X10_isThrown_ (q 0) (q 1) (q 2) (q 3) 0 0)
        replace hR := bnd2_use hd33 hR
        refine call_V (n := 2) (k0 := 0) (As := [.int 0, .int 0]) (rest := []) hX hB (k_X10_isThrown_ κ l (mw κ a r f q (tb a) w) 0 (a 0) (a 1) (q 0) (q 1) (q 2) (q 3) 0 0 (mw0x (a := a) (r := r) (f := f) (q := q) (T := tb a) (w := w) rfl) x31 t32 hd33) ⟨rfl, yk_X10_isThrown_⟩ wm_5_192 wm_5_194 wp_27 wm_1_6 wm_5_195 ⟨Nat.le_of_ble_eq_true rfl, Nat.le_of_ble_eq_true rfl⟩ ⟨Nat.le_of_ble_eq_true rfl, Nat.le_of_ble_eq_true rfl⟩ (mw0x (a := a) (r := r) (f := f) (q := q) (T := tb a) (w := w) rfl) rfl rfl rfl hl.1 rfl (Nat.le_of_ble_eq_true rfl) dX10_determinant_27 (fun o w' H locs hp hB => ?_)
        obtain ⟨rfl, hf34, hw9⟩ := hp
        replace hB : Bd κ A s (mw κ a r f (va_up q 3 t32) (tb a) w) H locs := by exact Bd_eq (mwQ3x rfl _) (by rw [hw9] at hB; exact hB)
        obtain rfl : x31 = 0 := hf34.trans (by decide)
        refine W.eq (g2 := F0 m 30 ls [.int 0]) rfl ?_
        refine lv_if_eq (tgt := 35) hx hb dX10_determinant_30 (by decide) (fun _ => ?_) (fun c35 => False.elim (by revert c35; decide))
        refine lv_aload_n hx hb dX10_determinant_35 rfl (lv_at hl 0 rfl) ?_
        refine gf (k0 := 0) hX hB (mw0x (a := a) (r := r) (f := f) (q := (va_up q 3 t32)) (T := tb a) (w := w) rfl) rfl in10 0 (by decide) wm_5_162 rfl rfl dX10_determinant_36 ?_
        refine lv_iload_n hx hb dX10_determinant_39 rfl (lv_at hl 1 rfl) ?_
        refine aaldM (k0 := 1) hX hB (mw1 (a := a) (r := r) (f := f) (q := (va_up q 3 t32)) (T := tb a) (w := w)) (vp_in_mk (by assumption) (by assumption)) rfl dX10_determinant_40 ?_
        have hb36 := mok_r hm y.toNatClampNeg (by omega)
        refine lv_astore_n (lv' := [(3, .ref (a (2 + 2 * y.toNatClampNeg))), (0, .ref (a 0)), (1, .int y), (2, .int z)]) hx hb dX10_determinant_41 rfl hl (by decide) rfl (fun ls hl => ?_)
        refine lv_iload_n hx hb dX10_determinant_42 rfl (lv_at hl 3 rfl) ?_
        refine lv_iconst (v := 2) hx hb dX10_determinant_43 (by decide) ?_
        refine lv_icmp_ne (tgt := 69) hx hb dX10_determinant_44 (by decide) (fun c37 => ?_) (fun c37 => ?_)
        · replace hR := ifn c37 hR
          refine lv_null hx hb dX10_determinant_69 ?_
          refine lv_astoreN (lv' := [(4, .null), (3, .ref (a (2 + 2 * y.toNatClampNeg))), (0, .ref (a 0)), (1, .int y), (2, .int z)]) hx hb dX10_determinant_70 hl (by decide) rfl (fun ls hl => ?_)
          refine lv_aload_n hx hb dX10_determinant_72 rfl (lv_at hl 2 rfl) ?_
          refine lv_iconst (v := 0) hx hb dX10_determinant_73 (by decide) ?_
          refine lv_iconst (v := 0) hx hb dX10_determinant_74 (by decide) ?_
          refine lv_aload_n hx hb dX10_determinant_75 rfl (lv_at hl 1 rfl) ?_
          refine gf (k0 := 2 + 2 * y.toNatClampNeg) hX hB (mwG (i := y.toNatClampNeg) (a := a) (r := r) (f := f) (q := (va_up q 3 t32)) (T := tb a) (w := w) (by omega)) rfl in7 0 (by decide) wm_5_148 rfl rfl dX10_determinant_76 ?_
          refine lv_aload_n hx hb dX10_determinant_79 rfl (lv_at hl 1 rfl) ?_
          refine gf (k0 := 2 + 2 * y.toNatClampNeg) hX hB (mwG (i := y.toNatClampNeg) (a := a) (r := r) (f := f) (q := (va_up q 3 t32)) (T := tb a) (w := w) (by omega)) rfl in7 1 (by decide) wm_5_152 rfl rfl dX10_determinant_80 ?_
          refine lv_icmp_ne (tgt := 99) hx hb dX10_determinant_83 (by decide) (fun c38 => ?_) (fun c38 => ?_)
          · rw [neqP (a := r (2 * y.toNatClampNeg)) (b := r (2 * y.toNatClampNeg + 1)) (by omega) (by omega)] at c38
            replace hR := ifn c38 hR
            refine lv_iconst (v := 1) hx hb dX10_determinant_99 (by decide) ?_
            refine lv_goto (tgt := 104) hx hb dX10_determinant_100 (by decide) ?_
            obtain ⟨x39, t40, hd41⟩ := ex2 (D_X10_isThrown ((va_up q 3 t32) 0) ((va_up q 3 t32) 1) ((va_up q 3 t32) 2) ((va_up q 3 t32) 3) 0 0 1)
            replace hR := bnd2_use hd41 hR
            refine call_V (n := 3) (k0 := 0) (As := [.int 0, .int 0, .int 1]) (rest := []) hX hB (k_X10_isThrown κ l (mw κ a r f (va_up q 3 t32) (tb a) w) 0 (a 0) (a 1) ((va_up q 3 t32) 0) ((va_up q 3 t32) 1) ((va_up q 3 t32) 2) ((va_up q 3 t32) 3) 0 0 1 (mw0x (a := a) (r := r) (f := f) (q := (va_up q 3 t32)) (T := tb a) (w := w) rfl) x39 t40 hd41) ⟨rfl, yk_X10_isThrown⟩ wm_5_196 wm_5_198 wp_28 wm_1_6 wm_5_199 ⟨Nat.le_of_ble_eq_true rfl, Nat.le_of_ble_eq_true rfl⟩ ⟨Nat.le_of_ble_eq_true rfl, Nat.le_of_ble_eq_true rfl⟩ (mw0x (a := a) (r := r) (f := f) (q := (va_up q 3 t32)) (T := tb a) (w := w) rfl) rfl rfl rfl hl.1 rfl (Nat.le_of_ble_eq_true rfl) dX10_determinant_104 (fun o w' H locs hp hB => ?_)
            obtain ⟨rfl, hf42, hw9⟩ := hp
            replace hB : Bd κ A s (mw κ a r f (va_up (va_up q 3 t32) 3 t40) (tb a) w) H locs := by exact Bd_eq (mwQ3x rfl _) (by rw [hw9] at hB; exact hB)
            obtain rfl : x39 = 1 := hf42.trans (by decide)
            refine W.eq (g2 := F0 m 107 ls [.int 1]) rfl ?_
            refine lv_if_eq (tgt := 112) hx hb dX10_determinant_107 (by decide) (fun c43 => False.elim (by revert c43; decide)) (fun _ => ?_)
            refine lv_iconst (v := 0) hx hb dX10_determinant_110 (by decide) ?_
            rw [← hQ]
            exact end_i hX hB hA3 rfl rfl (by obtain ⟨rfl, rfl⟩ := pr2 hR; exact ⟨rfl, ⟨rfl, rfl, rfl⟩, rfl⟩) (Nat.le_of_ble_eq_true rfl) (Nat.le_of_ble_eq_true rfl) dX10_determinant_111
          · rw [neqP (a := r (2 * y.toNatClampNeg)) (b := r (2 * y.toNatClampNeg + 1)) (by omega) (by omega)] at c38
            replace hR := ifp c38 hR
            refine lv_aloadN hx hb dX10_determinant_86 (lv_at hl 0 rfl) ?_
            refine lv_ifnullN (tgt := 103) hx hb dX10_determinant_88 (by decide) ?_
            refine lv_iconst (v := 0) hx hb dX10_determinant_103 (by decide) ?_
            obtain ⟨x44, t45, hd46⟩ := ex2 (D_X10_isThrown ((va_up q 3 t32) 0) ((va_up q 3 t32) 1) ((va_up q 3 t32) 2) ((va_up q 3 t32) 3) 0 0 0)
            replace hR := bnd2_use hd46 hR
            refine call_V (n := 3) (k0 := 0) (As := [.int 0, .int 0, .int 0]) (rest := []) hX hB (k_X10_isThrown κ l (mw κ a r f (va_up q 3 t32) (tb a) w) 0 (a 0) (a 1) ((va_up q 3 t32) 0) ((va_up q 3 t32) 1) ((va_up q 3 t32) 2) ((va_up q 3 t32) 3) 0 0 0 (mw0x (a := a) (r := r) (f := f) (q := (va_up q 3 t32)) (T := tb a) (w := w) rfl) x44 t45 hd46) ⟨rfl, yk_X10_isThrown⟩ wm_5_196 wm_5_198 wp_28 wm_1_6 wm_5_199 ⟨Nat.le_of_ble_eq_true rfl, Nat.le_of_ble_eq_true rfl⟩ ⟨Nat.le_of_ble_eq_true rfl, Nat.le_of_ble_eq_true rfl⟩ (mw0x (a := a) (r := r) (f := f) (q := (va_up q 3 t32)) (T := tb a) (w := w) rfl) rfl rfl rfl hl.1 rfl (Nat.le_of_ble_eq_true rfl) dX10_determinant_104 (fun o w' H locs hp hB => ?_)
            obtain ⟨rfl, hf47, hw9⟩ := hp
            replace hB : Bd κ A s (mw κ a r f (va_up (va_up q 3 t32) 3 t45) (tb a) w) H locs := by exact Bd_eq (mwQ3x rfl _) (by rw [hw9] at hB; exact hB)
            obtain rfl : x44 = 0 := hf47.trans (by decide)
            refine W.eq (g2 := F0 m 107 ls [.int 0]) rfl ?_
            refine lv_if_eq (tgt := 112) hx hb dX10_determinant_107 (by decide) (fun _ => ?_) (fun c48 => False.elim (by revert c48; decide))
            refine lv_iload_n hx hb dX10_determinant_112 rfl (lv_at hl 4 rfl) ?_
            refine lv_if_ne (tgt := 122) hx hb dX10_determinant_113 (by decide) (fun c49 => ?_) (fun c49 => ?_)
            · replace hR := ifn c49 hR
              refine lv_iload_n hx hb dX10_determinant_122 rfl (lv_at hl 4 rfl) ?_
              refine lv_iconst (v := 1) hx hb dX10_determinant_123 (by decide) ?_
              refine lv_icmp_ne (tgt := 135) hx hb dX10_determinant_124 (by decide) (fun c50 => ?_) (fun c50 => ?_)
              · replace hR := ifn c50 hR
                exact False.elim (by first | omega | exact how_no (z := z) (by assumption) (by assumption) (by assumption) (by assumption) (by assumption))
              · replace hR := ifp c50 hR
                refine lv_aload_n hx hb dX10_determinant_127 rfl (lv_at hl 1 rfl) ?_
                refine lv_iconst (v := 0) hx hb dX10_determinant_128 (by decide) ?_
                refine lv_iconst (v := 0) hx hb dX10_determinant_129 (by decide) ?_
                refine call_S (n := 3) (As := [.ref (a (2 + 2 * y.toNatClampNeg)), .int 0, .int 0]) (rest := []) hX hB (k_X10_bySequences κ l (mw κ a r f (va_up (va_up q 3 t32) 3 t45) (tb a) w) (2 + 2 * y.toNatClampNeg) (3 + 2 * y.toNatClampNeg) (a (2 + 2 * y.toNatClampNeg)) (a (3 + 2 * y.toNatClampNeg)) (r (2 * y.toNatClampNeg)) (r (2 * y.toNatClampNeg + 1)) (f y.toNatClampNeg) 0 0 0 (mwG (i := y.toNatClampNeg) (a := a) (r := r) (f := f) (q := (va_up (va_up q 3 t32) 3 t45)) (T := tb a) (w := w) (by omega)) (mwA (i := y.toNatClampNeg) (a := a) (r := r) (f := f) (q := (va_up (va_up q 3 t32) 3 t45)) (T := tb a) (w := w) (by omega)) (mok_shp (i := y.toNatClampNeg) hm (by omega)) rfl (by omega)) yk_X10_bySequences wm_7_88 wm_7_89 wm_1_6 wm_7_90 ⟨Nat.le_of_ble_eq_true rfl, Nat.le_of_ble_eq_true rfl⟩ ⟨Nat.le_of_ble_eq_true rfl, Nat.le_of_ble_eq_true rfl⟩ rfl hl.1 rfl (Nat.le_of_ble_eq_true rfl) dX10_determinant_130 (fun o w' H locs hp hB => ?_)
                obtain ⟨rfl, hw9⟩ := hp
                replace hB : Bd κ A s (mw κ a r f (va_up (va_up q 3 t32) 3 t45) (tb a) w) H locs := by rw [hw9] at hB; exact hB
                refine W.eq (g2 := F0 m 133 ls [.long (bsv (r (2 * y.toNatClampNeg)) (r (2 * y.toNatClampNeg + 1)) (f y.toNatClampNeg) 4 0 0)]) rfl ?_
                refine lv_l2i hx hb dX10_determinant_133 rfl ?_
                rw [← hQ]
                exact end_i hX hB hA3 rfl rfl (by obtain ⟨rfl, rfl⟩ := pr2 hR; exact ⟨rfl, ⟨rfl, rfl, rfl⟩, rfl⟩) (Nat.le_of_ble_eq_true rfl) (Nat.le_of_ble_eq_true rfl) dX10_determinant_134
            · replace hR := ifp c49 hR
              refine lv_aload_n hx hb dX10_determinant_116 rfl (lv_at hl 1 rfl) ?_
              refine call_S (n := 1) (As := [.ref (a (2 + 2 * y.toNatClampNeg))]) (rest := []) hX hB (k_X10_determinantOf κ l (mw κ a r f (va_up (va_up q 3 t32) 3 t45) (tb a) w) (2 + 2 * y.toNatClampNeg) (3 + 2 * y.toNatClampNeg) (a (2 + 2 * y.toNatClampNeg)) (a (3 + 2 * y.toNatClampNeg)) (r (2 * y.toNatClampNeg)) (r (2 * y.toNatClampNeg + 1)) (f y.toNatClampNeg) (mwG (i := y.toNatClampNeg) (a := a) (r := r) (f := f) (q := (va_up (va_up q 3 t32) 3 t45)) (T := tb a) (w := w) (by omega)) (mwA (i := y.toNatClampNeg) (a := a) (r := r) (f := f) (q := (va_up (va_up q 3 t32) 3 t45)) (T := tb a) (w := w) (by omega)) (mok_shp (i := y.toNatClampNeg) hm (by omega)) (by omega)) yk_X10_determinantOf wm_7_76 wm_7_77 wm_1_6 wm_7_78 ⟨Nat.le_of_ble_eq_true rfl, Nat.le_of_ble_eq_true rfl⟩ ⟨Nat.le_of_ble_eq_true rfl, Nat.le_of_ble_eq_true rfl⟩ rfl hl.1 rfl (Nat.le_of_ble_eq_true rfl) dX10_determinant_117 (fun o w' H locs hp hB => ?_)
              obtain ⟨rfl, hw9⟩ := hp
              replace hB : Bd κ A s (mw κ a r f (va_up (va_up q 3 t32) 3 t45) (tb a) w) H locs := by rw [hw9] at hB; exact hB
              refine W.eq (g2 := F0 m 120 ls [.long (mnv (f y.toNatClampNeg) (r (2 * y.toNatClampNeg + 1)) (r (2 * y.toNatClampNeg)) (2 ^ (r (2 * y.toNatClampNeg)) - 1) (2 ^ (r (2 * y.toNatClampNeg + 1)) - 1))]) rfl ?_
              refine lv_l2i hx hb dX10_determinant_120 rfl ?_
              rw [← hQ]
              exact end_i hX hB hA3 rfl rfl (by obtain ⟨rfl, rfl⟩ := pr2 hR; exact ⟨rfl, ⟨rfl, rfl, rfl⟩, rfl⟩) (Nat.le_of_ble_eq_true rfl) (Nat.le_of_ble_eq_true rfl) dX10_determinant_121
        · replace hR := ifp c37 hR
          refine lv_aload_n hx hb dX10_determinant_47 rfl (lv_at hl 0 rfl) ?_
          refine gf (k0 := 2 + 2 * y.toNatClampNeg) hX hB (mwG (i := y.toNatClampNeg) (a := a) (r := r) (f := f) (q := (va_up q 3 t32)) (T := tb a) (w := w) (by omega)) rfl in7 0 (by decide) wm_5_148 rfl rfl dX10_determinant_48 ?_
          refine lv_aload_n hx hb dX10_determinant_51 rfl (lv_at hl 0 rfl) ?_
          refine gf (k0 := 2 + 2 * y.toNatClampNeg) hX hB (mwG (i := y.toNatClampNeg) (a := a) (r := r) (f := f) (q := (va_up q 3 t32)) (T := tb a) (w := w) (by omega)) rfl in7 1 (by decide) wm_5_152 rfl rfl dX10_determinant_52 ?_
          refine lv_icmp_ne (tgt := 69) hx hb dX10_determinant_55 (by decide) (fun c51 => ?_) (fun c51 => ?_)
          · rw [neqP (a := r (2 * y.toNatClampNeg)) (b := r (2 * y.toNatClampNeg + 1)) (by omega) (by omega)] at c51
            replace hR := ifn c51 hR
            refine lv_null hx hb dX10_determinant_69 ?_
            refine lv_astoreN (lv' := [(4, .null), (3, .ref (a (2 + 2 * y.toNatClampNeg))), (0, .ref (a 0)), (1, .int y), (2, .int z)]) hx hb dX10_determinant_70 hl (by decide) rfl (fun ls hl => ?_)
            refine lv_aload_n hx hb dX10_determinant_72 rfl (lv_at hl 2 rfl) ?_
            refine lv_iconst (v := 0) hx hb dX10_determinant_73 (by decide) ?_
            refine lv_iconst (v := 0) hx hb dX10_determinant_74 (by decide) ?_
            refine lv_aload_n hx hb dX10_determinant_75 rfl (lv_at hl 1 rfl) ?_
            refine gf (k0 := 2 + 2 * y.toNatClampNeg) hX hB (mwG (i := y.toNatClampNeg) (a := a) (r := r) (f := f) (q := (va_up q 3 t32)) (T := tb a) (w := w) (by omega)) rfl in7 0 (by decide) wm_5_148 rfl rfl dX10_determinant_76 ?_
            refine lv_aload_n hx hb dX10_determinant_79 rfl (lv_at hl 1 rfl) ?_
            refine gf (k0 := 2 + 2 * y.toNatClampNeg) hX hB (mwG (i := y.toNatClampNeg) (a := a) (r := r) (f := f) (q := (va_up q 3 t32)) (T := tb a) (w := w) (by omega)) rfl in7 1 (by decide) wm_5_152 rfl rfl dX10_determinant_80 ?_
            refine lv_icmp_ne (tgt := 99) hx hb dX10_determinant_83 (by decide) (fun c52 => ?_) (fun c52 => ?_)
            · rw [neqP (a := r (2 * y.toNatClampNeg)) (b := r (2 * y.toNatClampNeg + 1)) (by omega) (by omega)] at c52
              replace hR := ifn c52 hR
              refine lv_iconst (v := 1) hx hb dX10_determinant_99 (by decide) ?_
              refine lv_goto (tgt := 104) hx hb dX10_determinant_100 (by decide) ?_
              obtain ⟨x53, t54, hd55⟩ := ex2 (D_X10_isThrown ((va_up q 3 t32) 0) ((va_up q 3 t32) 1) ((va_up q 3 t32) 2) ((va_up q 3 t32) 3) 0 0 1)
              replace hR := bnd2_use hd55 hR
              refine call_V (n := 3) (k0 := 0) (As := [.int 0, .int 0, .int 1]) (rest := []) hX hB (k_X10_isThrown κ l (mw κ a r f (va_up q 3 t32) (tb a) w) 0 (a 0) (a 1) ((va_up q 3 t32) 0) ((va_up q 3 t32) 1) ((va_up q 3 t32) 2) ((va_up q 3 t32) 3) 0 0 1 (mw0x (a := a) (r := r) (f := f) (q := (va_up q 3 t32)) (T := tb a) (w := w) rfl) x53 t54 hd55) ⟨rfl, yk_X10_isThrown⟩ wm_5_196 wm_5_198 wp_28 wm_1_6 wm_5_199 ⟨Nat.le_of_ble_eq_true rfl, Nat.le_of_ble_eq_true rfl⟩ ⟨Nat.le_of_ble_eq_true rfl, Nat.le_of_ble_eq_true rfl⟩ (mw0x (a := a) (r := r) (f := f) (q := (va_up q 3 t32)) (T := tb a) (w := w) rfl) rfl rfl rfl hl.1 rfl (Nat.le_of_ble_eq_true rfl) dX10_determinant_104 (fun o w' H locs hp hB => ?_)
              obtain ⟨rfl, hf56, hw9⟩ := hp
              replace hB : Bd κ A s (mw κ a r f (va_up (va_up q 3 t32) 3 t54) (tb a) w) H locs := by exact Bd_eq (mwQ3x rfl _) (by rw [hw9] at hB; exact hB)
              obtain rfl : x53 = 1 := hf56.trans (by decide)
              refine W.eq (g2 := F0 m 107 ls [.int 1]) rfl ?_
              refine lv_if_eq (tgt := 112) hx hb dX10_determinant_107 (by decide) (fun c57 => False.elim (by revert c57; decide)) (fun _ => ?_)
              refine lv_iconst (v := 0) hx hb dX10_determinant_110 (by decide) ?_
              rw [← hQ]
              exact end_i hX hB hA3 rfl rfl (by obtain ⟨rfl, rfl⟩ := pr2 hR; exact ⟨rfl, ⟨rfl, rfl, rfl⟩, rfl⟩) (Nat.le_of_ble_eq_true rfl) (Nat.le_of_ble_eq_true rfl) dX10_determinant_111
            · rw [neqP (a := r (2 * y.toNatClampNeg)) (b := r (2 * y.toNatClampNeg + 1)) (by omega) (by omega)] at c52
              replace hR := ifp c52 hR
              refine lv_aloadN hx hb dX10_determinant_86 (lv_at hl 0 rfl) ?_
              refine lv_ifnullN (tgt := 103) hx hb dX10_determinant_88 (by decide) ?_
              refine lv_iconst (v := 0) hx hb dX10_determinant_103 (by decide) ?_
              obtain ⟨x58, t59, hd60⟩ := ex2 (D_X10_isThrown ((va_up q 3 t32) 0) ((va_up q 3 t32) 1) ((va_up q 3 t32) 2) ((va_up q 3 t32) 3) 0 0 0)
              replace hR := bnd2_use hd60 hR
              refine call_V (n := 3) (k0 := 0) (As := [.int 0, .int 0, .int 0]) (rest := []) hX hB (k_X10_isThrown κ l (mw κ a r f (va_up q 3 t32) (tb a) w) 0 (a 0) (a 1) ((va_up q 3 t32) 0) ((va_up q 3 t32) 1) ((va_up q 3 t32) 2) ((va_up q 3 t32) 3) 0 0 0 (mw0x (a := a) (r := r) (f := f) (q := (va_up q 3 t32)) (T := tb a) (w := w) rfl) x58 t59 hd60) ⟨rfl, yk_X10_isThrown⟩ wm_5_196 wm_5_198 wp_28 wm_1_6 wm_5_199 ⟨Nat.le_of_ble_eq_true rfl, Nat.le_of_ble_eq_true rfl⟩ ⟨Nat.le_of_ble_eq_true rfl, Nat.le_of_ble_eq_true rfl⟩ (mw0x (a := a) (r := r) (f := f) (q := (va_up q 3 t32)) (T := tb a) (w := w) rfl) rfl rfl rfl hl.1 rfl (Nat.le_of_ble_eq_true rfl) dX10_determinant_104 (fun o w' H locs hp hB => ?_)
              obtain ⟨rfl, hf61, hw9⟩ := hp
              replace hB : Bd κ A s (mw κ a r f (va_up (va_up q 3 t32) 3 t59) (tb a) w) H locs := by exact Bd_eq (mwQ3x rfl _) (by rw [hw9] at hB; exact hB)
              obtain rfl : x58 = 0 := hf61.trans (by decide)
              refine W.eq (g2 := F0 m 107 ls [.int 0]) rfl ?_
              refine lv_if_eq (tgt := 112) hx hb dX10_determinant_107 (by decide) (fun _ => ?_) (fun c62 => False.elim (by revert c62; decide))
              refine lv_iload_n hx hb dX10_determinant_112 rfl (lv_at hl 4 rfl) ?_
              refine lv_if_ne (tgt := 122) hx hb dX10_determinant_113 (by decide) (fun c63 => ?_) (fun c63 => ?_)
              · replace hR := ifn c63 hR
                refine lv_iload_n hx hb dX10_determinant_122 rfl (lv_at hl 4 rfl) ?_
                refine lv_iconst (v := 1) hx hb dX10_determinant_123 (by decide) ?_
                refine lv_icmp_ne (tgt := 135) hx hb dX10_determinant_124 (by decide) (fun c64 => ?_) (fun c64 => ?_)
                · replace hR := ifn c64 hR
                  exact False.elim (by first | omega | exact how_no (z := z) (by assumption) (by assumption) (by assumption) (by assumption) (by assumption))
                · replace hR := ifp c64 hR
                  refine lv_aload_n hx hb dX10_determinant_127 rfl (lv_at hl 1 rfl) ?_
                  refine lv_iconst (v := 0) hx hb dX10_determinant_128 (by decide) ?_
                  refine lv_iconst (v := 0) hx hb dX10_determinant_129 (by decide) ?_
                  refine call_S (n := 3) (As := [.ref (a (2 + 2 * y.toNatClampNeg)), .int 0, .int 0]) (rest := []) hX hB (k_X10_bySequences κ l (mw κ a r f (va_up (va_up q 3 t32) 3 t59) (tb a) w) (2 + 2 * y.toNatClampNeg) (3 + 2 * y.toNatClampNeg) (a (2 + 2 * y.toNatClampNeg)) (a (3 + 2 * y.toNatClampNeg)) (r (2 * y.toNatClampNeg)) (r (2 * y.toNatClampNeg + 1)) (f y.toNatClampNeg) 0 0 0 (mwG (i := y.toNatClampNeg) (a := a) (r := r) (f := f) (q := (va_up (va_up q 3 t32) 3 t59)) (T := tb a) (w := w) (by omega)) (mwA (i := y.toNatClampNeg) (a := a) (r := r) (f := f) (q := (va_up (va_up q 3 t32) 3 t59)) (T := tb a) (w := w) (by omega)) (mok_shp (i := y.toNatClampNeg) hm (by omega)) rfl (by omega)) yk_X10_bySequences wm_7_88 wm_7_89 wm_1_6 wm_7_90 ⟨Nat.le_of_ble_eq_true rfl, Nat.le_of_ble_eq_true rfl⟩ ⟨Nat.le_of_ble_eq_true rfl, Nat.le_of_ble_eq_true rfl⟩ rfl hl.1 rfl (Nat.le_of_ble_eq_true rfl) dX10_determinant_130 (fun o w' H locs hp hB => ?_)
                  obtain ⟨rfl, hw9⟩ := hp
                  replace hB : Bd κ A s (mw κ a r f (va_up (va_up q 3 t32) 3 t59) (tb a) w) H locs := by rw [hw9] at hB; exact hB
                  refine W.eq (g2 := F0 m 133 ls [.long (bsv (r (2 * y.toNatClampNeg)) (r (2 * y.toNatClampNeg + 1)) (f y.toNatClampNeg) 4 0 0)]) rfl ?_
                  refine lv_l2i hx hb dX10_determinant_133 rfl ?_
                  rw [← hQ]
                  exact end_i hX hB hA3 rfl rfl (by obtain ⟨rfl, rfl⟩ := pr2 hR; exact ⟨rfl, ⟨rfl, rfl, rfl⟩, rfl⟩) (Nat.le_of_ble_eq_true rfl) (Nat.le_of_ble_eq_true rfl) dX10_determinant_134
              · replace hR := ifp c63 hR
                refine lv_aload_n hx hb dX10_determinant_116 rfl (lv_at hl 1 rfl) ?_
                refine call_S (n := 1) (As := [.ref (a (2 + 2 * y.toNatClampNeg))]) (rest := []) hX hB (k_X10_determinantOf κ l (mw κ a r f (va_up (va_up q 3 t32) 3 t59) (tb a) w) (2 + 2 * y.toNatClampNeg) (3 + 2 * y.toNatClampNeg) (a (2 + 2 * y.toNatClampNeg)) (a (3 + 2 * y.toNatClampNeg)) (r (2 * y.toNatClampNeg)) (r (2 * y.toNatClampNeg + 1)) (f y.toNatClampNeg) (mwG (i := y.toNatClampNeg) (a := a) (r := r) (f := f) (q := (va_up (va_up q 3 t32) 3 t59)) (T := tb a) (w := w) (by omega)) (mwA (i := y.toNatClampNeg) (a := a) (r := r) (f := f) (q := (va_up (va_up q 3 t32) 3 t59)) (T := tb a) (w := w) (by omega)) (mok_shp (i := y.toNatClampNeg) hm (by omega)) (by omega)) yk_X10_determinantOf wm_7_76 wm_7_77 wm_1_6 wm_7_78 ⟨Nat.le_of_ble_eq_true rfl, Nat.le_of_ble_eq_true rfl⟩ ⟨Nat.le_of_ble_eq_true rfl, Nat.le_of_ble_eq_true rfl⟩ rfl hl.1 rfl (Nat.le_of_ble_eq_true rfl) dX10_determinant_117 (fun o w' H locs hp hB => ?_)
                obtain ⟨rfl, hw9⟩ := hp
                replace hB : Bd κ A s (mw κ a r f (va_up (va_up q 3 t32) 3 t59) (tb a) w) H locs := by rw [hw9] at hB; exact hB
                refine W.eq (g2 := F0 m 120 ls [.long (mnv (f y.toNatClampNeg) (r (2 * y.toNatClampNeg + 1)) (r (2 * y.toNatClampNeg)) (2 ^ (r (2 * y.toNatClampNeg)) - 1) (2 ^ (r (2 * y.toNatClampNeg + 1)) - 1))]) rfl ?_
                refine lv_l2i hx hb dX10_determinant_120 rfl ?_
                rw [← hQ]
                exact end_i hX hB hA3 rfl rfl (by obtain ⟨rfl, rfl⟩ := pr2 hR; exact ⟨rfl, ⟨rfl, rfl, rfl⟩, rfl⟩) (Nat.le_of_ble_eq_true rfl) (Nat.le_of_ble_eq_true rfl) dX10_determinant_121
          · rw [neqP (a := r (2 * y.toNatClampNeg)) (b := r (2 * y.toNatClampNeg + 1)) (by omega) (by omega)] at c51
            replace hR := ifp c51 hR
            refine newO (fs := [.null, .null, .int 0, .int 0]) hX hB (ci := 9) rfl in8 tyX8_ok wm_6_127 wm_6_128 wm_1_15 df9 (Nat.le_of_ble_eq_true rfl) (Nat.le_of_ble_eq_true rfl) dX10_determinant_58 (fun q65 H hB => ?_)
            refine lv_dup hx hb dX10_determinant_61 rfl ?_
            refine lv_aload_n hx hb dX10_determinant_62 rfl (lv_at hl 0 rfl) ?_
            obtain ⟨F70, F71, S72, G73, hd74⟩ := ex4 (D_X8_init (r (2 * y.toNatClampNeg)) (r (2 * y.toNatClampNeg + 1)) (f y.toNatClampNeg))
            replace hR := bnd4_use hd74 hR
            refine call_I (n := 1) (As := [.ref (a (2 + 2 * y.toNatClampNeg))]) (rest := [.ref q65]) hX hB (k_X8_init κ l (mw κ a r f (va_up q 3 t32) (tb a) w) q65 (2 + 2 * y.toNatClampNeg) (3 + 2 * y.toNatClampNeg) (a (2 + 2 * y.toNatClampNeg)) (a (3 + 2 * y.toNatClampNeg)) (r (2 * y.toNatClampNeg)) (r (2 * y.toNatClampNeg + 1)) (f y.toNatClampNeg) (mwG (i := y.toNatClampNeg) (a := a) (r := r) (f := f) (q := (va_up q 3 t32)) (T := tb a) (w := w) (by omega)) (mwA (i := y.toNatClampNeg) (a := a) (r := r) (f := f) (q := (va_up q 3 t32)) (T := tb a) (w := w) (by omega)) (mok_shp (i := y.toNatClampNeg) hm (by omega)) (fun k hk => sm_ng ((hm _ (by omega)).2 k hk)) F70 F71 S72 G73 hd74) yk_X8_init rfl wm_6_129 wm_6_130 wm_1_15 wm_6_131 ⟨Nat.le_of_ble_eq_true rfl, Nat.le_of_ble_eq_true rfl⟩ ⟨Nat.le_of_ble_eq_true rfl, Nat.le_of_ble_eq_true rfl⟩ rfl hl.1 rfl (Nat.le_of_ble_eq_true rfl) dX10_determinant_63 (fun o w' H locs hp hB => ?_)
            obtain ⟨g66, b67, g68, b69, rfl, hf75, hw9⟩ := hp
            replace hB : Bd κ A s (lA κ b67 ((r (2 * y.toNatClampNeg)) * 5) F70 :: gO g66 (r (2 * y.toNatClampNeg)) (r (2 * y.toNatClampNeg)) b67 :: lA κ b69 ((r (2 * y.toNatClampNeg)) * 5) F71 :: gO g68 (r (2 * y.toNatClampNeg)) (r (2 * y.toNatClampNeg + 1)) b69 :: (q65, .inr (9, [.ref g68, .ref g66, .int S72, .int G73])) :: mw κ a r f (va_up q 3 t32) (tb a) w) H locs := by rw [hw9] at hB; exact hB
            refine W.eq (g2 := F0 m 66 ls [.ref q65]) rfl ?_
            refine lv_goto (tgt := 70) hx hb dX10_determinant_66 (by decide) ?_
            refine lv_astore (lv' := [(4, .ref q65), (3, .ref (a (2 + 2 * y.toNatClampNeg))), (0, .ref (a 0)), (1, .int y), (2, .int z)]) hx hb dX10_determinant_70 hl (by decide) rfl (fun ls hl => ?_)
            refine lv_aload_n hx hb dX10_determinant_72 rfl (lv_at hl 2 rfl) ?_
            refine lv_iconst (v := 0) hx hb dX10_determinant_73 (by decide) ?_
            refine lv_iconst (v := 0) hx hb dX10_determinant_74 (by decide) ?_
            refine lv_aload_n hx hb dX10_determinant_75 rfl (lv_at hl 1 rfl) ?_
            refine gf (k0 := 2 + 2 * y.toNatClampNeg + 5) hX hB (mwG (i := y.toNatClampNeg) (a := a) (r := r) (f := f) (q := (va_up q 3 t32)) (T := tb a) (w := w) (by omega)) rfl in7 0 (by decide) wm_5_148 rfl rfl dX10_determinant_76 ?_
            refine lv_aload_n hx hb dX10_determinant_79 rfl (lv_at hl 1 rfl) ?_
            refine gf (k0 := 2 + 2 * y.toNatClampNeg + 5) hX hB (mwG (i := y.toNatClampNeg) (a := a) (r := r) (f := f) (q := (va_up q 3 t32)) (T := tb a) (w := w) (by omega)) rfl in7 1 (by decide) wm_5_152 rfl rfl dX10_determinant_80 ?_
            refine lv_icmp_ne (tgt := 99) hx hb dX10_determinant_83 (by decide) (fun c76 => ?_) (fun c76 => ?_)
            · rw [neqP (a := r (2 * y.toNatClampNeg)) (b := r (2 * y.toNatClampNeg + 1)) (by omega) (by omega)] at c76
              replace hR := ifn c76 hR
              refine lv_iconst (v := 1) hx hb dX10_determinant_99 (by decide) ?_
              refine lv_goto (tgt := 104) hx hb dX10_determinant_100 (by decide) ?_
              obtain ⟨x77, t78, hd79⟩ := ex2 (D_X10_isThrown ((va_up q 3 t32) 0) ((va_up q 3 t32) 1) ((va_up q 3 t32) 2) ((va_up q 3 t32) 3) 0 0 1)
              replace hR := bnd2_use hd79 hR
              refine call_V (n := 3) (k0 := 5) (As := [.int 0, .int 0, .int 1]) (rest := []) hX hB (k_X10_isThrown κ l (lA κ b67 ((r (2 * y.toNatClampNeg)) * 5) F70 :: gO g66 (r (2 * y.toNatClampNeg)) (r (2 * y.toNatClampNeg)) b67 :: lA κ b69 ((r (2 * y.toNatClampNeg)) * 5) F71 :: gO g68 (r (2 * y.toNatClampNeg)) (r (2 * y.toNatClampNeg + 1)) b69 :: (q65, .inr (9, [.ref g68, .ref g66, .int S72, .int G73])) :: mw κ a r f (va_up q 3 t32) (tb a) w) 5 (a 0) (a 1) ((va_up q 3 t32) 0) ((va_up q 3 t32) 1) ((va_up q 3 t32) 2) ((va_up q 3 t32) 3) 0 0 1 (mw0x (a := a) (r := r) (f := f) (q := (va_up q 3 t32)) (T := tb a) (w := w) rfl) x77 t78 hd79) ⟨rfl, yk_X10_isThrown⟩ wm_5_196 wm_5_198 wp_28 wm_1_6 wm_5_199 ⟨Nat.le_of_ble_eq_true rfl, Nat.le_of_ble_eq_true rfl⟩ ⟨Nat.le_of_ble_eq_true rfl, Nat.le_of_ble_eq_true rfl⟩ (mw0x (a := a) (r := r) (f := f) (q := (va_up q 3 t32)) (T := tb a) (w := w) rfl) rfl rfl rfl hl.1 rfl (Nat.le_of_ble_eq_true rfl) dX10_determinant_104 (fun o w' H locs hp hB => ?_)
              obtain ⟨rfl, hf80, hw9⟩ := hp
              replace hB : Bd κ A s (lA κ b67 ((r (2 * y.toNatClampNeg)) * 5) F70 :: gO g66 (r (2 * y.toNatClampNeg)) (r (2 * y.toNatClampNeg)) b67 :: lA κ b69 ((r (2 * y.toNatClampNeg)) * 5) F71 :: gO g68 (r (2 * y.toNatClampNeg)) (r (2 * y.toNatClampNeg + 1)) b69 :: (q65, .inr (9, [.ref g68, .ref g66, .int S72, .int G73])) :: mw κ a r f (va_up (va_up q 3 t32) 3 t78) (tb a) w) H locs := by exact Bd_eq (congrArg (List.cons _) (congrArg (List.cons _) (congrArg (List.cons _) (congrArg (List.cons _) (congrArg (List.cons _) (mwQ3x rfl _)))))) (by rw [hw9] at hB; exact hB)
              obtain rfl : x77 = 1 := hf80.trans (by decide)
              refine W.eq (g2 := F0 m 107 ls [.int 1]) rfl ?_
              refine lv_if_eq (tgt := 112) hx hb dX10_determinant_107 (by decide) (fun c81 => False.elim (by revert c81; decide)) (fun _ => ?_)
              refine lv_iconst (v := 0) hx hb dX10_determinant_110 (by decide) ?_
              replace hB : Bd κ A s (lA κ b67 ((r (2 * y.toNatClampNeg)) * 5) F70 :: gO g66 (r (2 * y.toNatClampNeg)) (r (2 * y.toNatClampNeg)) b67 :: lA κ b69 ((r (2 * y.toNatClampNeg)) * 5) F71 :: gO g68 (r (2 * y.toNatClampNeg)) (r (2 * y.toNatClampNeg + 1)) b69 :: mw κ a r f (va_up (va_up q 3 t32) 3 t78) (tb a) w) H locs := Bd_del 4 hB
              replace hB : Bd κ A s (lA κ b67 ((r (2 * y.toNatClampNeg)) * 5) F70 :: gO g66 (r (2 * y.toNatClampNeg)) (r (2 * y.toNatClampNeg)) b67 :: lA κ b69 ((r (2 * y.toNatClampNeg)) * 5) F71 :: mw κ a r f (va_up (va_up q 3 t32) 3 t78) (tb a) w) H locs := Bd_del 3 hB
              replace hB : Bd κ A s (lA κ b67 ((r (2 * y.toNatClampNeg)) * 5) F70 :: gO g66 (r (2 * y.toNatClampNeg)) (r (2 * y.toNatClampNeg)) b67 :: mw κ a r f (va_up (va_up q 3 t32) 3 t78) (tb a) w) H locs := Bd_del 2 hB
              replace hB : Bd κ A s (lA κ b67 ((r (2 * y.toNatClampNeg)) * 5) F70 :: mw κ a r f (va_up (va_up q 3 t32) 3 t78) (tb a) w) H locs := Bd_del 1 hB
              replace hB : Bd κ A s (mw κ a r f (va_up (va_up q 3 t32) 3 t78) (tb a) w) H locs := Bd_del 0 hB
              rw [← hQ]
              exact end_i hX hB hA3 rfl rfl (by obtain ⟨rfl, rfl⟩ := pr2 hR; exact ⟨rfl, ⟨rfl, rfl, rfl⟩, rfl⟩) (Nat.le_of_ble_eq_true rfl) (Nat.le_of_ble_eq_true rfl) dX10_determinant_111
            · rw [neqP (a := r (2 * y.toNatClampNeg)) (b := r (2 * y.toNatClampNeg + 1)) (by omega) (by omega)] at c76
              replace hR := ifp c76 hR
              refine lv_aload hx hb dX10_determinant_86 (lv_at hl 0 rfl) ?_
              refine lv_ifnull hx hb dX10_determinant_88 ?_
              refine lv_aload hx hb dX10_determinant_91 (lv_at hl 0 rfl) ?_
              refine gf (k0 := 4) hX hB rfl rfl in8 3 (by decide) wm_6_166 rfl rfl dX10_determinant_93 ?_
              refine lv_if_eq (tgt := 103) hx hb dX10_determinant_96 (by decide) (fun c82 => ?_) (fun c82 => ?_)
              · replace hR := ifp c82 hR
                refine lv_iconst (v := 0) hx hb dX10_determinant_103 (by decide) ?_
                obtain ⟨x83, t84, hd85⟩ := ex2 (D_X10_isThrown ((va_up q 3 t32) 0) ((va_up q 3 t32) 1) ((va_up q 3 t32) 2) ((va_up q 3 t32) 3) 0 0 0)
                replace hR := bnd2_use hd85 hR
                refine call_V (n := 3) (k0 := 5) (As := [.int 0, .int 0, .int 0]) (rest := []) hX hB (k_X10_isThrown κ l (lA κ b67 ((r (2 * y.toNatClampNeg)) * 5) F70 :: gO g66 (r (2 * y.toNatClampNeg)) (r (2 * y.toNatClampNeg)) b67 :: lA κ b69 ((r (2 * y.toNatClampNeg)) * 5) F71 :: gO g68 (r (2 * y.toNatClampNeg)) (r (2 * y.toNatClampNeg + 1)) b69 :: (q65, .inr (9, [.ref g68, .ref g66, .int S72, .int G73])) :: mw κ a r f (va_up q 3 t32) (tb a) w) 5 (a 0) (a 1) ((va_up q 3 t32) 0) ((va_up q 3 t32) 1) ((va_up q 3 t32) 2) ((va_up q 3 t32) 3) 0 0 0 (mw0x (a := a) (r := r) (f := f) (q := (va_up q 3 t32)) (T := tb a) (w := w) rfl) x83 t84 hd85) ⟨rfl, yk_X10_isThrown⟩ wm_5_196 wm_5_198 wp_28 wm_1_6 wm_5_199 ⟨Nat.le_of_ble_eq_true rfl, Nat.le_of_ble_eq_true rfl⟩ ⟨Nat.le_of_ble_eq_true rfl, Nat.le_of_ble_eq_true rfl⟩ (mw0x (a := a) (r := r) (f := f) (q := (va_up q 3 t32)) (T := tb a) (w := w) rfl) rfl rfl rfl hl.1 rfl (Nat.le_of_ble_eq_true rfl) dX10_determinant_104 (fun o w' H locs hp hB => ?_)
                obtain ⟨rfl, hf86, hw9⟩ := hp
                replace hB : Bd κ A s (lA κ b67 ((r (2 * y.toNatClampNeg)) * 5) F70 :: gO g66 (r (2 * y.toNatClampNeg)) (r (2 * y.toNatClampNeg)) b67 :: lA κ b69 ((r (2 * y.toNatClampNeg)) * 5) F71 :: gO g68 (r (2 * y.toNatClampNeg)) (r (2 * y.toNatClampNeg + 1)) b69 :: (q65, .inr (9, [.ref g68, .ref g66, .int S72, .int G73])) :: mw κ a r f (va_up (va_up q 3 t32) 3 t84) (tb a) w) H locs := by exact Bd_eq (congrArg (List.cons _) (congrArg (List.cons _) (congrArg (List.cons _) (congrArg (List.cons _) (congrArg (List.cons _) (mwQ3x rfl _)))))) (by rw [hw9] at hB; exact hB)
                obtain rfl : x83 = 0 := hf86.trans (by decide)
                refine W.eq (g2 := F0 m 107 ls [.int 0]) rfl ?_
                refine lv_if_eq (tgt := 112) hx hb dX10_determinant_107 (by decide) (fun _ => ?_) (fun c87 => False.elim (by revert c87; decide))
                refine lv_iload_n hx hb dX10_determinant_112 rfl (lv_at hl 4 rfl) ?_
                refine lv_if_ne (tgt := 122) hx hb dX10_determinant_113 (by decide) (fun c88 => ?_) (fun c88 => ?_)
                · replace hR := ifn c88 hR
                  refine lv_iload_n hx hb dX10_determinant_122 rfl (lv_at hl 4 rfl) ?_
                  refine lv_iconst (v := 1) hx hb dX10_determinant_123 (by decide) ?_
                  refine lv_icmp_ne (tgt := 135) hx hb dX10_determinant_124 (by decide) (fun c89 => ?_) (fun c89 => ?_)
                  · replace hR := ifn c89 hR
                    refine lv_aload hx hb dX10_determinant_135 (lv_at hl 0 rfl) ?_
                    refine gf (k0 := 4) hX hB rfl rfl in8 2 (by decide) wm_6_164 rfl rfl dX10_determinant_137 ?_
                    refine lv_i2l hx hb dX10_determinant_140 rfl ?_
                    refine lv_lstore (lv' := [(5, .long ((S72).toInt64)), (4, .ref q65), (3, .ref (a (2 + 2 * y.toNatClampNeg))), (0, .ref (a 0)), (1, .int y), (2, .int z)]) hx hb dX10_determinant_141 hl (by decide) rfl (fun ls hl => ?_)
                    refine lv_iconst (v := 0) hx hb dX10_determinant_143 (by decide) ?_
                    refine lv_istore (lv' := [(7, .int 0), (5, .long ((S72).toInt64)), (4, .ref q65), (3, .ref (a (2 + 2 * y.toNatClampNeg))), (0, .ref (a 0)), (1, .int y), (2, .int z)]) hx hb dX10_determinant_144 hl (by decide) rfl (fun ls hl => ?_)
                    have lp146 : ∀ (nn146 : Nat) (y7_146 : Nat) (y5_146 : Int64) (H : Heap) (locs : List Loc), (y7_146 ≤ (r (2 * y.toNatClampNeg))) → (r (2 * y.toNatClampNeg)) + 1 - y7_146 < nn146 → D_X10_determinant_146 r q y t32 F71 t84 nn146 y7_146 y5_146 = (o_x, o_q') → Bd κ A s (lA κ b67 ((r (2 * y.toNatClampNeg)) * 5) F70 :: gO g66 (r (2 * y.toNatClampNeg)) (r (2 * y.toNatClampNeg)) b67 :: lA κ b69 ((r (2 * y.toNatClampNeg)) * 5) F71 :: gO g68 (r (2 * y.toNatClampNeg)) (r (2 * y.toNatClampNeg + 1)) b69 :: (q65, .inr (9, [.ref g68, .ref g66, .int S72, .int G73])) :: mw κ a r f (va_up (va_up q 3 t32) 3 t84) (tb a) w) H locs → ∀ ls : Array Slot, lv_has ls 8 [(7, .int (nI y7_146)), (5, .long y5_146), (4, .ref q65), (3, .ref (a (2 + 2 * y.toNatClampNeg))), (0, .ref (a 0)), (1, .int y), (2, .int z)] → W p l e (Rm 7 188 5 50) s m args below meth c H locs (5) (50) Q (F0 m 146 ls []) := by
                      intro nn146
                      induction nn146 with
                      | zero => intro y7_146 y5_146 H locs hn7_146 hμ; exact absurd hμ (Nat.not_lt_zero _)
                      | succ nn146 ih146 =>
                        intro y7_146 y5_146 H locs hn7_146 hμ146 hR hB ls hl
                        replace hR := (D_X10_determinant_146_s).symm.trans hR
                        refine lv_iload hx hb dX10_determinant_146 (lv_at hl 0 rfl) ?_
                        refine lv_aload_n hx hb dX10_determinant_148 rfl (lv_at hl 3 rfl) ?_
                        refine gf (k0 := 2 + 2 * y.toNatClampNeg + 5) hX hB (mwG (i := y.toNatClampNeg) (a := a) (r := r) (f := f) (q := (va_up (va_up q 3 t32) 3 t84)) (T := tb a) (w := w) (by omega)) rfl in7 0 (by decide) wm_5_148 rfl rfl dX10_determinant_149 ?_
                        refine lv_icmp_ge (tgt := 178) hx hb dX10_determinant_152 (by decide) (fun c92 => ?_) (fun c92 => ?_)
                        · rw [nleP (a := r (2 * y.toNatClampNeg)) (b := y7_146) (by omega) (by omega)] at c92
                          replace hR := ifp c92 hR
                          refine lv_lload hx hb dX10_determinant_178 (lv_at hl 1 rfl) ?_
                          refine lv_l2i hx hb dX10_determinant_180 rfl ?_
                          replace hB : Bd κ A s (lA κ b67 ((r (2 * y.toNatClampNeg)) * 5) F70 :: gO g66 (r (2 * y.toNatClampNeg)) (r (2 * y.toNatClampNeg)) b67 :: lA κ b69 ((r (2 * y.toNatClampNeg)) * 5) F71 :: gO g68 (r (2 * y.toNatClampNeg)) (r (2 * y.toNatClampNeg + 1)) b69 :: mw κ a r f (va_up (va_up q 3 t32) 3 t84) (tb a) w) H locs := Bd_del 4 hB
                          replace hB : Bd κ A s (lA κ b67 ((r (2 * y.toNatClampNeg)) * 5) F70 :: gO g66 (r (2 * y.toNatClampNeg)) (r (2 * y.toNatClampNeg)) b67 :: lA κ b69 ((r (2 * y.toNatClampNeg)) * 5) F71 :: mw κ a r f (va_up (va_up q 3 t32) 3 t84) (tb a) w) H locs := Bd_del 3 hB
                          replace hB : Bd κ A s (lA κ b67 ((r (2 * y.toNatClampNeg)) * 5) F70 :: gO g66 (r (2 * y.toNatClampNeg)) (r (2 * y.toNatClampNeg)) b67 :: mw κ a r f (va_up (va_up q 3 t32) 3 t84) (tb a) w) H locs := Bd_del 2 hB
                          replace hB : Bd κ A s (lA κ b67 ((r (2 * y.toNatClampNeg)) * 5) F70 :: mw κ a r f (va_up (va_up q 3 t32) 3 t84) (tb a) w) H locs := Bd_del 1 hB
                          replace hB : Bd κ A s (mw κ a r f (va_up (va_up q 3 t32) 3 t84) (tb a) w) H locs := Bd_del 0 hB
                          rw [← hQ]
                          exact end_i hX hB hA3 rfl rfl (by obtain ⟨rfl, rfl⟩ := pr2 hR; exact ⟨rfl, ⟨rfl, rfl, rfl⟩, rfl⟩) (Nat.le_of_ble_eq_true rfl) (Nat.le_of_ble_eq_true rfl) dX10_determinant_181
                        · rw [nleP (a := r (2 * y.toNatClampNeg)) (b := y7_146) (by omega) (by omega)] at c92
                          replace hR := ifn c92 hR
                          refine lv_lload hx hb dX10_determinant_155 (lv_at hl 1 rfl) ?_
                          refine lv_aload hx hb dX10_determinant_157 (lv_at hl 2 rfl) ?_
                          refine gf (k0 := 4) hX hB rfl rfl in8 0 (by decide) wm_6_160 rfl rfl dX10_determinant_159 ?_
                          refine lv_iload hx hb dX10_determinant_162 (lv_at hl 0 rfl) ?_
                          refine lv_iload hx hb dX10_determinant_164 (lv_at hl 0 rfl) ?_
                          refine call_V (n := 2) (k0 := 3) (As := [.int (nI y7_146), .int (nI y7_146)]) (rest := [.long y5_146]) hX hB (k_X7_at κ l (lA κ b67 ((r (2 * y.toNatClampNeg)) * 5) F70 :: gO g66 (r (2 * y.toNatClampNeg)) (r (2 * y.toNatClampNeg)) b67 :: lA κ b69 ((r (2 * y.toNatClampNeg)) * 5) F71 :: gO g68 (r (2 * y.toNatClampNeg)) (r (2 * y.toNatClampNeg + 1)) b69 :: (q65, .inr (9, [.ref g68, .ref g66, .int S72, .int G73])) :: mw κ a r f (va_up (va_up q 3 t32) 3 t84) (tb a) w) 3 2 g68 b69 (r (2 * y.toNatClampNeg)) (r (2 * y.toNatClampNeg + 1)) F71 (nI y7_146) y7_146 (nI y7_146) y7_146 rfl rfl (mok_shp (i := y.toNatClampNeg) hm (by omega)) rfl rfl (by omega)) ⟨rfl, yk_X7_at⟩ wm_5_237 wm_5_238 wm_5_239 wm_1_7 wm_6_0 ⟨Nat.le_of_ble_eq_true rfl, Nat.le_of_ble_eq_true rfl⟩ ⟨Nat.le_of_ble_eq_true rfl, Nat.le_of_ble_eq_true rfl⟩ rfl rfl rfl rfl hl.1 rfl (Nat.le_of_ble_eq_true rfl) dX10_determinant_166 (fun o w' H locs hp hB => ?_)
                          obtain ⟨rfl, hw9⟩ := hp
                          replace hB : Bd κ A s (lA κ b67 ((r (2 * y.toNatClampNeg)) * 5) F70 :: gO g66 (r (2 * y.toNatClampNeg)) (r (2 * y.toNatClampNeg)) b67 :: lA κ b69 ((r (2 * y.toNatClampNeg)) * 5) F71 :: gO g68 (r (2 * y.toNatClampNeg)) (r (2 * y.toNatClampNeg + 1)) b69 :: (q65, .inr (9, [.ref g68, .ref g66, .int S72, .int G73])) :: mw κ a r f (va_up (va_up q 3 t32) 3 t84) (tb a) w) H locs := by rw [hw9] at hB; exact hB
                          refine W.eq (g2 := F0 m 169 ls [.long (F71 (y7_146 * 5 + y7_146)), .long y5_146]) rfl ?_
                          refine lv_lmul hx hb dX10_determinant_169 ?_
                          refine lv_lstore (lv' := [(5, .long (y5_146 * (F71 (y7_146 * 5 + y7_146)))), (7, .int (nI y7_146)), (4, .ref q65), (3, .ref (a (2 + 2 * y.toNatClampNeg))), (0, .ref (a 0)), (1, .int y), (2, .int z)]) hx hb dX10_determinant_170 hl (by decide) rfl (fun ls hl => ?_)
                          refine lv_iinc (v := nI (y7_146 + 1)) (lv' := [(7, .int (nI (y7_146 + 1))), (5, .long (y5_146 * (F71 (y7_146 * 5 + y7_146)))), (4, .ref q65), (3, .ref (a (2 + 2 * y.toNatClampNeg))), (0, .ref (a 0)), (1, .int y), (2, .int z)]) hx hb dX10_determinant_172 hl (k := 1) rfl (nI_add y7_146 1) (by decide) rfl (fun ls hl => ?_)
                          refine lv_goto (tgt := 146) hx hb dX10_determinant_175 (by decide) ?_
                          exact ih146 (y7_146 + 1) (y5_146 * (F71 (y7_146 * 5 + y7_146))) _ _ (by omega) (by omega) hR hB _ hl
                    exact lp146 _ 0 ((S72).toInt64) _ _ (by omega) (Nat.lt_succ_self _) hR hB _ hl
                  · replace hR := ifp c89 hR
                    refine lv_aload_n hx hb dX10_determinant_127 rfl (lv_at hl 1 rfl) ?_
                    refine lv_iconst (v := 0) hx hb dX10_determinant_128 (by decide) ?_
                    refine lv_iconst (v := 0) hx hb dX10_determinant_129 (by decide) ?_
                    refine call_S (n := 3) (As := [.ref (a (2 + 2 * y.toNatClampNeg)), .int 0, .int 0]) (rest := []) hX hB (k_X10_bySequences κ l (lA κ b67 ((r (2 * y.toNatClampNeg)) * 5) F70 :: gO g66 (r (2 * y.toNatClampNeg)) (r (2 * y.toNatClampNeg)) b67 :: lA κ b69 ((r (2 * y.toNatClampNeg)) * 5) F71 :: gO g68 (r (2 * y.toNatClampNeg)) (r (2 * y.toNatClampNeg + 1)) b69 :: (q65, .inr (9, [.ref g68, .ref g66, .int S72, .int G73])) :: mw κ a r f (va_up (va_up q 3 t32) 3 t84) (tb a) w) (2 + 2 * y.toNatClampNeg + 5) (3 + 2 * y.toNatClampNeg + 5) (a (2 + 2 * y.toNatClampNeg)) (a (3 + 2 * y.toNatClampNeg)) (r (2 * y.toNatClampNeg)) (r (2 * y.toNatClampNeg + 1)) (f y.toNatClampNeg) 0 0 0 (mwG (i := y.toNatClampNeg) (a := a) (r := r) (f := f) (q := (va_up (va_up q 3 t32) 3 t84)) (T := tb a) (w := w) (by omega)) (mwA (i := y.toNatClampNeg) (a := a) (r := r) (f := f) (q := (va_up (va_up q 3 t32) 3 t84)) (T := tb a) (w := w) (by omega)) (mok_shp (i := y.toNatClampNeg) hm (by omega)) rfl (by omega)) yk_X10_bySequences wm_7_88 wm_7_89 wm_1_6 wm_7_90 ⟨Nat.le_of_ble_eq_true rfl, Nat.le_of_ble_eq_true rfl⟩ ⟨Nat.le_of_ble_eq_true rfl, Nat.le_of_ble_eq_true rfl⟩ rfl hl.1 rfl (Nat.le_of_ble_eq_true rfl) dX10_determinant_130 (fun o w' H locs hp hB => ?_)
                    obtain ⟨rfl, hw9⟩ := hp
                    replace hB : Bd κ A s (lA κ b67 ((r (2 * y.toNatClampNeg)) * 5) F70 :: gO g66 (r (2 * y.toNatClampNeg)) (r (2 * y.toNatClampNeg)) b67 :: lA κ b69 ((r (2 * y.toNatClampNeg)) * 5) F71 :: gO g68 (r (2 * y.toNatClampNeg)) (r (2 * y.toNatClampNeg + 1)) b69 :: (q65, .inr (9, [.ref g68, .ref g66, .int S72, .int G73])) :: mw κ a r f (va_up (va_up q 3 t32) 3 t84) (tb a) w) H locs := by rw [hw9] at hB; exact hB
                    refine W.eq (g2 := F0 m 133 ls [.long (bsv (r (2 * y.toNatClampNeg)) (r (2 * y.toNatClampNeg + 1)) (f y.toNatClampNeg) 4 0 0)]) rfl ?_
                    refine lv_l2i hx hb dX10_determinant_133 rfl ?_
                    replace hB : Bd κ A s (lA κ b67 ((r (2 * y.toNatClampNeg)) * 5) F70 :: gO g66 (r (2 * y.toNatClampNeg)) (r (2 * y.toNatClampNeg)) b67 :: lA κ b69 ((r (2 * y.toNatClampNeg)) * 5) F71 :: gO g68 (r (2 * y.toNatClampNeg)) (r (2 * y.toNatClampNeg + 1)) b69 :: mw κ a r f (va_up (va_up q 3 t32) 3 t84) (tb a) w) H locs := Bd_del 4 hB
                    replace hB : Bd κ A s (lA κ b67 ((r (2 * y.toNatClampNeg)) * 5) F70 :: gO g66 (r (2 * y.toNatClampNeg)) (r (2 * y.toNatClampNeg)) b67 :: lA κ b69 ((r (2 * y.toNatClampNeg)) * 5) F71 :: mw κ a r f (va_up (va_up q 3 t32) 3 t84) (tb a) w) H locs := Bd_del 3 hB
                    replace hB : Bd κ A s (lA κ b67 ((r (2 * y.toNatClampNeg)) * 5) F70 :: gO g66 (r (2 * y.toNatClampNeg)) (r (2 * y.toNatClampNeg)) b67 :: mw κ a r f (va_up (va_up q 3 t32) 3 t84) (tb a) w) H locs := Bd_del 2 hB
                    replace hB : Bd κ A s (lA κ b67 ((r (2 * y.toNatClampNeg)) * 5) F70 :: mw κ a r f (va_up (va_up q 3 t32) 3 t84) (tb a) w) H locs := Bd_del 1 hB
                    replace hB : Bd κ A s (mw κ a r f (va_up (va_up q 3 t32) 3 t84) (tb a) w) H locs := Bd_del 0 hB
                    rw [← hQ]
                    exact end_i hX hB hA3 rfl rfl (by obtain ⟨rfl, rfl⟩ := pr2 hR; exact ⟨rfl, ⟨rfl, rfl, rfl⟩, rfl⟩) (Nat.le_of_ble_eq_true rfl) (Nat.le_of_ble_eq_true rfl) dX10_determinant_134
                · replace hR := ifp c88 hR
                  refine lv_aload_n hx hb dX10_determinant_116 rfl (lv_at hl 1 rfl) ?_
                  refine call_S (n := 1) (As := [.ref (a (2 + 2 * y.toNatClampNeg))]) (rest := []) hX hB (k_X10_determinantOf κ l (lA κ b67 ((r (2 * y.toNatClampNeg)) * 5) F70 :: gO g66 (r (2 * y.toNatClampNeg)) (r (2 * y.toNatClampNeg)) b67 :: lA κ b69 ((r (2 * y.toNatClampNeg)) * 5) F71 :: gO g68 (r (2 * y.toNatClampNeg)) (r (2 * y.toNatClampNeg + 1)) b69 :: (q65, .inr (9, [.ref g68, .ref g66, .int S72, .int G73])) :: mw κ a r f (va_up (va_up q 3 t32) 3 t84) (tb a) w) (2 + 2 * y.toNatClampNeg + 5) (3 + 2 * y.toNatClampNeg + 5) (a (2 + 2 * y.toNatClampNeg)) (a (3 + 2 * y.toNatClampNeg)) (r (2 * y.toNatClampNeg)) (r (2 * y.toNatClampNeg + 1)) (f y.toNatClampNeg) (mwG (i := y.toNatClampNeg) (a := a) (r := r) (f := f) (q := (va_up (va_up q 3 t32) 3 t84)) (T := tb a) (w := w) (by omega)) (mwA (i := y.toNatClampNeg) (a := a) (r := r) (f := f) (q := (va_up (va_up q 3 t32) 3 t84)) (T := tb a) (w := w) (by omega)) (mok_shp (i := y.toNatClampNeg) hm (by omega)) (by omega)) yk_X10_determinantOf wm_7_76 wm_7_77 wm_1_6 wm_7_78 ⟨Nat.le_of_ble_eq_true rfl, Nat.le_of_ble_eq_true rfl⟩ ⟨Nat.le_of_ble_eq_true rfl, Nat.le_of_ble_eq_true rfl⟩ rfl hl.1 rfl (Nat.le_of_ble_eq_true rfl) dX10_determinant_117 (fun o w' H locs hp hB => ?_)
                  obtain ⟨rfl, hw9⟩ := hp
                  replace hB : Bd κ A s (lA κ b67 ((r (2 * y.toNatClampNeg)) * 5) F70 :: gO g66 (r (2 * y.toNatClampNeg)) (r (2 * y.toNatClampNeg)) b67 :: lA κ b69 ((r (2 * y.toNatClampNeg)) * 5) F71 :: gO g68 (r (2 * y.toNatClampNeg)) (r (2 * y.toNatClampNeg + 1)) b69 :: (q65, .inr (9, [.ref g68, .ref g66, .int S72, .int G73])) :: mw κ a r f (va_up (va_up q 3 t32) 3 t84) (tb a) w) H locs := by rw [hw9] at hB; exact hB
                  refine W.eq (g2 := F0 m 120 ls [.long (mnv (f y.toNatClampNeg) (r (2 * y.toNatClampNeg + 1)) (r (2 * y.toNatClampNeg)) (2 ^ (r (2 * y.toNatClampNeg)) - 1) (2 ^ (r (2 * y.toNatClampNeg + 1)) - 1))]) rfl ?_
                  refine lv_l2i hx hb dX10_determinant_120 rfl ?_
                  replace hB : Bd κ A s (lA κ b67 ((r (2 * y.toNatClampNeg)) * 5) F70 :: gO g66 (r (2 * y.toNatClampNeg)) (r (2 * y.toNatClampNeg)) b67 :: lA κ b69 ((r (2 * y.toNatClampNeg)) * 5) F71 :: gO g68 (r (2 * y.toNatClampNeg)) (r (2 * y.toNatClampNeg + 1)) b69 :: mw κ a r f (va_up (va_up q 3 t32) 3 t84) (tb a) w) H locs := Bd_del 4 hB
                  replace hB : Bd κ A s (lA κ b67 ((r (2 * y.toNatClampNeg)) * 5) F70 :: gO g66 (r (2 * y.toNatClampNeg)) (r (2 * y.toNatClampNeg)) b67 :: lA κ b69 ((r (2 * y.toNatClampNeg)) * 5) F71 :: mw κ a r f (va_up (va_up q 3 t32) 3 t84) (tb a) w) H locs := Bd_del 3 hB
                  replace hB : Bd κ A s (lA κ b67 ((r (2 * y.toNatClampNeg)) * 5) F70 :: gO g66 (r (2 * y.toNatClampNeg)) (r (2 * y.toNatClampNeg)) b67 :: mw κ a r f (va_up (va_up q 3 t32) 3 t84) (tb a) w) H locs := Bd_del 2 hB
                  replace hB : Bd κ A s (lA κ b67 ((r (2 * y.toNatClampNeg)) * 5) F70 :: mw κ a r f (va_up (va_up q 3 t32) 3 t84) (tb a) w) H locs := Bd_del 1 hB
                  replace hB : Bd κ A s (mw κ a r f (va_up (va_up q 3 t32) 3 t84) (tb a) w) H locs := Bd_del 0 hB
                  rw [← hQ]
                  exact end_i hX hB hA3 rfl rfl (by obtain ⟨rfl, rfl⟩ := pr2 hR; exact ⟨rfl, ⟨rfl, rfl, rfl⟩, rfl⟩) (Nat.le_of_ble_eq_true rfl) (Nat.le_of_ble_eq_true rfl) dX10_determinant_121
              · replace hR := ifn c82 hR
                refine lv_iconst (v := 1) hx hb dX10_determinant_99 (by decide) ?_
                refine lv_goto (tgt := 104) hx hb dX10_determinant_100 (by decide) ?_
                obtain ⟨x93, t94, hd95⟩ := ex2 (D_X10_isThrown ((va_up q 3 t32) 0) ((va_up q 3 t32) 1) ((va_up q 3 t32) 2) ((va_up q 3 t32) 3) 0 0 1)
                replace hR := bnd2_use hd95 hR
                refine call_V (n := 3) (k0 := 5) (As := [.int 0, .int 0, .int 1]) (rest := []) hX hB (k_X10_isThrown κ l (lA κ b67 ((r (2 * y.toNatClampNeg)) * 5) F70 :: gO g66 (r (2 * y.toNatClampNeg)) (r (2 * y.toNatClampNeg)) b67 :: lA κ b69 ((r (2 * y.toNatClampNeg)) * 5) F71 :: gO g68 (r (2 * y.toNatClampNeg)) (r (2 * y.toNatClampNeg + 1)) b69 :: (q65, .inr (9, [.ref g68, .ref g66, .int S72, .int G73])) :: mw κ a r f (va_up q 3 t32) (tb a) w) 5 (a 0) (a 1) ((va_up q 3 t32) 0) ((va_up q 3 t32) 1) ((va_up q 3 t32) 2) ((va_up q 3 t32) 3) 0 0 1 (mw0x (a := a) (r := r) (f := f) (q := (va_up q 3 t32)) (T := tb a) (w := w) rfl) x93 t94 hd95) ⟨rfl, yk_X10_isThrown⟩ wm_5_196 wm_5_198 wp_28 wm_1_6 wm_5_199 ⟨Nat.le_of_ble_eq_true rfl, Nat.le_of_ble_eq_true rfl⟩ ⟨Nat.le_of_ble_eq_true rfl, Nat.le_of_ble_eq_true rfl⟩ (mw0x (a := a) (r := r) (f := f) (q := (va_up q 3 t32)) (T := tb a) (w := w) rfl) rfl rfl rfl hl.1 rfl (Nat.le_of_ble_eq_true rfl) dX10_determinant_104 (fun o w' H locs hp hB => ?_)
                obtain ⟨rfl, hf96, hw9⟩ := hp
                replace hB : Bd κ A s (lA κ b67 ((r (2 * y.toNatClampNeg)) * 5) F70 :: gO g66 (r (2 * y.toNatClampNeg)) (r (2 * y.toNatClampNeg)) b67 :: lA κ b69 ((r (2 * y.toNatClampNeg)) * 5) F71 :: gO g68 (r (2 * y.toNatClampNeg)) (r (2 * y.toNatClampNeg + 1)) b69 :: (q65, .inr (9, [.ref g68, .ref g66, .int S72, .int G73])) :: mw κ a r f (va_up (va_up q 3 t32) 3 t94) (tb a) w) H locs := by exact Bd_eq (congrArg (List.cons _) (congrArg (List.cons _) (congrArg (List.cons _) (congrArg (List.cons _) (congrArg (List.cons _) (mwQ3x rfl _)))))) (by rw [hw9] at hB; exact hB)
                obtain rfl : x93 = 1 := hf96.trans (by decide)
                refine W.eq (g2 := F0 m 107 ls [.int 1]) rfl ?_
                refine lv_if_eq (tgt := 112) hx hb dX10_determinant_107 (by decide) (fun c97 => False.elim (by revert c97; decide)) (fun _ => ?_)
                refine lv_iconst (v := 0) hx hb dX10_determinant_110 (by decide) ?_
                replace hB : Bd κ A s (lA κ b67 ((r (2 * y.toNatClampNeg)) * 5) F70 :: gO g66 (r (2 * y.toNatClampNeg)) (r (2 * y.toNatClampNeg)) b67 :: lA κ b69 ((r (2 * y.toNatClampNeg)) * 5) F71 :: gO g68 (r (2 * y.toNatClampNeg)) (r (2 * y.toNatClampNeg + 1)) b69 :: mw κ a r f (va_up (va_up q 3 t32) 3 t94) (tb a) w) H locs := Bd_del 4 hB
                replace hB : Bd κ A s (lA κ b67 ((r (2 * y.toNatClampNeg)) * 5) F70 :: gO g66 (r (2 * y.toNatClampNeg)) (r (2 * y.toNatClampNeg)) b67 :: lA κ b69 ((r (2 * y.toNatClampNeg)) * 5) F71 :: mw κ a r f (va_up (va_up q 3 t32) 3 t94) (tb a) w) H locs := Bd_del 3 hB
                replace hB : Bd κ A s (lA κ b67 ((r (2 * y.toNatClampNeg)) * 5) F70 :: gO g66 (r (2 * y.toNatClampNeg)) (r (2 * y.toNatClampNeg)) b67 :: mw κ a r f (va_up (va_up q 3 t32) 3 t94) (tb a) w) H locs := Bd_del 2 hB
                replace hB : Bd κ A s (lA κ b67 ((r (2 * y.toNatClampNeg)) * 5) F70 :: mw κ a r f (va_up (va_up q 3 t32) 3 t94) (tb a) w) H locs := Bd_del 1 hB
                replace hB : Bd κ A s (mw κ a r f (va_up (va_up q 3 t32) 3 t94) (tb a) w) H locs := Bd_del 0 hB
                rw [← hQ]
                exact end_i hX hB hA3 rfl rfl (by obtain ⟨rfl, rfl⟩ := pr2 hR; exact ⟨rfl, ⟨rfl, rfl, rfl⟩, rfl⟩) (Nat.le_of_ble_eq_true rfl) (Nat.le_of_ble_eq_true rfl) dX10_determinant_111
      · replace hR := ifn c30 hR
        refine lv_iconst (v := 1) hx hb dX10_determinant_22 (by decide) ?_
        refine lv_goto (tgt := 27) hx hb dX10_determinant_23 (by decide) ?_
        obtain ⟨x98, t99, hd100⟩ := ex2 (D_X10_isThrown_ (q 0) (q 1) (q 2) (q 3) 0 1)
        replace hR := bnd2_use hd100 hR
        refine call_V (n := 2) (k0 := 0) (As := [.int 0, .int 1]) (rest := []) hX hB (k_X10_isThrown_ κ l (mw κ a r f q (tb a) w) 0 (a 0) (a 1) (q 0) (q 1) (q 2) (q 3) 0 1 (mw0x (a := a) (r := r) (f := f) (q := q) (T := tb a) (w := w) rfl) x98 t99 hd100) ⟨rfl, yk_X10_isThrown_⟩ wm_5_192 wm_5_194 wp_27 wm_1_6 wm_5_195 ⟨Nat.le_of_ble_eq_true rfl, Nat.le_of_ble_eq_true rfl⟩ ⟨Nat.le_of_ble_eq_true rfl, Nat.le_of_ble_eq_true rfl⟩ (mw0x (a := a) (r := r) (f := f) (q := q) (T := tb a) (w := w) rfl) rfl rfl rfl hl.1 rfl (Nat.le_of_ble_eq_true rfl) dX10_determinant_27 (fun o w' H locs hp hB => ?_)
        obtain ⟨rfl, hf101, hw9⟩ := hp
        replace hB : Bd κ A s (mw κ a r f (va_up q 3 t99) (tb a) w) H locs := by exact Bd_eq (mwQ3x rfl _) (by rw [hw9] at hB; exact hB)
        obtain rfl : x98 = 1 := hf101.trans (by decide)
        refine W.eq (g2 := F0 m 30 ls [.int 1]) rfl ?_
        refine lv_if_eq (tgt := 35) hx hb dX10_determinant_30 (by decide) (fun c102 => False.elim (by revert c102; decide)) (fun _ => ?_)
        refine lv_iconst (v := 0) hx hb dX10_determinant_33 (by decide) ?_
        rw [← hQ]
        exact end_i hX hB hA3 rfl rfl (by obtain ⟨rfl, rfl⟩ := pr2 hR; exact ⟨rfl, ⟨rfl, rfl, rfl⟩, rfl⟩) (Nat.le_of_ble_eq_true rfl) (Nat.le_of_ble_eq_true rfl) dX10_determinant_34
noncomputable def D_X10_minor (r : Nat → Nat) (f : Nat → Nat → Int64) (q : Nat → Int32) (y : Int32) (z : Int32) (u : Int32) : Int32 × (Nat → Int32) := bnd1 (D_X10_isTable y) (fun (z1 : Int32) => (if z1 = 0 then bnd2 (D_X10_isThrown__ (q 0) (q 1) (q 2) (q 3) 1) (fun (x6 : Int32) (t7 : Int32) => (0, va_up q 3 t7)) else bnd2 (D_X10_isThrown__ (q 0) (q 1) (q 2) (q 3) 0) (fun (x12 : Int32) (t13 : Int32) => (if z < 1 then bnd2 (D_X10_isThrown_ ((va_up q 3 t13) 0) ((va_up q 3 t13) 1) ((va_up q 3 t13) 2) ((va_up q 3 t13) 3) 0 1) (fun (x19 : Int32) (t20 : Int32) => (0, va_up (va_up q 3 t13) 3 t20)) else (if u < 1 then bnd2 (D_X10_isThrown_ ((va_up q 3 t13) 0) ((va_up q 3 t13) 1) ((va_up q 3 t13) 2) ((va_up q 3 t13) 3) 0 1) (fun (x25 : Int32) (t26 : Int32) => (0, va_up (va_up q 3 t13) 3 t26)) else (if (z >>> ((nI (r (2 * y.toNatClampNeg))) &&& 31)) = 0 then (if (u >>> ((nI (r (2 * y.toNatClampNeg + 1))) &&& 31)) = 0 then nm ((bcE z) : Int32) (fun (x42 : Int32) => nm ((bcE u) : Int32) (fun (x43 : Int32) => (if x42 = x43 then bnd2 (D_X10_isThrown_ ((va_up q 3 t13) 0) ((va_up q 3 t13) 1) ((va_up q 3 t13) 2) ((va_up q 3 t13) 3) 0 0) (fun (x45 : Int32) (t46 : Int32) => nm (z.toNatClampNeg) (fun (zx : Nat) => nm (u.toNatClampNeg) (fun (ux : Nat) => (((mnv (f y.toNatClampNeg) (r (2 * y.toNatClampNeg + 1)) (pc5 zx) zx ux)).toInt32, va_up (va_up q 3 t13) 3 t46)))) else bnd2 (D_X10_isThrown_ ((va_up q 3 t13) 0) ((va_up q 3 t13) 1) ((va_up q 3 t13) 2) ((va_up q 3 t13) 3) 0 1) (fun (x50 : Int32) (t51 : Int32) => (0, va_up (va_up q 3 t13) 3 t51))))) else bnd2 (D_X10_isThrown_ ((va_up q 3 t13) 0) ((va_up q 3 t13) 1) ((va_up q 3 t13) 2) ((va_up q 3 t13) 3) 0 1) (fun (x37 : Int32) (t38 : Int32) => (0, va_up (va_up q 3 t13) 3 t38))) else bnd2 (D_X10_isThrown_ ((va_up q 3 t13) 0) ((va_up q 3 t13) 1) ((va_up q 3 t13) 2) ((va_up q 3 t13) 3) 0 1) (fun (x31 : Int32) (t32 : Int32) => (0, va_up (va_up q 3 t13) 3 t32))))))))
theorem D_X10_minor_s {r : Nat → Nat} {f : Nat → Nat → Int64} {q : Nat → Int32} {y : Int32} {z : Int32} {u : Int32} : D_X10_minor r f q y z u = bnd1 (D_X10_isTable y) (fun (z1 : Int32) => (if z1 = 0 then bnd2 (D_X10_isThrown__ (q 0) (q 1) (q 2) (q 3) 1) (fun (x6 : Int32) (t7 : Int32) => (0, va_up q 3 t7)) else bnd2 (D_X10_isThrown__ (q 0) (q 1) (q 2) (q 3) 0) (fun (x12 : Int32) (t13 : Int32) => (if z < 1 then bnd2 (D_X10_isThrown_ ((va_up q 3 t13) 0) ((va_up q 3 t13) 1) ((va_up q 3 t13) 2) ((va_up q 3 t13) 3) 0 1) (fun (x19 : Int32) (t20 : Int32) => (0, va_up (va_up q 3 t13) 3 t20)) else (if u < 1 then bnd2 (D_X10_isThrown_ ((va_up q 3 t13) 0) ((va_up q 3 t13) 1) ((va_up q 3 t13) 2) ((va_up q 3 t13) 3) 0 1) (fun (x25 : Int32) (t26 : Int32) => (0, va_up (va_up q 3 t13) 3 t26)) else (if (z >>> ((nI (r (2 * y.toNatClampNeg))) &&& 31)) = 0 then (if (u >>> ((nI (r (2 * y.toNatClampNeg + 1))) &&& 31)) = 0 then nm ((bcE z) : Int32) (fun (x42 : Int32) => nm ((bcE u) : Int32) (fun (x43 : Int32) => (if x42 = x43 then bnd2 (D_X10_isThrown_ ((va_up q 3 t13) 0) ((va_up q 3 t13) 1) ((va_up q 3 t13) 2) ((va_up q 3 t13) 3) 0 0) (fun (x45 : Int32) (t46 : Int32) => nm (z.toNatClampNeg) (fun (zx : Nat) => nm (u.toNatClampNeg) (fun (ux : Nat) => (((mnv (f y.toNatClampNeg) (r (2 * y.toNatClampNeg + 1)) (pc5 zx) zx ux)).toInt32, va_up (va_up q 3 t13) 3 t46)))) else bnd2 (D_X10_isThrown_ ((va_up q 3 t13) 0) ((va_up q 3 t13) 1) ((va_up q 3 t13) 2) ((va_up q 3 t13) 3) 0 1) (fun (x50 : Int32) (t51 : Int32) => (0, va_up (va_up q 3 t13) 3 t51))))) else bnd2 (D_X10_isThrown_ ((va_up q 3 t13) 0) ((va_up q 3 t13) 1) ((va_up q 3 t13) 2) ((va_up q 3 t13) 3) 0 1) (fun (x37 : Int32) (t38 : Int32) => (0, va_up (va_up q 3 t13) 3 t38))) else bnd2 (D_X10_isThrown_ ((va_up q 3 t13) 0) ((va_up q 3 t13) 1) ((va_up q 3 t13) 2) ((va_up q 3 t13) 3) 0 1) (fun (x31 : Int32) (t32 : Int32) => (0, va_up (va_up q 3 t13) 3 t32)))))))) := rfl
set_option maxHeartbeats 4000000 in
set_option maxRecDepth 100000 in
theorem k_X10_minor (κ : Kt) (l : Launch) (w : va_W) (a r : Nat → Nat) (f : Nat → Nat → Int64) (q : Nat → Int32) (y : Int32) (z : Int32) (u : Int32) (hm : mok r f) (o_x : Int32) (o_q' : Nat → Int32) (hR : D_X10_minor r f q y z u = (o_x, o_q')) : CM κ l yX10_minor cX10_minor 5 (some .int) 6 168 0 0 [.ref (a 0), .int y, .int z, .int u] (mw κ a r f q (tb a) w) (fun o w' => o = some (.int o_x) ∧ (o_q' 2 = q 2 ∧ o_q' 0 = q 0 ∧ o_q' 1 = q 1) ∧ w' = mw κ a r f o_q' (tb a) w) := by
  refine CM_begin (plainFor_of_name pn_RX10) (Nat.le_of_ble_eq_true rfl) ?_
  intro p e s m args below meth c A Q hX hnm hA3 hQ hB ls hl
  have hx := hX.1.1
  have hb := hX.1.2.1
  have hl : lv_has ls 5 [(0, .ref (a 0)), (1, .int y), (2, .int z), (3, .int u)] := hl
  replace hR := (D_X10_minor_s).symm.trans hR
  refine lv_aload_n hx hb dX10_minor_0 rfl (lv_at hl 0 rfl) ?_
  refine lv_iload_n hx hb dX10_minor_1 rfl (lv_at hl 1 rfl) ?_
  obtain ⟨z1, hd2⟩ := ex1 (D_X10_isTable y)
  replace hR := bnd1_use hd2 hR
  refine call_S (n := 1) (As := [.int y]) (rest := [.ref (a 0)]) hX hB (k_X10_isTable κ l (mw κ a r f q (tb a) w) y z1 hd2) yk_X10_isTable wm_5_186 wm_5_187 wm_1_6 wm_5_188 ⟨Nat.le_of_ble_eq_true rfl, Nat.le_of_ble_eq_true rfl⟩ ⟨Nat.le_of_ble_eq_true rfl, Nat.le_of_ble_eq_true rfl⟩ rfl hl.1 rfl (Nat.le_of_ble_eq_true rfl) dX10_minor_2 (fun o w' H locs hp hB => ?_)
  obtain ⟨rfl, hf3, hw9⟩ := hp
  replace hB : Bd κ A s (mw κ a r f q (tb a) w) H locs := by rw [hw9] at hB; exact hB
  rcases hf3 with rfl | ⟨rfl, hz4a, hz4b⟩
  · replace hR := ifp rfl hR
    refine W.eq (g2 := F0 m 5 ls [.int 0, .ref (a 0)]) rfl ?_
    refine lv_if_ne (tgt := 12) hx hb dX10_minor_5 (by decide) (fun c5 => False.elim (by revert c5; decide)) (fun _ => ?_)
    refine lv_iconst (v := 1) hx hb dX10_minor_8 (by decide) ?_
    refine lv_goto (tgt := 13) hx hb dX10_minor_9 (by decide) ?_
    obtain ⟨x6, t7, hd8⟩ := ex2 (D_X10_isThrown__ (q 0) (q 1) (q 2) (q 3) 1)
    replace hR := bnd2_use hd8 hR
    refine call_V (n := 1) (k0 := 0) (As := [.int 1]) (rest := []) hX hB (k_X10_isThrown__ κ l (mw κ a r f q (tb a) w) 0 (a 0) (a 1) (q 0) (q 1) (q 2) (q 3) 1 (mw0x (a := a) (r := r) (f := f) (q := q) (T := tb a) (w := w) rfl) x6 t7 hd8) ⟨rfl, yk_X10_isThrown__⟩ wm_6_15 wm_6_17 wp_33 wm_1_6 wm_6_18 ⟨Nat.le_of_ble_eq_true rfl, Nat.le_of_ble_eq_true rfl⟩ ⟨Nat.le_of_ble_eq_true rfl, Nat.le_of_ble_eq_true rfl⟩ (mw0x (a := a) (r := r) (f := f) (q := q) (T := tb a) (w := w) rfl) rfl rfl rfl hl.1 rfl (Nat.le_of_ble_eq_true rfl) dX10_minor_13 (fun o w' H locs hp hB => ?_)
    obtain ⟨rfl, hf9, hw9⟩ := hp
    replace hB : Bd κ A s (mw κ a r f (va_up q 3 t7) (tb a) w) H locs := by exact Bd_eq (mwQ3x rfl _) (by rw [hw9] at hB; exact hB)
    obtain rfl : x6 = 1 := hf9.trans (by decide)
    refine W.eq (g2 := F0 m 16 ls [.int 1]) rfl ?_
    refine lv_if_eq (tgt := 21) hx hb dX10_minor_16 (by decide) (fun c10 => False.elim (by revert c10; decide)) (fun _ => ?_)
    refine lv_iconst (v := 0) hx hb dX10_minor_19 (by decide) ?_
    rw [← hQ]
    exact end_i hX hB hA3 rfl rfl (by obtain ⟨rfl, rfl⟩ := pr2 hR; exact ⟨rfl, ⟨rfl, rfl, rfl⟩, rfl⟩) (Nat.le_of_ble_eq_true rfl) (Nat.le_of_ble_eq_true rfl) dX10_minor_20
  · replace hR := ifn (by decide) hR
    refine W.eq (g2 := F0 m 5 ls [.int 1, .ref (a 0)]) rfl ?_
    refine lv_if_ne (tgt := 12) hx hb dX10_minor_5 (by decide) (fun _ => ?_) (fun c11 => False.elim (by revert c11; decide))
    refine lv_iconst (v := 0) hx hb dX10_minor_12 (by decide) ?_
    obtain ⟨x12, t13, hd14⟩ := ex2 (D_X10_isThrown__ (q 0) (q 1) (q 2) (q 3) 0)
    replace hR := bnd2_use hd14 hR
    refine call_V (n := 1) (k0 := 0) (As := [.int 0]) (rest := []) hX hB (k_X10_isThrown__ κ l (mw κ a r f q (tb a) w) 0 (a 0) (a 1) (q 0) (q 1) (q 2) (q 3) 0 (mw0x (a := a) (r := r) (f := f) (q := q) (T := tb a) (w := w) rfl) x12 t13 hd14) ⟨rfl, yk_X10_isThrown__⟩ wm_6_15 wm_6_17 wp_33 wm_1_6 wm_6_18 ⟨Nat.le_of_ble_eq_true rfl, Nat.le_of_ble_eq_true rfl⟩ ⟨Nat.le_of_ble_eq_true rfl, Nat.le_of_ble_eq_true rfl⟩ (mw0x (a := a) (r := r) (f := f) (q := q) (T := tb a) (w := w) rfl) rfl rfl rfl hl.1 rfl (Nat.le_of_ble_eq_true rfl) dX10_minor_13 (fun o w' H locs hp hB => ?_)
    obtain ⟨rfl, hf15, hw9⟩ := hp
    replace hB : Bd κ A s (mw κ a r f (va_up q 3 t13) (tb a) w) H locs := by exact Bd_eq (mwQ3x rfl _) (by rw [hw9] at hB; exact hB)
    obtain rfl : x12 = 0 := hf15.trans (by decide)
    refine W.eq (g2 := F0 m 16 ls [.int 0]) rfl ?_
    refine lv_if_eq (tgt := 21) hx hb dX10_minor_16 (by decide) (fun _ => ?_) (fun c16 => False.elim (by revert c16; decide))
    refine lv_aload_n hx hb dX10_minor_21 rfl (lv_at hl 0 rfl) ?_
    refine gf (k0 := 0) hX hB (mw0x (a := a) (r := r) (f := f) (q := (va_up q 3 t13)) (T := tb a) (w := w) rfl) rfl in10 0 (by decide) wm_5_162 rfl rfl dX10_minor_22 ?_
    refine lv_iload_n hx hb dX10_minor_25 rfl (lv_at hl 1 rfl) ?_
    refine aaldM (k0 := 1) hX hB (mw1 (a := a) (r := r) (f := f) (q := (va_up q 3 t13)) (T := tb a) (w := w)) (vp_in_mk (by assumption) (by assumption)) rfl dX10_minor_26 ?_
    have hb17 := mok_r hm y.toNatClampNeg (by omega)
    refine lv_astore (lv' := [(4, .ref (a (2 + 2 * y.toNatClampNeg))), (0, .ref (a 0)), (1, .int y), (2, .int z), (3, .int u)]) hx hb dX10_minor_27 hl (by decide) rfl (fun ls hl => ?_)
    refine lv_aload_n hx hb dX10_minor_29 rfl (lv_at hl 1 rfl) ?_
    refine lv_iconst (v := 0) hx hb dX10_minor_30 (by decide) ?_
    refine lv_iload_n hx hb dX10_minor_31 rfl (lv_at hl 3 rfl) ?_
    refine lv_iconst (v := 1) hx hb dX10_minor_32 (by decide) ?_
    refine lv_icmp_lt (tgt := 72) hx hb dX10_minor_33 (by decide) (fun c18 => ?_) (fun c18 => ?_)
    · replace hR := ifp c18 hR
      refine lv_iconst (v := 1) hx hb dX10_minor_72 (by decide) ?_
      refine lv_goto (tgt := 77) hx hb dX10_minor_73 (by decide) ?_
      obtain ⟨x19, t20, hd21⟩ := ex2 (D_X10_isThrown_ ((va_up q 3 t13) 0) ((va_up q 3 t13) 1) ((va_up q 3 t13) 2) ((va_up q 3 t13) 3) 0 1)
      replace hR := bnd2_use hd21 hR
      refine call_V (n := 2) (k0 := 0) (As := [.int 0, .int 1]) (rest := []) hX hB (k_X10_isThrown_ κ l (mw κ a r f (va_up q 3 t13) (tb a) w) 0 (a 0) (a 1) ((va_up q 3 t13) 0) ((va_up q 3 t13) 1) ((va_up q 3 t13) 2) ((va_up q 3 t13) 3) 0 1 (mw0x (a := a) (r := r) (f := f) (q := (va_up q 3 t13)) (T := tb a) (w := w) rfl) x19 t20 hd21) ⟨rfl, yk_X10_isThrown_⟩ wm_5_192 wm_5_194 wp_27 wm_1_6 wm_5_195 ⟨Nat.le_of_ble_eq_true rfl, Nat.le_of_ble_eq_true rfl⟩ ⟨Nat.le_of_ble_eq_true rfl, Nat.le_of_ble_eq_true rfl⟩ (mw0x (a := a) (r := r) (f := f) (q := (va_up q 3 t13)) (T := tb a) (w := w) rfl) rfl rfl rfl hl.1 rfl (Nat.le_of_ble_eq_true rfl) dX10_minor_77 (fun o w' H locs hp hB => ?_)
      obtain ⟨rfl, hf22, hw9⟩ := hp
      replace hB : Bd κ A s (mw κ a r f (va_up (va_up q 3 t13) 3 t20) (tb a) w) H locs := by exact Bd_eq (mwQ3x rfl _) (by rw [hw9] at hB; exact hB)
      obtain rfl : x19 = 1 := hf22.trans (by decide)
      refine W.eq (g2 := F0 m 80 ls [.int 1]) rfl ?_
      refine lv_if_eq (tgt := 85) hx hb dX10_minor_80 (by decide) (fun c23 => False.elim (by revert c23; decide)) (fun _ => ?_)
      refine lv_iconst (v := 0) hx hb dX10_minor_83 (by decide) ?_
      rw [← hQ]
      exact end_i hX hB hA3 rfl rfl (by obtain ⟨rfl, rfl⟩ := pr2 hR; exact ⟨rfl, ⟨rfl, rfl, rfl⟩, rfl⟩) (Nat.le_of_ble_eq_true rfl) (Nat.le_of_ble_eq_true rfl) dX10_minor_84
    · replace hR := ifn c18 hR
      refine lv_iload_n hx hb dX10_minor_36 rfl (lv_at hl 4 rfl) ?_
      refine lv_iconst (v := 1) hx hb dX10_minor_37 (by decide) ?_
      refine lv_icmp_lt (tgt := 72) hx hb dX10_minor_38 (by decide) (fun c24 => ?_) (fun c24 => ?_)
      · replace hR := ifp c24 hR
        refine lv_iconst (v := 1) hx hb dX10_minor_72 (by decide) ?_
        refine lv_goto (tgt := 77) hx hb dX10_minor_73 (by decide) ?_
        obtain ⟨x25, t26, hd27⟩ := ex2 (D_X10_isThrown_ ((va_up q 3 t13) 0) ((va_up q 3 t13) 1) ((va_up q 3 t13) 2) ((va_up q 3 t13) 3) 0 1)
        replace hR := bnd2_use hd27 hR
        refine call_V (n := 2) (k0 := 0) (As := [.int 0, .int 1]) (rest := []) hX hB (k_X10_isThrown_ κ l (mw κ a r f (va_up q 3 t13) (tb a) w) 0 (a 0) (a 1) ((va_up q 3 t13) 0) ((va_up q 3 t13) 1) ((va_up q 3 t13) 2) ((va_up q 3 t13) 3) 0 1 (mw0x (a := a) (r := r) (f := f) (q := (va_up q 3 t13)) (T := tb a) (w := w) rfl) x25 t26 hd27) ⟨rfl, yk_X10_isThrown_⟩ wm_5_192 wm_5_194 wp_27 wm_1_6 wm_5_195 ⟨Nat.le_of_ble_eq_true rfl, Nat.le_of_ble_eq_true rfl⟩ ⟨Nat.le_of_ble_eq_true rfl, Nat.le_of_ble_eq_true rfl⟩ (mw0x (a := a) (r := r) (f := f) (q := (va_up q 3 t13)) (T := tb a) (w := w) rfl) rfl rfl rfl hl.1 rfl (Nat.le_of_ble_eq_true rfl) dX10_minor_77 (fun o w' H locs hp hB => ?_)
        obtain ⟨rfl, hf28, hw9⟩ := hp
        replace hB : Bd κ A s (mw κ a r f (va_up (va_up q 3 t13) 3 t26) (tb a) w) H locs := by exact Bd_eq (mwQ3x rfl _) (by rw [hw9] at hB; exact hB)
        obtain rfl : x25 = 1 := hf28.trans (by decide)
        refine W.eq (g2 := F0 m 80 ls [.int 1]) rfl ?_
        refine lv_if_eq (tgt := 85) hx hb dX10_minor_80 (by decide) (fun c29 => False.elim (by revert c29; decide)) (fun _ => ?_)
        refine lv_iconst (v := 0) hx hb dX10_minor_83 (by decide) ?_
        rw [← hQ]
        exact end_i hX hB hA3 rfl rfl (by obtain ⟨rfl, rfl⟩ := pr2 hR; exact ⟨rfl, ⟨rfl, rfl, rfl⟩, rfl⟩) (Nat.le_of_ble_eq_true rfl) (Nat.le_of_ble_eq_true rfl) dX10_minor_84
      · replace hR := ifn c24 hR
        refine lv_iload_n hx hb dX10_minor_41 rfl (lv_at hl 3 rfl) ?_
        refine lv_aload hx hb dX10_minor_42 (lv_at hl 0 rfl) ?_
        refine gf (k0 := 2 + 2 * y.toNatClampNeg) hX hB (mwG (i := y.toNatClampNeg) (a := a) (r := r) (f := f) (q := (va_up q 3 t13)) (T := tb a) (w := w) (by omega)) rfl in7 0 (by decide) wm_5_148 rfl rfl dX10_minor_44 ?_
        refine lv_ishr hx hb dX10_minor_47 ?_
        refine lv_if_ne (tgt := 72) hx hb dX10_minor_48 (by decide) (fun c30 => ?_) (fun c30 => ?_)
        · replace hR := ifn c30 hR
          refine lv_iconst (v := 1) hx hb dX10_minor_72 (by decide) ?_
          refine lv_goto (tgt := 77) hx hb dX10_minor_73 (by decide) ?_
          obtain ⟨x31, t32, hd33⟩ := ex2 (D_X10_isThrown_ ((va_up q 3 t13) 0) ((va_up q 3 t13) 1) ((va_up q 3 t13) 2) ((va_up q 3 t13) 3) 0 1)
          replace hR := bnd2_use hd33 hR
          refine call_V (n := 2) (k0 := 0) (As := [.int 0, .int 1]) (rest := []) hX hB (k_X10_isThrown_ κ l (mw κ a r f (va_up q 3 t13) (tb a) w) 0 (a 0) (a 1) ((va_up q 3 t13) 0) ((va_up q 3 t13) 1) ((va_up q 3 t13) 2) ((va_up q 3 t13) 3) 0 1 (mw0x (a := a) (r := r) (f := f) (q := (va_up q 3 t13)) (T := tb a) (w := w) rfl) x31 t32 hd33) ⟨rfl, yk_X10_isThrown_⟩ wm_5_192 wm_5_194 wp_27 wm_1_6 wm_5_195 ⟨Nat.le_of_ble_eq_true rfl, Nat.le_of_ble_eq_true rfl⟩ ⟨Nat.le_of_ble_eq_true rfl, Nat.le_of_ble_eq_true rfl⟩ (mw0x (a := a) (r := r) (f := f) (q := (va_up q 3 t13)) (T := tb a) (w := w) rfl) rfl rfl rfl hl.1 rfl (Nat.le_of_ble_eq_true rfl) dX10_minor_77 (fun o w' H locs hp hB => ?_)
          obtain ⟨rfl, hf34, hw9⟩ := hp
          replace hB : Bd κ A s (mw κ a r f (va_up (va_up q 3 t13) 3 t32) (tb a) w) H locs := by exact Bd_eq (mwQ3x rfl _) (by rw [hw9] at hB; exact hB)
          obtain rfl : x31 = 1 := hf34.trans (by decide)
          refine W.eq (g2 := F0 m 80 ls [.int 1]) rfl ?_
          refine lv_if_eq (tgt := 85) hx hb dX10_minor_80 (by decide) (fun c35 => False.elim (by revert c35; decide)) (fun _ => ?_)
          refine lv_iconst (v := 0) hx hb dX10_minor_83 (by decide) ?_
          rw [← hQ]
          exact end_i hX hB hA3 rfl rfl (by obtain ⟨rfl, rfl⟩ := pr2 hR; exact ⟨rfl, ⟨rfl, rfl, rfl⟩, rfl⟩) (Nat.le_of_ble_eq_true rfl) (Nat.le_of_ble_eq_true rfl) dX10_minor_84
        · replace hR := ifp c30 hR
          refine lv_iload_n hx hb dX10_minor_51 rfl (lv_at hl 4 rfl) ?_
          refine lv_aload hx hb dX10_minor_52 (lv_at hl 0 rfl) ?_
          refine gf (k0 := 2 + 2 * y.toNatClampNeg) hX hB (mwG (i := y.toNatClampNeg) (a := a) (r := r) (f := f) (q := (va_up q 3 t13)) (T := tb a) (w := w) (by omega)) rfl in7 1 (by decide) wm_5_152 rfl rfl dX10_minor_54 ?_
          refine lv_ishr hx hb dX10_minor_57 ?_
          refine lv_if_ne (tgt := 72) hx hb dX10_minor_58 (by decide) (fun c36 => ?_) (fun c36 => ?_)
          · replace hR := ifn c36 hR
            refine lv_iconst (v := 1) hx hb dX10_minor_72 (by decide) ?_
            refine lv_goto (tgt := 77) hx hb dX10_minor_73 (by decide) ?_
            obtain ⟨x37, t38, hd39⟩ := ex2 (D_X10_isThrown_ ((va_up q 3 t13) 0) ((va_up q 3 t13) 1) ((va_up q 3 t13) 2) ((va_up q 3 t13) 3) 0 1)
            replace hR := bnd2_use hd39 hR
            refine call_V (n := 2) (k0 := 0) (As := [.int 0, .int 1]) (rest := []) hX hB (k_X10_isThrown_ κ l (mw κ a r f (va_up q 3 t13) (tb a) w) 0 (a 0) (a 1) ((va_up q 3 t13) 0) ((va_up q 3 t13) 1) ((va_up q 3 t13) 2) ((va_up q 3 t13) 3) 0 1 (mw0x (a := a) (r := r) (f := f) (q := (va_up q 3 t13)) (T := tb a) (w := w) rfl) x37 t38 hd39) ⟨rfl, yk_X10_isThrown_⟩ wm_5_192 wm_5_194 wp_27 wm_1_6 wm_5_195 ⟨Nat.le_of_ble_eq_true rfl, Nat.le_of_ble_eq_true rfl⟩ ⟨Nat.le_of_ble_eq_true rfl, Nat.le_of_ble_eq_true rfl⟩ (mw0x (a := a) (r := r) (f := f) (q := (va_up q 3 t13)) (T := tb a) (w := w) rfl) rfl rfl rfl hl.1 rfl (Nat.le_of_ble_eq_true rfl) dX10_minor_77 (fun o w' H locs hp hB => ?_)
            obtain ⟨rfl, hf40, hw9⟩ := hp
            replace hB : Bd κ A s (mw κ a r f (va_up (va_up q 3 t13) 3 t38) (tb a) w) H locs := by exact Bd_eq (mwQ3x rfl _) (by rw [hw9] at hB; exact hB)
            obtain rfl : x37 = 1 := hf40.trans (by decide)
            refine W.eq (g2 := F0 m 80 ls [.int 1]) rfl ?_
            refine lv_if_eq (tgt := 85) hx hb dX10_minor_80 (by decide) (fun c41 => False.elim (by revert c41; decide)) (fun _ => ?_)
            refine lv_iconst (v := 0) hx hb dX10_minor_83 (by decide) ?_
            rw [← hQ]
            exact end_i hX hB hA3 rfl rfl (by obtain ⟨rfl, rfl⟩ := pr2 hR; exact ⟨rfl, ⟨rfl, rfl, rfl⟩, rfl⟩) (Nat.le_of_ble_eq_true rfl) (Nat.le_of_ble_eq_true rfl) dX10_minor_84
          · replace hR := ifp c36 hR
            refine lv_iload_n hx hb dX10_minor_61 rfl (lv_at hl 3 rfl) ?_
            refine call_S (n := 1) (As := [.int z]) (rest := [.int 0, .ref (a 0)]) hX hB (k_J6_bitCount_0f7a4 κ l (mw κ a r f (va_up q 3 t13) (tb a) w) z ) yk_J6_bitCount_0f7a4 wm_7_91 wm_1_195 wm_1_26 wm_1_196 ⟨Nat.le_of_ble_eq_true rfl, Nat.le_of_ble_eq_true rfl⟩ ⟨Nat.le_of_ble_eq_true rfl, Nat.le_of_ble_eq_true rfl⟩ rfl hl.1 rfl (Nat.le_of_ble_eq_true rfl) dX10_minor_62 (fun o w' H locs hp hB => ?_)
            obtain ⟨x42, rfl, ex42, hw9⟩ := hp
            replace hR := nm_use ex42 hR
            rw [hw9] at hB
            refine W.eq (g2 := F0 m 65 ls [.int x42, .int 0, .ref (a 0)]) rfl ?_
            refine lv_iload_n hx hb dX10_minor_65 rfl (lv_at hl 4 rfl) ?_
            refine call_S (n := 1) (As := [.int u]) (rest := [.int x42, .int 0, .ref (a 0)]) hX hB (k_J6_bitCount_0f7a4 κ l (mw κ a r f (va_up q 3 t13) (tb a) w) u ) yk_J6_bitCount_0f7a4 wm_7_91 wm_1_195 wm_1_26 wm_1_196 ⟨Nat.le_of_ble_eq_true rfl, Nat.le_of_ble_eq_true rfl⟩ ⟨Nat.le_of_ble_eq_true rfl, Nat.le_of_ble_eq_true rfl⟩ rfl hl.1 rfl (Nat.le_of_ble_eq_true rfl) dX10_minor_66 (fun o w' H locs hp hB => ?_)
            obtain ⟨x43, rfl, ex43, hw9⟩ := hp
            replace hR := nm_use ex43 hR
            rw [hw9] at hB
            refine W.eq (g2 := F0 m 69 ls [.int x43, .int x42, .int 0, .ref (a 0)]) rfl ?_
            refine lv_icmp_eq (tgt := 76) hx hb dX10_minor_69 (by decide) (fun c44 => ?_) (fun c44 => ?_)
            · replace hR := ifp c44 hR
              refine lv_iconst (v := 0) hx hb dX10_minor_76 (by decide) ?_
              obtain ⟨x45, t46, hd47⟩ := ex2 (D_X10_isThrown_ ((va_up q 3 t13) 0) ((va_up q 3 t13) 1) ((va_up q 3 t13) 2) ((va_up q 3 t13) 3) 0 0)
              replace hR := bnd2_use hd47 hR
              refine call_V (n := 2) (k0 := 0) (As := [.int 0, .int 0]) (rest := []) hX hB (k_X10_isThrown_ κ l (mw κ a r f (va_up q 3 t13) (tb a) w) 0 (a 0) (a 1) ((va_up q 3 t13) 0) ((va_up q 3 t13) 1) ((va_up q 3 t13) 2) ((va_up q 3 t13) 3) 0 0 (mw0x (a := a) (r := r) (f := f) (q := (va_up q 3 t13)) (T := tb a) (w := w) rfl) x45 t46 hd47) ⟨rfl, yk_X10_isThrown_⟩ wm_5_192 wm_5_194 wp_27 wm_1_6 wm_5_195 ⟨Nat.le_of_ble_eq_true rfl, Nat.le_of_ble_eq_true rfl⟩ ⟨Nat.le_of_ble_eq_true rfl, Nat.le_of_ble_eq_true rfl⟩ (mw0x (a := a) (r := r) (f := f) (q := (va_up q 3 t13)) (T := tb a) (w := w) rfl) rfl rfl rfl hl.1 rfl (Nat.le_of_ble_eq_true rfl) dX10_minor_77 (fun o w' H locs hp hB => ?_)
              obtain ⟨rfl, hf48, hw9⟩ := hp
              replace hB : Bd κ A s (mw κ a r f (va_up (va_up q 3 t13) 3 t46) (tb a) w) H locs := by exact Bd_eq (mwQ3x rfl _) (by rw [hw9] at hB; exact hB)
              obtain rfl : x45 = 0 := hf48.trans (by decide)
              refine W.eq (g2 := F0 m 80 ls [.int 0]) rfl ?_
              refine lv_if_eq (tgt := 85) hx hb dX10_minor_80 (by decide) (fun _ => ?_) (fun c49 => False.elim (by revert c49; decide))
              obtain ⟨zx, hzx1, hzx2, rfl⟩ := shr0 (z := z) (R := r (2 * y.toNatClampNeg)) (by omega) (by assumption) (by assumption)
              obtain ⟨ux, hux1, hux2, rfl⟩ := shr0 (z := u) (R := r (2 * y.toNatClampNeg + 1)) (by omega) (by assumption) (by assumption)
              replace hR := nm_use (nI_clamp (Nat.lt_trans (p32 (by omega) hzx2) (by decide))).symm hR
              replace hR := nm_use (nI_clamp (Nat.lt_trans (p32 (by omega) hux2) (by decide))).symm hR
              refine lv_aload hx hb dX10_minor_85 (lv_at hl 0 rfl) ?_
              refine lv_iload_n hx hb dX10_minor_87 rfl (lv_at hl 3 rfl) ?_
              refine lv_iload_n hx hb dX10_minor_88 rfl (lv_at hl 4 rfl) ?_
              refine call_V (n := 2) (k0 := (2 + 2 * y.toNatClampNeg)) (As := [.int (nI zx), .int (nI ux)]) (rest := []) hX hB (minor_all κ l (mw κ a r f (va_up (va_up q 3 t13) 3 t46) (tb a) w) (2 + 2 * y.toNatClampNeg) (3 + 2 * y.toNatClampNeg) (a (2 + 2 * y.toNatClampNeg)) (a (3 + 2 * y.toNatClampNeg)) (r (2 * y.toNatClampNeg)) (r (2 * y.toNatClampNeg + 1)) (f y.toNatClampNeg) (mwG (i := y.toNatClampNeg) (a := a) (r := r) (f := f) (q := (va_up (va_up q 3 t13) 3 t46)) (T := tb a) (w := w) (by omega)) (mwA (i := y.toNatClampNeg) (a := a) (r := r) (f := f) (q := (va_up (va_up q 3 t13) 3 t46)) (T := tb a) (w := w) (by omega)) (mok_shp (i := y.toNatClampNeg) hm (by omega)) 5 (pc5 zx) zx ux (pc5_le _) (mn_six (by omega) (by omega) hzx1 hzx2 hux1 hux2 ex42 ex43 (by assumption))) ⟨rfl, yk_X7_minor⟩ wm_7_79 wm_7_80 wm_7_81 wm_1_7 wm_7_82 ⟨Nat.le_of_ble_eq_true rfl, Nat.le_of_ble_eq_true rfl⟩ ⟨Nat.le_of_ble_eq_true rfl, Nat.le_of_ble_eq_true rfl⟩ (mwG (i := y.toNatClampNeg) (a := a) (r := r) (f := f) (q := (va_up (va_up q 3 t13) 3 t46)) (T := tb a) (w := w) (by omega)) rfl rfl rfl hl.1 rfl (Nat.le_of_ble_eq_true rfl) dX10_minor_89 (fun o w' H locs hp hB => ?_)
              obtain ⟨rfl, hw9⟩ := hp
              replace hB : Bd κ A s (mw κ a r f (va_up (va_up q 3 t13) 3 t46) (tb a) w) H locs := by rw [hw9] at hB; exact hB
              refine W.eq (g2 := F0 m 92 ls [.long (mnv (f y.toNatClampNeg) (r (2 * y.toNatClampNeg + 1)) (pc5 zx) zx ux)]) rfl ?_
              refine lv_l2i hx hb dX10_minor_92 rfl ?_
              rw [← hQ]
              exact end_i hX hB hA3 rfl rfl (by obtain ⟨rfl, rfl⟩ := pr2 hR; exact ⟨rfl, ⟨rfl, rfl, rfl⟩, rfl⟩) (Nat.le_of_ble_eq_true rfl) (Nat.le_of_ble_eq_true rfl) dX10_minor_93
            · replace hR := ifn c44 hR
              refine lv_iconst (v := 1) hx hb dX10_minor_72 (by decide) ?_
              refine lv_goto (tgt := 77) hx hb dX10_minor_73 (by decide) ?_
              obtain ⟨x50, t51, hd52⟩ := ex2 (D_X10_isThrown_ ((va_up q 3 t13) 0) ((va_up q 3 t13) 1) ((va_up q 3 t13) 2) ((va_up q 3 t13) 3) 0 1)
              replace hR := bnd2_use hd52 hR
              refine call_V (n := 2) (k0 := 0) (As := [.int 0, .int 1]) (rest := []) hX hB (k_X10_isThrown_ κ l (mw κ a r f (va_up q 3 t13) (tb a) w) 0 (a 0) (a 1) ((va_up q 3 t13) 0) ((va_up q 3 t13) 1) ((va_up q 3 t13) 2) ((va_up q 3 t13) 3) 0 1 (mw0x (a := a) (r := r) (f := f) (q := (va_up q 3 t13)) (T := tb a) (w := w) rfl) x50 t51 hd52) ⟨rfl, yk_X10_isThrown_⟩ wm_5_192 wm_5_194 wp_27 wm_1_6 wm_5_195 ⟨Nat.le_of_ble_eq_true rfl, Nat.le_of_ble_eq_true rfl⟩ ⟨Nat.le_of_ble_eq_true rfl, Nat.le_of_ble_eq_true rfl⟩ (mw0x (a := a) (r := r) (f := f) (q := (va_up q 3 t13)) (T := tb a) (w := w) rfl) rfl rfl rfl hl.1 rfl (Nat.le_of_ble_eq_true rfl) dX10_minor_77 (fun o w' H locs hp hB => ?_)
              obtain ⟨rfl, hf53, hw9⟩ := hp
              replace hB : Bd κ A s (mw κ a r f (va_up (va_up q 3 t13) 3 t51) (tb a) w) H locs := by exact Bd_eq (mwQ3x rfl _) (by rw [hw9] at hB; exact hB)
              obtain rfl : x50 = 1 := hf53.trans (by decide)
              refine W.eq (g2 := F0 m 80 ls [.int 1]) rfl ?_
              refine lv_if_eq (tgt := 85) hx hb dX10_minor_80 (by decide) (fun c54 => False.elim (by revert c54; decide)) (fun _ => ?_)
              refine lv_iconst (v := 0) hx hb dX10_minor_83 (by decide) ?_
              rw [← hQ]
              exact end_i hX hB hA3 rfl rfl (by obtain ⟨rfl, rfl⟩ := pr2 hR; exact ⟨rfl, ⟨rfl, rfl, rfl⟩, rfl⟩) (Nat.le_of_ble_eq_true rfl) (Nat.le_of_ble_eq_true rfl) dX10_minor_84
noncomputable def D_X10_divisor (r : Nat → Nat) (f : Nat → Nat → Int64) (q : Nat → Int32) (y : Int32) (z : Int32) : Int32 × (Nat → Int32) := bnd1 (D_X10_isTable y) (fun (z1 : Int32) => (if z1 = 0 then bnd2 (D_X10_isThrown__ (q 0) (q 1) (q 2) (q 3) 1) (fun (x6 : Int32) (t7 : Int32) => (0, va_up q 3 t7)) else bnd2 (D_X10_isThrown__ (q 0) (q 1) (q 2) (q 3) 0) (fun (x12 : Int32) (t13 : Int32) => (if z < 0 then bnd2 (D_X10_isThrown_ ((va_up q 3 t13) 0) ((va_up q 3 t13) 1) ((va_up q 3 t13) 2) ((va_up q 3 t13) 3) 0 1) (fun (x19 : Int32) (t20 : Int32) => (0, va_up (va_up q 3 t13) 3 t20)) else nm ((if (nI (r (2 * y.toNatClampNeg + 1))) < (nI (r (2 * y.toNatClampNeg))) then (nI (r (2 * y.toNatClampNeg + 1))) else (nI (r (2 * y.toNatClampNeg)))) : Int32) (fun (t24 : Int32) => (if z ≤ t24 then bnd2 (D_X10_isThrown_ ((va_up q 3 t13) 0) ((va_up q 3 t13) 1) ((va_up q 3 t13) 2) ((va_up q 3 t13) 3) 0 0) (fun (x26 : Int32) (t27 : Int32) => bnd1 (D_X7_divisor (r (2 * y.toNatClampNeg)) (r (2 * y.toNatClampNeg + 1)) (f y.toNatClampNeg) z) (fun (x31 : Int64) => ((x31).toInt32, va_up (va_up q 3 t13) 3 t27))) else bnd2 (D_X10_isThrown_ ((va_up q 3 t13) 0) ((va_up q 3 t13) 1) ((va_up q 3 t13) 2) ((va_up q 3 t13) 3) 0 1) (fun (x33 : Int32) (t34 : Int32) => (0, va_up (va_up q 3 t13) 3 t34))))))))
theorem D_X10_divisor_s {r : Nat → Nat} {f : Nat → Nat → Int64} {q : Nat → Int32} {y : Int32} {z : Int32} : D_X10_divisor r f q y z = bnd1 (D_X10_isTable y) (fun (z1 : Int32) => (if z1 = 0 then bnd2 (D_X10_isThrown__ (q 0) (q 1) (q 2) (q 3) 1) (fun (x6 : Int32) (t7 : Int32) => (0, va_up q 3 t7)) else bnd2 (D_X10_isThrown__ (q 0) (q 1) (q 2) (q 3) 0) (fun (x12 : Int32) (t13 : Int32) => (if z < 0 then bnd2 (D_X10_isThrown_ ((va_up q 3 t13) 0) ((va_up q 3 t13) 1) ((va_up q 3 t13) 2) ((va_up q 3 t13) 3) 0 1) (fun (x19 : Int32) (t20 : Int32) => (0, va_up (va_up q 3 t13) 3 t20)) else nm ((if (nI (r (2 * y.toNatClampNeg + 1))) < (nI (r (2 * y.toNatClampNeg))) then (nI (r (2 * y.toNatClampNeg + 1))) else (nI (r (2 * y.toNatClampNeg)))) : Int32) (fun (t24 : Int32) => (if z ≤ t24 then bnd2 (D_X10_isThrown_ ((va_up q 3 t13) 0) ((va_up q 3 t13) 1) ((va_up q 3 t13) 2) ((va_up q 3 t13) 3) 0 0) (fun (x26 : Int32) (t27 : Int32) => bnd1 (D_X7_divisor (r (2 * y.toNatClampNeg)) (r (2 * y.toNatClampNeg + 1)) (f y.toNatClampNeg) z) (fun (x31 : Int64) => ((x31).toInt32, va_up (va_up q 3 t13) 3 t27))) else bnd2 (D_X10_isThrown_ ((va_up q 3 t13) 0) ((va_up q 3 t13) 1) ((va_up q 3 t13) 2) ((va_up q 3 t13) 3) 0 1) (fun (x33 : Int32) (t34 : Int32) => (0, va_up (va_up q 3 t13) 3 t34)))))))) := rfl
set_option maxHeartbeats 4000000 in
set_option maxRecDepth 100000 in
theorem k_X10_divisor (κ : Kt) (l : Launch) (w : va_W) (a r : Nat → Nat) (f : Nat → Nat → Int64) (q : Nat → Int32) (y : Int32) (z : Int32) (hm : mok r f) (o_x : Int32) (o_q' : Nat → Int32) (hR : D_X10_divisor r f q y z = (o_x, o_q')) : CM κ l yX10_divisor cX10_divisor 4 (some .int) 131 3015 0 0 [.ref (a 0), .int y, .int z] (mw κ a r f q (tb a) w) (fun o w' => o = some (.int o_x) ∧ (o_q' 2 = q 2 ∧ o_q' 0 = q 0 ∧ o_q' 1 = q 1) ∧ w' = mw κ a r f o_q' (tb a) w) := by
  refine CM_begin (plainFor_of_name pn_RX10) (Nat.le_of_ble_eq_true rfl) ?_
  intro p e s m args below meth c A Q hX hnm hA3 hQ hB ls hl
  have hx := hX.1.1
  have hb := hX.1.2.1
  have hl : lv_has ls 4 [(0, .ref (a 0)), (1, .int y), (2, .int z)] := hl
  replace hR := (D_X10_divisor_s).symm.trans hR
  refine lv_aload_n hx hb dX10_divisor_0 rfl (lv_at hl 0 rfl) ?_
  refine lv_iload_n hx hb dX10_divisor_1 rfl (lv_at hl 1 rfl) ?_
  obtain ⟨z1, hd2⟩ := ex1 (D_X10_isTable y)
  replace hR := bnd1_use hd2 hR
  refine call_S (n := 1) (As := [.int y]) (rest := [.ref (a 0)]) hX hB (k_X10_isTable κ l (mw κ a r f q (tb a) w) y z1 hd2) yk_X10_isTable wm_5_186 wm_5_187 wm_1_6 wm_5_188 ⟨Nat.le_of_ble_eq_true rfl, Nat.le_of_ble_eq_true rfl⟩ ⟨Nat.le_of_ble_eq_true rfl, Nat.le_of_ble_eq_true rfl⟩ rfl hl.1 rfl (Nat.le_of_ble_eq_true rfl) dX10_divisor_2 (fun o w' H locs hp hB => ?_)
  obtain ⟨rfl, hf3, hw9⟩ := hp
  replace hB : Bd κ A s (mw κ a r f q (tb a) w) H locs := by rw [hw9] at hB; exact hB
  rcases hf3 with rfl | ⟨rfl, hz4a, hz4b⟩
  · replace hR := ifp rfl hR
    refine W.eq (g2 := F0 m 5 ls [.int 0, .ref (a 0)]) rfl ?_
    refine lv_if_ne (tgt := 12) hx hb dX10_divisor_5 (by decide) (fun c5 => False.elim (by revert c5; decide)) (fun _ => ?_)
    refine lv_iconst (v := 1) hx hb dX10_divisor_8 (by decide) ?_
    refine lv_goto (tgt := 13) hx hb dX10_divisor_9 (by decide) ?_
    obtain ⟨x6, t7, hd8⟩ := ex2 (D_X10_isThrown__ (q 0) (q 1) (q 2) (q 3) 1)
    replace hR := bnd2_use hd8 hR
    refine call_V (n := 1) (k0 := 0) (As := [.int 1]) (rest := []) hX hB (k_X10_isThrown__ κ l (mw κ a r f q (tb a) w) 0 (a 0) (a 1) (q 0) (q 1) (q 2) (q 3) 1 (mw0x (a := a) (r := r) (f := f) (q := q) (T := tb a) (w := w) rfl) x6 t7 hd8) ⟨rfl, yk_X10_isThrown__⟩ wm_6_15 wm_6_17 wp_33 wm_1_6 wm_6_18 ⟨Nat.le_of_ble_eq_true rfl, Nat.le_of_ble_eq_true rfl⟩ ⟨Nat.le_of_ble_eq_true rfl, Nat.le_of_ble_eq_true rfl⟩ (mw0x (a := a) (r := r) (f := f) (q := q) (T := tb a) (w := w) rfl) rfl rfl rfl hl.1 rfl (Nat.le_of_ble_eq_true rfl) dX10_divisor_13 (fun o w' H locs hp hB => ?_)
    obtain ⟨rfl, hf9, hw9⟩ := hp
    replace hB : Bd κ A s (mw κ a r f (va_up q 3 t7) (tb a) w) H locs := by exact Bd_eq (mwQ3x rfl _) (by rw [hw9] at hB; exact hB)
    obtain rfl : x6 = 1 := hf9.trans (by decide)
    refine W.eq (g2 := F0 m 16 ls [.int 1]) rfl ?_
    refine lv_if_eq (tgt := 21) hx hb dX10_divisor_16 (by decide) (fun c10 => False.elim (by revert c10; decide)) (fun _ => ?_)
    refine lv_iconst (v := 0) hx hb dX10_divisor_19 (by decide) ?_
    rw [← hQ]
    exact end_i hX hB hA3 rfl rfl (by obtain ⟨rfl, rfl⟩ := pr2 hR; exact ⟨rfl, ⟨rfl, rfl, rfl⟩, rfl⟩) (Nat.le_of_ble_eq_true rfl) (Nat.le_of_ble_eq_true rfl) dX10_divisor_20
  · replace hR := ifn (by decide) hR
    refine W.eq (g2 := F0 m 5 ls [.int 1, .ref (a 0)]) rfl ?_
    refine lv_if_ne (tgt := 12) hx hb dX10_divisor_5 (by decide) (fun _ => ?_) (fun c11 => False.elim (by revert c11; decide))
    refine lv_iconst (v := 0) hx hb dX10_divisor_12 (by decide) ?_
    obtain ⟨x12, t13, hd14⟩ := ex2 (D_X10_isThrown__ (q 0) (q 1) (q 2) (q 3) 0)
    replace hR := bnd2_use hd14 hR
    refine call_V (n := 1) (k0 := 0) (As := [.int 0]) (rest := []) hX hB (k_X10_isThrown__ κ l (mw κ a r f q (tb a) w) 0 (a 0) (a 1) (q 0) (q 1) (q 2) (q 3) 0 (mw0x (a := a) (r := r) (f := f) (q := q) (T := tb a) (w := w) rfl) x12 t13 hd14) ⟨rfl, yk_X10_isThrown__⟩ wm_6_15 wm_6_17 wp_33 wm_1_6 wm_6_18 ⟨Nat.le_of_ble_eq_true rfl, Nat.le_of_ble_eq_true rfl⟩ ⟨Nat.le_of_ble_eq_true rfl, Nat.le_of_ble_eq_true rfl⟩ (mw0x (a := a) (r := r) (f := f) (q := q) (T := tb a) (w := w) rfl) rfl rfl rfl hl.1 rfl (Nat.le_of_ble_eq_true rfl) dX10_divisor_13 (fun o w' H locs hp hB => ?_)
    obtain ⟨rfl, hf15, hw9⟩ := hp
    replace hB : Bd κ A s (mw κ a r f (va_up q 3 t13) (tb a) w) H locs := by exact Bd_eq (mwQ3x rfl _) (by rw [hw9] at hB; exact hB)
    obtain rfl : x12 = 0 := hf15.trans (by decide)
    refine W.eq (g2 := F0 m 16 ls [.int 0]) rfl ?_
    refine lv_if_eq (tgt := 21) hx hb dX10_divisor_16 (by decide) (fun _ => ?_) (fun c16 => False.elim (by revert c16; decide))
    refine lv_aload_n hx hb dX10_divisor_21 rfl (lv_at hl 0 rfl) ?_
    refine gf (k0 := 0) hX hB (mw0x (a := a) (r := r) (f := f) (q := (va_up q 3 t13)) (T := tb a) (w := w) rfl) rfl in10 0 (by decide) wm_5_162 rfl rfl dX10_divisor_22 ?_
    refine lv_iload_n hx hb dX10_divisor_25 rfl (lv_at hl 1 rfl) ?_
    refine aaldM (k0 := 1) hX hB (mw1 (a := a) (r := r) (f := f) (q := (va_up q 3 t13)) (T := tb a) (w := w)) (vp_in_mk (by assumption) (by assumption)) rfl dX10_divisor_26 ?_
    have hb17 := mok_r hm y.toNatClampNeg (by omega)
    refine lv_astore_n (lv' := [(3, .ref (a (2 + 2 * y.toNatClampNeg))), (0, .ref (a 0)), (1, .int y), (2, .int z)]) hx hb dX10_divisor_27 rfl hl (by decide) rfl (fun ls hl => ?_)
    refine lv_aload_n hx hb dX10_divisor_28 rfl (lv_at hl 1 rfl) ?_
    refine lv_iconst (v := 0) hx hb dX10_divisor_29 (by decide) ?_
    refine lv_iload_n hx hb dX10_divisor_30 rfl (lv_at hl 3 rfl) ?_
    refine lv_if_lt (tgt := 49) hx hb dX10_divisor_31 (by decide) (fun c18 => ?_) (fun c18 => ?_)
    · replace hR := ifp c18 hR
      refine lv_iconst (v := 1) hx hb dX10_divisor_49 (by decide) ?_
      refine lv_goto (tgt := 54) hx hb dX10_divisor_50 (by decide) ?_
      obtain ⟨x19, t20, hd21⟩ := ex2 (D_X10_isThrown_ ((va_up q 3 t13) 0) ((va_up q 3 t13) 1) ((va_up q 3 t13) 2) ((va_up q 3 t13) 3) 0 1)
      replace hR := bnd2_use hd21 hR
      refine call_V (n := 2) (k0 := 0) (As := [.int 0, .int 1]) (rest := []) hX hB (k_X10_isThrown_ κ l (mw κ a r f (va_up q 3 t13) (tb a) w) 0 (a 0) (a 1) ((va_up q 3 t13) 0) ((va_up q 3 t13) 1) ((va_up q 3 t13) 2) ((va_up q 3 t13) 3) 0 1 (mw0x (a := a) (r := r) (f := f) (q := (va_up q 3 t13)) (T := tb a) (w := w) rfl) x19 t20 hd21) ⟨rfl, yk_X10_isThrown_⟩ wm_5_192 wm_5_194 wp_27 wm_1_6 wm_5_195 ⟨Nat.le_of_ble_eq_true rfl, Nat.le_of_ble_eq_true rfl⟩ ⟨Nat.le_of_ble_eq_true rfl, Nat.le_of_ble_eq_true rfl⟩ (mw0x (a := a) (r := r) (f := f) (q := (va_up q 3 t13)) (T := tb a) (w := w) rfl) rfl rfl rfl hl.1 rfl (Nat.le_of_ble_eq_true rfl) dX10_divisor_54 (fun o w' H locs hp hB => ?_)
      obtain ⟨rfl, hf22, hw9⟩ := hp
      replace hB : Bd κ A s (mw κ a r f (va_up (va_up q 3 t13) 3 t20) (tb a) w) H locs := by exact Bd_eq (mwQ3x rfl _) (by rw [hw9] at hB; exact hB)
      obtain rfl : x19 = 1 := hf22.trans (by decide)
      refine W.eq (g2 := F0 m 57 ls [.int 1]) rfl ?_
      refine lv_if_eq (tgt := 64) hx hb dX10_divisor_57 (by decide) (fun c23 => False.elim (by revert c23; decide)) (fun _ => ?_)
      refine lv_iconst (v := 0) hx hb dX10_divisor_60 (by decide) ?_
      refine lv_goto (tgt := 70) hx hb dX10_divisor_61 (by decide) ?_
      rw [← hQ]
      exact end_i hX hB hA3 rfl rfl (by obtain ⟨rfl, rfl⟩ := pr2 hR; exact ⟨rfl, ⟨rfl, rfl, rfl⟩, rfl⟩) (Nat.le_of_ble_eq_true rfl) (Nat.le_of_ble_eq_true rfl) dX10_divisor_70
    · replace hR := ifn c18 hR
      refine lv_iload_n hx hb dX10_divisor_34 rfl (lv_at hl 3 rfl) ?_
      refine lv_aload_n hx hb dX10_divisor_35 rfl (lv_at hl 0 rfl) ?_
      refine gf (k0 := 2 + 2 * y.toNatClampNeg) hX hB (mwG (i := y.toNatClampNeg) (a := a) (r := r) (f := f) (q := (va_up q 3 t13)) (T := tb a) (w := w) (by omega)) rfl in7 0 (by decide) wm_5_148 rfl rfl dX10_divisor_36 ?_
      refine lv_aload_n hx hb dX10_divisor_39 rfl (lv_at hl 0 rfl) ?_
      refine gf (k0 := 2 + 2 * y.toNatClampNeg) hX hB (mwG (i := y.toNatClampNeg) (a := a) (r := r) (f := f) (q := (va_up q 3 t13)) (T := tb a) (w := w) (by omega)) rfl in7 1 (by decide) wm_5_152 rfl rfl dX10_divisor_40 ?_
      refine va_mmin hx hb (by rw [hX.1.2.2.1]; exact hl.1.symm) hX.1.2.2.2.1 (hX.1.2.2.2.2 _ wm_7_100) (hX.1.2.2.2.2 _ wm_1_217) (hX.1.2.2.2.2 _ wm_1_14) (hX.1.2.2.2.2 _ wm_1_218) (Nat.le_of_ble_eq_true rfl) (Nat.le_of_ble_eq_true rfl) (Nat.le_of_ble_eq_true rfl) (Nat.le_of_ble_eq_true rfl) dX10_divisor_43 ?_
      refine lv_topi (fun t24 et24 => ?_)
      replace hR := nm_use et24 hR
      refine lv_icmp_le (tgt := 53) hx hb dX10_divisor_46 (by decide) (fun c25 => ?_) (fun c25 => ?_)
      · replace hR := ifp c25 hR
        refine lv_iconst (v := 0) hx hb dX10_divisor_53 (by decide) ?_
        obtain ⟨x26, t27, hd28⟩ := ex2 (D_X10_isThrown_ ((va_up q 3 t13) 0) ((va_up q 3 t13) 1) ((va_up q 3 t13) 2) ((va_up q 3 t13) 3) 0 0)
        replace hR := bnd2_use hd28 hR
        refine call_V (n := 2) (k0 := 0) (As := [.int 0, .int 0]) (rest := []) hX hB (k_X10_isThrown_ κ l (mw κ a r f (va_up q 3 t13) (tb a) w) 0 (a 0) (a 1) ((va_up q 3 t13) 0) ((va_up q 3 t13) 1) ((va_up q 3 t13) 2) ((va_up q 3 t13) 3) 0 0 (mw0x (a := a) (r := r) (f := f) (q := (va_up q 3 t13)) (T := tb a) (w := w) rfl) x26 t27 hd28) ⟨rfl, yk_X10_isThrown_⟩ wm_5_192 wm_5_194 wp_27 wm_1_6 wm_5_195 ⟨Nat.le_of_ble_eq_true rfl, Nat.le_of_ble_eq_true rfl⟩ ⟨Nat.le_of_ble_eq_true rfl, Nat.le_of_ble_eq_true rfl⟩ (mw0x (a := a) (r := r) (f := f) (q := (va_up q 3 t13)) (T := tb a) (w := w) rfl) rfl rfl rfl hl.1 rfl (Nat.le_of_ble_eq_true rfl) dX10_divisor_54 (fun o w' H locs hp hB => ?_)
        obtain ⟨rfl, hf29, hw9⟩ := hp
        replace hB : Bd κ A s (mw κ a r f (va_up (va_up q 3 t13) 3 t27) (tb a) w) H locs := by exact Bd_eq (mwQ3x rfl _) (by rw [hw9] at hB; exact hB)
        obtain rfl : x26 = 0 := hf29.trans (by decide)
        refine W.eq (g2 := F0 m 57 ls [.int 0]) rfl ?_
        refine lv_if_eq (tgt := 64) hx hb dX10_divisor_57 (by decide) (fun _ => ?_) (fun c30 => False.elim (by revert c30; decide))
        refine lv_aload_n hx hb dX10_divisor_64 rfl (lv_at hl 0 rfl) ?_
        refine lv_iload_n hx hb dX10_divisor_65 rfl (lv_at hl 3 rfl) ?_
        obtain ⟨x31, hd32⟩ := ex1 (D_X7_divisor (r (2 * y.toNatClampNeg)) (r (2 * y.toNatClampNeg + 1)) (f y.toNatClampNeg) z)
        replace hR := bnd1_use hd32 hR
        refine call_V (n := 1) (k0 := (2 + 2 * y.toNatClampNeg)) (As := [.int z]) (rest := []) hX hB (k_X7_divisor κ l (mw κ a r f (va_up (va_up q 3 t13) 3 t27) (tb a) w) (2 + 2 * y.toNatClampNeg) (3 + 2 * y.toNatClampNeg) (a (2 + 2 * y.toNatClampNeg)) (a (3 + 2 * y.toNatClampNeg)) (r (2 * y.toNatClampNeg)) (r (2 * y.toNatClampNeg + 1)) (f y.toNatClampNeg) z (mwG (i := y.toNatClampNeg) (a := a) (r := r) (f := f) (q := (va_up (va_up q 3 t13) 3 t27)) (T := tb a) (w := w) (by omega)) (mwA (i := y.toNatClampNeg) (a := a) (r := r) (f := f) (q := (va_up (va_up q 3 t13) 3 t27)) (T := tb a) (w := w) (by omega)) (mok_shp (i := y.toNatClampNeg) hm (by omega)) x31 hd32) ⟨rfl, yk_X7_divisor⟩ wm_7_101 wm_7_102 wm_7_103 wm_1_7 wm_7_104 ⟨Nat.le_of_ble_eq_true rfl, Nat.le_of_ble_eq_true rfl⟩ ⟨Nat.le_of_ble_eq_true rfl, Nat.le_of_ble_eq_true rfl⟩ (mwG (i := y.toNatClampNeg) (a := a) (r := r) (f := f) (q := (va_up (va_up q 3 t13) 3 t27)) (T := tb a) (w := w) (by omega)) rfl rfl rfl hl.1 rfl (Nat.le_of_ble_eq_true rfl) dX10_divisor_66 (fun o w' H locs hp hB => ?_)
        obtain ⟨rfl, hw9⟩ := hp
        replace hB : Bd κ A s (mw κ a r f (va_up (va_up q 3 t13) 3 t27) (tb a) w) H locs := by rw [hw9] at hB; exact hB
        refine W.eq (g2 := F0 m 69 ls [.long x31]) rfl ?_
        refine lv_l2i hx hb dX10_divisor_69 rfl ?_
        rw [← hQ]
        exact end_i hX hB hA3 rfl rfl (by obtain ⟨rfl, rfl⟩ := pr2 hR; exact ⟨rfl, ⟨rfl, rfl, rfl⟩, rfl⟩) (Nat.le_of_ble_eq_true rfl) (Nat.le_of_ble_eq_true rfl) dX10_divisor_70
      · replace hR := ifn c25 hR
        refine lv_iconst (v := 1) hx hb dX10_divisor_49 (by decide) ?_
        refine lv_goto (tgt := 54) hx hb dX10_divisor_50 (by decide) ?_
        obtain ⟨x33, t34, hd35⟩ := ex2 (D_X10_isThrown_ ((va_up q 3 t13) 0) ((va_up q 3 t13) 1) ((va_up q 3 t13) 2) ((va_up q 3 t13) 3) 0 1)
        replace hR := bnd2_use hd35 hR
        refine call_V (n := 2) (k0 := 0) (As := [.int 0, .int 1]) (rest := []) hX hB (k_X10_isThrown_ κ l (mw κ a r f (va_up q 3 t13) (tb a) w) 0 (a 0) (a 1) ((va_up q 3 t13) 0) ((va_up q 3 t13) 1) ((va_up q 3 t13) 2) ((va_up q 3 t13) 3) 0 1 (mw0x (a := a) (r := r) (f := f) (q := (va_up q 3 t13)) (T := tb a) (w := w) rfl) x33 t34 hd35) ⟨rfl, yk_X10_isThrown_⟩ wm_5_192 wm_5_194 wp_27 wm_1_6 wm_5_195 ⟨Nat.le_of_ble_eq_true rfl, Nat.le_of_ble_eq_true rfl⟩ ⟨Nat.le_of_ble_eq_true rfl, Nat.le_of_ble_eq_true rfl⟩ (mw0x (a := a) (r := r) (f := f) (q := (va_up q 3 t13)) (T := tb a) (w := w) rfl) rfl rfl rfl hl.1 rfl (Nat.le_of_ble_eq_true rfl) dX10_divisor_54 (fun o w' H locs hp hB => ?_)
        obtain ⟨rfl, hf36, hw9⟩ := hp
        replace hB : Bd κ A s (mw κ a r f (va_up (va_up q 3 t13) 3 t34) (tb a) w) H locs := by exact Bd_eq (mwQ3x rfl _) (by rw [hw9] at hB; exact hB)
        obtain rfl : x33 = 1 := hf36.trans (by decide)
        refine W.eq (g2 := F0 m 57 ls [.int 1]) rfl ?_
        refine lv_if_eq (tgt := 64) hx hb dX10_divisor_57 (by decide) (fun c37 => False.elim (by revert c37; decide)) (fun _ => ?_)
        refine lv_iconst (v := 0) hx hb dX10_divisor_60 (by decide) ?_
        refine lv_goto (tgt := 70) hx hb dX10_divisor_61 (by decide) ?_
        rw [← hQ]
        exact end_i hX hB hA3 rfl rfl (by obtain ⟨rfl, rfl⟩ := pr2 hR; exact ⟨rfl, ⟨rfl, rfl, rfl⟩, rfl⟩) (Nat.le_of_ble_eq_true rfl) (Nat.le_of_ble_eq_true rfl) dX10_divisor_70
noncomputable def D_X10_rank (r : Nat → Nat) (f : Nat → Nat → Int64) (q : Nat → Int32) (y : Int32) (z : Int32) : Int32 × (Nat → Int32) := bnd1 (D_X10_isTable y) (fun (z1 : Int32) => (if z1 = 0 then (if z < 0 then bnd2 (D_X10_isThrown_ (q 0) (q 1) (q 2) (q 3) 1 1) (fun (x7 : Int32) (t8 : Int32) => (0, va_up q 3 t8)) else (if z ≤ 1 then bnd2 (D_X10_isThrown_ (q 0) (q 1) (q 2) (q 3) 1 0) (fun (x13 : Int32) (t14 : Int32) => (0, va_up q 3 t14)) else bnd2 (D_X10_isThrown_ (q 0) (q 1) (q 2) (q 3) 1 1) (fun (x18 : Int32) (t19 : Int32) => (0, va_up q 3 t19)))) else (if z < 0 then bnd2 (D_X10_isThrown_ (q 0) (q 1) (q 2) (q 3) 0 1) (fun (x25 : Int32) (t26 : Int32) => (0, va_up q 3 t26)) else (if z ≤ 1 then bnd2 (D_X10_isThrown_ (q 0) (q 1) (q 2) (q 3) 0 0) (fun (x31 : Int32) (t32 : Int32) => (if z = 0 then bnd1 (D_X7_rank (r (2 * y.toNatClampNeg)) (r (2 * y.toNatClampNeg + 1)) (f y.toNatClampNeg)) (fun (x59 : Int32) => (x59, va_up q 3 t32)) else bnd4 (D_X8_init (r (2 * y.toNatClampNeg)) (r (2 * y.toNatClampNeg + 1)) (f y.toNatClampNeg)) (fun (F43 : Nat → Int64) (F44 : Nat → Int64) (S45 : Int32) (G46 : Int32) => bnd2 (D_X10_isThrown ((va_up q 3 t32) 0) ((va_up q 3 t32) 1) ((va_up q 3 t32) 2) ((va_up q 3 t32) 3) 0 0 G46) (fun (x49 : Int32) (t50 : Int32) => (if x49 = 0 then bnd1 (D_X8_rank (r (2 * y.toNatClampNeg)) (r (2 * y.toNatClampNeg + 1)) F43 F44 S45 G46) (fun (x55 : Int32) => (x55, va_up (va_up q 3 t32) 3 t50)) else (0, va_up (va_up q 3 t32) 3 t50)))))) else bnd2 (D_X10_isThrown_ (q 0) (q 1) (q 2) (q 3) 0 1) (fun (x61 : Int32) (t62 : Int32) => (0, va_up q 3 t62))))))
theorem D_X10_rank_s {r : Nat → Nat} {f : Nat → Nat → Int64} {q : Nat → Int32} {y : Int32} {z : Int32} : D_X10_rank r f q y z = bnd1 (D_X10_isTable y) (fun (z1 : Int32) => (if z1 = 0 then (if z < 0 then bnd2 (D_X10_isThrown_ (q 0) (q 1) (q 2) (q 3) 1 1) (fun (x7 : Int32) (t8 : Int32) => (0, va_up q 3 t8)) else (if z ≤ 1 then bnd2 (D_X10_isThrown_ (q 0) (q 1) (q 2) (q 3) 1 0) (fun (x13 : Int32) (t14 : Int32) => (0, va_up q 3 t14)) else bnd2 (D_X10_isThrown_ (q 0) (q 1) (q 2) (q 3) 1 1) (fun (x18 : Int32) (t19 : Int32) => (0, va_up q 3 t19)))) else (if z < 0 then bnd2 (D_X10_isThrown_ (q 0) (q 1) (q 2) (q 3) 0 1) (fun (x25 : Int32) (t26 : Int32) => (0, va_up q 3 t26)) else (if z ≤ 1 then bnd2 (D_X10_isThrown_ (q 0) (q 1) (q 2) (q 3) 0 0) (fun (x31 : Int32) (t32 : Int32) => (if z = 0 then bnd1 (D_X7_rank (r (2 * y.toNatClampNeg)) (r (2 * y.toNatClampNeg + 1)) (f y.toNatClampNeg)) (fun (x59 : Int32) => (x59, va_up q 3 t32)) else bnd4 (D_X8_init (r (2 * y.toNatClampNeg)) (r (2 * y.toNatClampNeg + 1)) (f y.toNatClampNeg)) (fun (F43 : Nat → Int64) (F44 : Nat → Int64) (S45 : Int32) (G46 : Int32) => bnd2 (D_X10_isThrown ((va_up q 3 t32) 0) ((va_up q 3 t32) 1) ((va_up q 3 t32) 2) ((va_up q 3 t32) 3) 0 0 G46) (fun (x49 : Int32) (t50 : Int32) => (if x49 = 0 then bnd1 (D_X8_rank (r (2 * y.toNatClampNeg)) (r (2 * y.toNatClampNeg + 1)) F43 F44 S45 G46) (fun (x55 : Int32) => (x55, va_up (va_up q 3 t32) 3 t50)) else (0, va_up (va_up q 3 t32) 3 t50)))))) else bnd2 (D_X10_isThrown_ (q 0) (q 1) (q 2) (q 3) 0 1) (fun (x61 : Int32) (t62 : Int32) => (0, va_up q 3 t62)))))) := rfl
set_option maxHeartbeats 4000000 in
set_option maxRecDepth 100000 in
theorem k_X10_rank (κ : Kt) (l : Launch) (w : va_W) (a r : Nat → Nat) (f : Nat → Nat → Int64) (q : Nat → Int32) (y : Int32) (z : Int32) (hm : mok r f) (o_x : Int32) (o_q' : Nat → Int32) (hR : D_X10_rank r f q y z = (o_x, o_q')) : CM κ l yX10_rank cX10_rank 4 (some .int) 132 3037 5 50 [.ref (a 0), .int y, .int z] (mw κ a r f q (tb a) w) (fun o w' => o = some (.int o_x) ∧ (o_q' 2 = q 2 ∧ o_q' 0 = q 0 ∧ o_q' 1 = q 1) ∧ w' = mw κ a r f o_q' (tb a) w) := by
  refine CM_begin (plainFor_of_name pn_RX10) (Nat.le_of_ble_eq_true rfl) ?_
  intro p e s m args below meth c A Q hX hnm hA3 hQ hB ls hl
  have hx := hX.1.1
  have hb := hX.1.2.1
  have hl : lv_has ls 4 [(0, .ref (a 0)), (1, .int y), (2, .int z)] := hl
  replace hR := (D_X10_rank_s).symm.trans hR
  refine lv_aload_n hx hb dX10_rank_0 rfl (lv_at hl 0 rfl) ?_
  refine lv_iload_n hx hb dX10_rank_1 rfl (lv_at hl 1 rfl) ?_
  obtain ⟨z1, hd2⟩ := ex1 (D_X10_isTable y)
  replace hR := bnd1_use hd2 hR
  refine call_S (n := 1) (As := [.int y]) (rest := [.ref (a 0)]) hX hB (k_X10_isTable κ l (mw κ a r f q (tb a) w) y z1 hd2) yk_X10_isTable wm_5_186 wm_5_187 wm_1_6 wm_5_188 ⟨Nat.le_of_ble_eq_true rfl, Nat.le_of_ble_eq_true rfl⟩ ⟨Nat.le_of_ble_eq_true rfl, Nat.le_of_ble_eq_true rfl⟩ rfl hl.1 rfl (Nat.le_of_ble_eq_true rfl) dX10_rank_2 (fun o w' H locs hp hB => ?_)
  obtain ⟨rfl, hf3, hw9⟩ := hp
  replace hB : Bd κ A s (mw κ a r f q (tb a) w) H locs := by rw [hw9] at hB; exact hB
  rcases hf3 with rfl | ⟨rfl, hz4a, hz4b⟩
  · replace hR := ifp rfl hR
    refine W.eq (g2 := F0 m 5 ls [.int 0, .ref (a 0)]) rfl ?_
    refine lv_if_ne (tgt := 12) hx hb dX10_rank_5 (by decide) (fun c5 => False.elim (by revert c5; decide)) (fun _ => ?_)
    refine lv_iconst (v := 1) hx hb dX10_rank_8 (by decide) ?_
    refine lv_goto (tgt := 13) hx hb dX10_rank_9 (by decide) ?_
    refine lv_iload_n hx hb dX10_rank_13 rfl (lv_at hl 2 rfl) ?_
    refine lv_if_lt (tgt := 22) hx hb dX10_rank_14 (by decide) (fun c6 => ?_) (fun c6 => ?_)
    · replace hR := ifp c6 hR
      refine lv_iconst (v := 1) hx hb dX10_rank_22 (by decide) ?_
      refine lv_goto (tgt := 27) hx hb dX10_rank_23 (by decide) ?_
      obtain ⟨x7, t8, hd9⟩ := ex2 (D_X10_isThrown_ (q 0) (q 1) (q 2) (q 3) 1 1)
      replace hR := bnd2_use hd9 hR
      refine call_V (n := 2) (k0 := 0) (As := [.int 1, .int 1]) (rest := []) hX hB (k_X10_isThrown_ κ l (mw κ a r f q (tb a) w) 0 (a 0) (a 1) (q 0) (q 1) (q 2) (q 3) 1 1 (mw0x (a := a) (r := r) (f := f) (q := q) (T := tb a) (w := w) rfl) x7 t8 hd9) ⟨rfl, yk_X10_isThrown_⟩ wm_5_192 wm_5_194 wp_27 wm_1_6 wm_5_195 ⟨Nat.le_of_ble_eq_true rfl, Nat.le_of_ble_eq_true rfl⟩ ⟨Nat.le_of_ble_eq_true rfl, Nat.le_of_ble_eq_true rfl⟩ (mw0x (a := a) (r := r) (f := f) (q := q) (T := tb a) (w := w) rfl) rfl rfl rfl hl.1 rfl (Nat.le_of_ble_eq_true rfl) dX10_rank_27 (fun o w' H locs hp hB => ?_)
      obtain ⟨rfl, hf10, hw9⟩ := hp
      replace hB : Bd κ A s (mw κ a r f (va_up q 3 t8) (tb a) w) H locs := by exact Bd_eq (mwQ3x rfl _) (by rw [hw9] at hB; exact hB)
      obtain rfl : x7 = 1 := hf10.trans (by decide)
      refine W.eq (g2 := F0 m 30 ls [.int 1]) rfl ?_
      refine lv_if_eq (tgt := 35) hx hb dX10_rank_30 (by decide) (fun c11 => False.elim (by revert c11; decide)) (fun _ => ?_)
      refine lv_iconst (v := 0) hx hb dX10_rank_33 (by decide) ?_
      rw [← hQ]
      exact end_i hX hB hA3 rfl rfl (by obtain ⟨rfl, rfl⟩ := pr2 hR; exact ⟨rfl, ⟨rfl, rfl, rfl⟩, rfl⟩) (Nat.le_of_ble_eq_true rfl) (Nat.le_of_ble_eq_true rfl) dX10_rank_34
    · replace hR := ifn c6 hR
      refine lv_iload_n hx hb dX10_rank_17 rfl (lv_at hl 2 rfl) ?_
      refine lv_iconst (v := 1) hx hb dX10_rank_18 (by decide) ?_
      refine lv_icmp_le (tgt := 26) hx hb dX10_rank_19 (by decide) (fun c12 => ?_) (fun c12 => ?_)
      · replace hR := ifp c12 hR
        refine lv_iconst (v := 0) hx hb dX10_rank_26 (by decide) ?_
        obtain ⟨x13, t14, hd15⟩ := ex2 (D_X10_isThrown_ (q 0) (q 1) (q 2) (q 3) 1 0)
        replace hR := bnd2_use hd15 hR
        refine call_V (n := 2) (k0 := 0) (As := [.int 1, .int 0]) (rest := []) hX hB (k_X10_isThrown_ κ l (mw κ a r f q (tb a) w) 0 (a 0) (a 1) (q 0) (q 1) (q 2) (q 3) 1 0 (mw0x (a := a) (r := r) (f := f) (q := q) (T := tb a) (w := w) rfl) x13 t14 hd15) ⟨rfl, yk_X10_isThrown_⟩ wm_5_192 wm_5_194 wp_27 wm_1_6 wm_5_195 ⟨Nat.le_of_ble_eq_true rfl, Nat.le_of_ble_eq_true rfl⟩ ⟨Nat.le_of_ble_eq_true rfl, Nat.le_of_ble_eq_true rfl⟩ (mw0x (a := a) (r := r) (f := f) (q := q) (T := tb a) (w := w) rfl) rfl rfl rfl hl.1 rfl (Nat.le_of_ble_eq_true rfl) dX10_rank_27 (fun o w' H locs hp hB => ?_)
        obtain ⟨rfl, hf16, hw9⟩ := hp
        replace hB : Bd κ A s (mw κ a r f (va_up q 3 t14) (tb a) w) H locs := by exact Bd_eq (mwQ3x rfl _) (by rw [hw9] at hB; exact hB)
        obtain rfl : x13 = 1 := hf16.trans (by decide)
        refine W.eq (g2 := F0 m 30 ls [.int 1]) rfl ?_
        refine lv_if_eq (tgt := 35) hx hb dX10_rank_30 (by decide) (fun c17 => False.elim (by revert c17; decide)) (fun _ => ?_)
        refine lv_iconst (v := 0) hx hb dX10_rank_33 (by decide) ?_
        rw [← hQ]
        exact end_i hX hB hA3 rfl rfl (by obtain ⟨rfl, rfl⟩ := pr2 hR; exact ⟨rfl, ⟨rfl, rfl, rfl⟩, rfl⟩) (Nat.le_of_ble_eq_true rfl) (Nat.le_of_ble_eq_true rfl) dX10_rank_34
      · replace hR := ifn c12 hR
        refine lv_iconst (v := 1) hx hb dX10_rank_22 (by decide) ?_
        refine lv_goto (tgt := 27) hx hb dX10_rank_23 (by decide) ?_
        obtain ⟨x18, t19, hd20⟩ := ex2 (D_X10_isThrown_ (q 0) (q 1) (q 2) (q 3) 1 1)
        replace hR := bnd2_use hd20 hR
        refine call_V (n := 2) (k0 := 0) (As := [.int 1, .int 1]) (rest := []) hX hB (k_X10_isThrown_ κ l (mw κ a r f q (tb a) w) 0 (a 0) (a 1) (q 0) (q 1) (q 2) (q 3) 1 1 (mw0x (a := a) (r := r) (f := f) (q := q) (T := tb a) (w := w) rfl) x18 t19 hd20) ⟨rfl, yk_X10_isThrown_⟩ wm_5_192 wm_5_194 wp_27 wm_1_6 wm_5_195 ⟨Nat.le_of_ble_eq_true rfl, Nat.le_of_ble_eq_true rfl⟩ ⟨Nat.le_of_ble_eq_true rfl, Nat.le_of_ble_eq_true rfl⟩ (mw0x (a := a) (r := r) (f := f) (q := q) (T := tb a) (w := w) rfl) rfl rfl rfl hl.1 rfl (Nat.le_of_ble_eq_true rfl) dX10_rank_27 (fun o w' H locs hp hB => ?_)
        obtain ⟨rfl, hf21, hw9⟩ := hp
        replace hB : Bd κ A s (mw κ a r f (va_up q 3 t19) (tb a) w) H locs := by exact Bd_eq (mwQ3x rfl _) (by rw [hw9] at hB; exact hB)
        obtain rfl : x18 = 1 := hf21.trans (by decide)
        refine W.eq (g2 := F0 m 30 ls [.int 1]) rfl ?_
        refine lv_if_eq (tgt := 35) hx hb dX10_rank_30 (by decide) (fun c22 => False.elim (by revert c22; decide)) (fun _ => ?_)
        refine lv_iconst (v := 0) hx hb dX10_rank_33 (by decide) ?_
        rw [← hQ]
        exact end_i hX hB hA3 rfl rfl (by obtain ⟨rfl, rfl⟩ := pr2 hR; exact ⟨rfl, ⟨rfl, rfl, rfl⟩, rfl⟩) (Nat.le_of_ble_eq_true rfl) (Nat.le_of_ble_eq_true rfl) dX10_rank_34
  · replace hR := ifn (by decide) hR
    refine W.eq (g2 := F0 m 5 ls [.int 1, .ref (a 0)]) rfl ?_
    refine lv_if_ne (tgt := 12) hx hb dX10_rank_5 (by decide) (fun _ => ?_) (fun c23 => False.elim (by revert c23; decide))
    refine lv_iconst (v := 0) hx hb dX10_rank_12 (by decide) ?_
    refine lv_iload_n hx hb dX10_rank_13 rfl (lv_at hl 2 rfl) ?_
    refine lv_if_lt (tgt := 22) hx hb dX10_rank_14 (by decide) (fun c24 => ?_) (fun c24 => ?_)
    · replace hR := ifp c24 hR
      refine lv_iconst (v := 1) hx hb dX10_rank_22 (by decide) ?_
      refine lv_goto (tgt := 27) hx hb dX10_rank_23 (by decide) ?_
      obtain ⟨x25, t26, hd27⟩ := ex2 (D_X10_isThrown_ (q 0) (q 1) (q 2) (q 3) 0 1)
      replace hR := bnd2_use hd27 hR
      refine call_V (n := 2) (k0 := 0) (As := [.int 0, .int 1]) (rest := []) hX hB (k_X10_isThrown_ κ l (mw κ a r f q (tb a) w) 0 (a 0) (a 1) (q 0) (q 1) (q 2) (q 3) 0 1 (mw0x (a := a) (r := r) (f := f) (q := q) (T := tb a) (w := w) rfl) x25 t26 hd27) ⟨rfl, yk_X10_isThrown_⟩ wm_5_192 wm_5_194 wp_27 wm_1_6 wm_5_195 ⟨Nat.le_of_ble_eq_true rfl, Nat.le_of_ble_eq_true rfl⟩ ⟨Nat.le_of_ble_eq_true rfl, Nat.le_of_ble_eq_true rfl⟩ (mw0x (a := a) (r := r) (f := f) (q := q) (T := tb a) (w := w) rfl) rfl rfl rfl hl.1 rfl (Nat.le_of_ble_eq_true rfl) dX10_rank_27 (fun o w' H locs hp hB => ?_)
      obtain ⟨rfl, hf28, hw9⟩ := hp
      replace hB : Bd κ A s (mw κ a r f (va_up q 3 t26) (tb a) w) H locs := by exact Bd_eq (mwQ3x rfl _) (by rw [hw9] at hB; exact hB)
      obtain rfl : x25 = 1 := hf28.trans (by decide)
      refine W.eq (g2 := F0 m 30 ls [.int 1]) rfl ?_
      refine lv_if_eq (tgt := 35) hx hb dX10_rank_30 (by decide) (fun c29 => False.elim (by revert c29; decide)) (fun _ => ?_)
      refine lv_iconst (v := 0) hx hb dX10_rank_33 (by decide) ?_
      rw [← hQ]
      exact end_i hX hB hA3 rfl rfl (by obtain ⟨rfl, rfl⟩ := pr2 hR; exact ⟨rfl, ⟨rfl, rfl, rfl⟩, rfl⟩) (Nat.le_of_ble_eq_true rfl) (Nat.le_of_ble_eq_true rfl) dX10_rank_34
    · replace hR := ifn c24 hR
      refine lv_iload_n hx hb dX10_rank_17 rfl (lv_at hl 2 rfl) ?_
      refine lv_iconst (v := 1) hx hb dX10_rank_18 (by decide) ?_
      refine lv_icmp_le (tgt := 26) hx hb dX10_rank_19 (by decide) (fun c30 => ?_) (fun c30 => ?_)
      · replace hR := ifp c30 hR
        refine lv_iconst (v := 0) hx hb dX10_rank_26 (by decide) ?_
        obtain ⟨x31, t32, hd33⟩ := ex2 (D_X10_isThrown_ (q 0) (q 1) (q 2) (q 3) 0 0)
        replace hR := bnd2_use hd33 hR
        refine call_V (n := 2) (k0 := 0) (As := [.int 0, .int 0]) (rest := []) hX hB (k_X10_isThrown_ κ l (mw κ a r f q (tb a) w) 0 (a 0) (a 1) (q 0) (q 1) (q 2) (q 3) 0 0 (mw0x (a := a) (r := r) (f := f) (q := q) (T := tb a) (w := w) rfl) x31 t32 hd33) ⟨rfl, yk_X10_isThrown_⟩ wm_5_192 wm_5_194 wp_27 wm_1_6 wm_5_195 ⟨Nat.le_of_ble_eq_true rfl, Nat.le_of_ble_eq_true rfl⟩ ⟨Nat.le_of_ble_eq_true rfl, Nat.le_of_ble_eq_true rfl⟩ (mw0x (a := a) (r := r) (f := f) (q := q) (T := tb a) (w := w) rfl) rfl rfl rfl hl.1 rfl (Nat.le_of_ble_eq_true rfl) dX10_rank_27 (fun o w' H locs hp hB => ?_)
        obtain ⟨rfl, hf34, hw9⟩ := hp
        replace hB : Bd κ A s (mw κ a r f (va_up q 3 t32) (tb a) w) H locs := by exact Bd_eq (mwQ3x rfl _) (by rw [hw9] at hB; exact hB)
        obtain rfl : x31 = 0 := hf34.trans (by decide)
        refine W.eq (g2 := F0 m 30 ls [.int 0]) rfl ?_
        refine lv_if_eq (tgt := 35) hx hb dX10_rank_30 (by decide) (fun _ => ?_) (fun c35 => False.elim (by revert c35; decide))
        refine lv_iload_n hx hb dX10_rank_35 rfl (lv_at hl 2 rfl) ?_
        refine lv_if_ne (tgt := 49) hx hb dX10_rank_36 (by decide) (fun c36 => ?_) (fun c36 => ?_)
        · replace hR := ifn c36 hR
          refine newO (fs := [.null, .null, .int 0, .int 0]) hX hB (ci := 9) rfl in8 tyX8_ok wm_6_127 wm_6_128 wm_1_15 df9 (Nat.le_of_ble_eq_true rfl) (Nat.le_of_ble_eq_true rfl) dX10_rank_49 (fun q37 H hB => ?_)
          refine lv_dup hx hb dX10_rank_52 rfl ?_
          refine lv_aload_n hx hb dX10_rank_53 rfl (lv_at hl 0 rfl) ?_
          refine gf (k0 := 1) hX hB (mw0x (a := a) (r := r) (f := f) (q := (va_up q 3 t32)) (T := tb a) (w := w) rfl) rfl in10 0 (by decide) wm_5_162 rfl rfl dX10_rank_54 ?_
          refine lv_iload_n hx hb dX10_rank_57 rfl (lv_at hl 1 rfl) ?_
          refine aaldM (k0 := 2) hX hB (mw1 (a := a) (r := r) (f := f) (q := (va_up q 3 t32)) (T := tb a) (w := w)) (vp_in_mk (by assumption) (by assumption)) rfl dX10_rank_58 ?_
          have hb38 := mok_r hm y.toNatClampNeg (by omega)
          obtain ⟨F43, F44, S45, G46, hd47⟩ := ex4 (D_X8_init (r (2 * y.toNatClampNeg)) (r (2 * y.toNatClampNeg + 1)) (f y.toNatClampNeg))
          replace hR := bnd4_use hd47 hR
          refine call_I (n := 1) (As := [.ref (a (2 + 2 * y.toNatClampNeg))]) (rest := [.ref q37]) hX hB (k_X8_init κ l (mw κ a r f (va_up q 3 t32) (tb a) w) q37 (2 + 2 * y.toNatClampNeg) (3 + 2 * y.toNatClampNeg) (a (2 + 2 * y.toNatClampNeg)) (a (3 + 2 * y.toNatClampNeg)) (r (2 * y.toNatClampNeg)) (r (2 * y.toNatClampNeg + 1)) (f y.toNatClampNeg) (mwG (i := y.toNatClampNeg) (a := a) (r := r) (f := f) (q := (va_up q 3 t32)) (T := tb a) (w := w) (by omega)) (mwA (i := y.toNatClampNeg) (a := a) (r := r) (f := f) (q := (va_up q 3 t32)) (T := tb a) (w := w) (by omega)) (mok_shp (i := y.toNatClampNeg) hm (by omega)) (fun k hk => sm_ng ((hm _ (by omega)).2 k hk)) F43 F44 S45 G46 hd47) yk_X8_init rfl wm_6_129 wm_6_130 wm_1_15 wm_6_131 ⟨Nat.le_of_ble_eq_true rfl, Nat.le_of_ble_eq_true rfl⟩ ⟨Nat.le_of_ble_eq_true rfl, Nat.le_of_ble_eq_true rfl⟩ rfl hl.1 rfl (Nat.le_of_ble_eq_true rfl) dX10_rank_59 (fun o w' H locs hp hB => ?_)
          obtain ⟨g39, b40, g41, b42, rfl, hf48, hw9⟩ := hp
          replace hB : Bd κ A s (lA κ b40 ((r (2 * y.toNatClampNeg)) * 5) F43 :: gO g39 (r (2 * y.toNatClampNeg)) (r (2 * y.toNatClampNeg)) b40 :: lA κ b42 ((r (2 * y.toNatClampNeg)) * 5) F44 :: gO g41 (r (2 * y.toNatClampNeg)) (r (2 * y.toNatClampNeg + 1)) b42 :: (q37, .inr (9, [.ref g41, .ref g39, .int S45, .int G46])) :: mw κ a r f (va_up q 3 t32) (tb a) w) H locs := by rw [hw9] at hB; exact hB
          refine W.eq (g2 := F0 m 62 ls [.ref q37]) rfl ?_
          refine lv_astore_n (lv' := [(3, .ref q37), (0, .ref (a 0)), (1, .int y), (2, .int z)]) hx hb dX10_rank_62 rfl hl (by decide) rfl (fun ls hl => ?_)
          refine lv_aload_n hx hb dX10_rank_63 rfl (lv_at hl 1 rfl) ?_
          refine lv_iconst (v := 0) hx hb dX10_rank_64 (by decide) ?_
          refine lv_iconst (v := 0) hx hb dX10_rank_65 (by decide) ?_
          refine lv_aload_n hx hb dX10_rank_66 rfl (lv_at hl 0 rfl) ?_
          refine gf (k0 := 4) hX hB rfl rfl in8 3 (by decide) wm_6_166 rfl rfl dX10_rank_67 ?_
          obtain ⟨x49, t50, hd51⟩ := ex2 (D_X10_isThrown ((va_up q 3 t32) 0) ((va_up q 3 t32) 1) ((va_up q 3 t32) 2) ((va_up q 3 t32) 3) 0 0 G46)
          replace hR := bnd2_use hd51 hR
          refine call_V (n := 3) (k0 := 5) (As := [.int 0, .int 0, .int G46]) (rest := []) hX hB (k_X10_isThrown κ l (lA κ b40 ((r (2 * y.toNatClampNeg)) * 5) F43 :: gO g39 (r (2 * y.toNatClampNeg)) (r (2 * y.toNatClampNeg)) b40 :: lA κ b42 ((r (2 * y.toNatClampNeg)) * 5) F44 :: gO g41 (r (2 * y.toNatClampNeg)) (r (2 * y.toNatClampNeg + 1)) b42 :: (q37, .inr (9, [.ref g41, .ref g39, .int S45, .int G46])) :: mw κ a r f (va_up q 3 t32) (tb a) w) 5 (a 0) (a 1) ((va_up q 3 t32) 0) ((va_up q 3 t32) 1) ((va_up q 3 t32) 2) ((va_up q 3 t32) 3) 0 0 G46 (mw0x (a := a) (r := r) (f := f) (q := (va_up q 3 t32)) (T := tb a) (w := w) rfl) x49 t50 hd51) ⟨rfl, yk_X10_isThrown⟩ wm_5_196 wm_5_198 wp_28 wm_1_6 wm_5_199 ⟨Nat.le_of_ble_eq_true rfl, Nat.le_of_ble_eq_true rfl⟩ ⟨Nat.le_of_ble_eq_true rfl, Nat.le_of_ble_eq_true rfl⟩ (mw0x (a := a) (r := r) (f := f) (q := (va_up q 3 t32)) (T := tb a) (w := w) rfl) rfl rfl rfl hl.1 rfl (Nat.le_of_ble_eq_true rfl) dX10_rank_70 (fun o w' H locs hp hB => ?_)
          obtain ⟨rfl, hf52, hw9⟩ := hp
          replace hB : Bd κ A s (lA κ b40 ((r (2 * y.toNatClampNeg)) * 5) F43 :: gO g39 (r (2 * y.toNatClampNeg)) (r (2 * y.toNatClampNeg)) b40 :: lA κ b42 ((r (2 * y.toNatClampNeg)) * 5) F44 :: gO g41 (r (2 * y.toNatClampNeg)) (r (2 * y.toNatClampNeg + 1)) b42 :: (q37, .inr (9, [.ref g41, .ref g39, .int S45, .int G46])) :: mw κ a r f (va_up (va_up q 3 t32) 3 t50) (tb a) w) H locs := by exact Bd_eq (congrArg (List.cons _) (congrArg (List.cons _) (congrArg (List.cons _) (congrArg (List.cons _) (congrArg (List.cons _) (mwQ3x rfl _)))))) (by rw [hw9] at hB; exact hB)
          rcases thr_cases hf52 with ⟨rfl, hz53a, hz53b, hz53c⟩ | ⟨rfl, hz53⟩
          · replace hR := ifp rfl hR
            refine W.eq (g2 := F0 m 73 ls [.int 0]) rfl ?_
            refine lv_if_eq (tgt := 80) hx hb dX10_rank_73 (by decide) (fun _ => ?_) (fun c54 => False.elim (by revert c54; decide))
            refine lv_aload_n hx hb dX10_rank_80 rfl (lv_at hl 0 rfl) ?_
            obtain ⟨x55, hd56⟩ := ex1 (D_X8_rank (r (2 * y.toNatClampNeg)) (r (2 * y.toNatClampNeg + 1)) F43 F44 S45 G46)
            replace hR := bnd1_use hd56 hR
            refine call_V (n := 0) (k0 := 4) (As := []) (rest := []) hX hB (k_X8_rank κ l (mw κ a r f (va_up (va_up q 3 t32) 3 t50) (tb a) w) q37 g39 b40 g41 b42 (r (2 * y.toNatClampNeg)) (r (2 * y.toNatClampNeg + 1)) F43 F44 S45 G46 (mok_shp (i := y.toNatClampNeg) hm (by omega)) x55 hd56) ⟨rfl, yk_X8_rank⟩ wm_7_121 wm_7_122 wm_7_123 wm_1_15 wm_7_124 ⟨Nat.le_of_ble_eq_true rfl, Nat.le_of_ble_eq_true rfl⟩ ⟨Nat.le_of_ble_eq_true rfl, Nat.le_of_ble_eq_true rfl⟩ rfl rfl rfl rfl hl.1 rfl (Nat.le_of_ble_eq_true rfl) dX10_rank_81 (fun o w' H locs hp hB => ?_)
            obtain ⟨rfl, hw9⟩ := hp
            replace hB : Bd κ A s (lA κ b40 ((r (2 * y.toNatClampNeg)) * 5) F43 :: gO g39 (r (2 * y.toNatClampNeg)) (r (2 * y.toNatClampNeg)) b40 :: lA κ b42 ((r (2 * y.toNatClampNeg)) * 5) F44 :: gO g41 (r (2 * y.toNatClampNeg)) (r (2 * y.toNatClampNeg + 1)) b42 :: (q37, .inr (9, [.ref g41, .ref g39, .int S45, .int G46])) :: mw κ a r f (va_up (va_up q 3 t32) 3 t50) (tb a) w) H locs := by rw [hw9] at hB; exact hB
            refine W.eq (g2 := F0 m 84 ls [.int x55]) rfl ?_
            replace hB : Bd κ A s (lA κ b40 ((r (2 * y.toNatClampNeg)) * 5) F43 :: gO g39 (r (2 * y.toNatClampNeg)) (r (2 * y.toNatClampNeg)) b40 :: lA κ b42 ((r (2 * y.toNatClampNeg)) * 5) F44 :: gO g41 (r (2 * y.toNatClampNeg)) (r (2 * y.toNatClampNeg + 1)) b42 :: mw κ a r f (va_up (va_up q 3 t32) 3 t50) (tb a) w) H locs := Bd_del 4 hB
            replace hB : Bd κ A s (lA κ b40 ((r (2 * y.toNatClampNeg)) * 5) F43 :: gO g39 (r (2 * y.toNatClampNeg)) (r (2 * y.toNatClampNeg)) b40 :: lA κ b42 ((r (2 * y.toNatClampNeg)) * 5) F44 :: mw κ a r f (va_up (va_up q 3 t32) 3 t50) (tb a) w) H locs := Bd_del 3 hB
            replace hB : Bd κ A s (lA κ b40 ((r (2 * y.toNatClampNeg)) * 5) F43 :: gO g39 (r (2 * y.toNatClampNeg)) (r (2 * y.toNatClampNeg)) b40 :: mw κ a r f (va_up (va_up q 3 t32) 3 t50) (tb a) w) H locs := Bd_del 2 hB
            replace hB : Bd κ A s (lA κ b40 ((r (2 * y.toNatClampNeg)) * 5) F43 :: mw κ a r f (va_up (va_up q 3 t32) 3 t50) (tb a) w) H locs := Bd_del 1 hB
            replace hB : Bd κ A s (mw κ a r f (va_up (va_up q 3 t32) 3 t50) (tb a) w) H locs := Bd_del 0 hB
            rw [← hQ]
            exact end_i hX hB hA3 rfl rfl (by obtain ⟨rfl, rfl⟩ := pr2 hR; exact ⟨rfl, ⟨rfl, rfl, rfl⟩, rfl⟩) (Nat.le_of_ble_eq_true rfl) (Nat.le_of_ble_eq_true rfl) dX10_rank_84
          · replace hR := ifn (by decide) hR
            refine W.eq (g2 := F0 m 73 ls [.int 1]) rfl ?_
            refine lv_if_eq (tgt := 80) hx hb dX10_rank_73 (by decide) (fun c57 => False.elim (by revert c57; decide)) (fun _ => ?_)
            refine lv_iconst (v := 0) hx hb dX10_rank_76 (by decide) ?_
            refine lv_goto (tgt := 84) hx hb dX10_rank_77 (by decide) ?_
            replace hB : Bd κ A s (lA κ b40 ((r (2 * y.toNatClampNeg)) * 5) F43 :: gO g39 (r (2 * y.toNatClampNeg)) (r (2 * y.toNatClampNeg)) b40 :: lA κ b42 ((r (2 * y.toNatClampNeg)) * 5) F44 :: gO g41 (r (2 * y.toNatClampNeg)) (r (2 * y.toNatClampNeg + 1)) b42 :: mw κ a r f (va_up (va_up q 3 t32) 3 t50) (tb a) w) H locs := Bd_del 4 hB
            replace hB : Bd κ A s (lA κ b40 ((r (2 * y.toNatClampNeg)) * 5) F43 :: gO g39 (r (2 * y.toNatClampNeg)) (r (2 * y.toNatClampNeg)) b40 :: lA κ b42 ((r (2 * y.toNatClampNeg)) * 5) F44 :: mw κ a r f (va_up (va_up q 3 t32) 3 t50) (tb a) w) H locs := Bd_del 3 hB
            replace hB : Bd κ A s (lA κ b40 ((r (2 * y.toNatClampNeg)) * 5) F43 :: gO g39 (r (2 * y.toNatClampNeg)) (r (2 * y.toNatClampNeg)) b40 :: mw κ a r f (va_up (va_up q 3 t32) 3 t50) (tb a) w) H locs := Bd_del 2 hB
            replace hB : Bd κ A s (lA κ b40 ((r (2 * y.toNatClampNeg)) * 5) F43 :: mw κ a r f (va_up (va_up q 3 t32) 3 t50) (tb a) w) H locs := Bd_del 1 hB
            replace hB : Bd κ A s (mw κ a r f (va_up (va_up q 3 t32) 3 t50) (tb a) w) H locs := Bd_del 0 hB
            rw [← hQ]
            exact end_i hX hB hA3 rfl rfl (by obtain ⟨rfl, rfl⟩ := pr2 hR; exact ⟨rfl, ⟨rfl, rfl, rfl⟩, rfl⟩) (Nat.le_of_ble_eq_true rfl) (Nat.le_of_ble_eq_true rfl) dX10_rank_84
        · replace hR := ifp c36 hR
          refine lv_aload_n hx hb dX10_rank_39 rfl (lv_at hl 0 rfl) ?_
          refine gf (k0 := 0) hX hB (mw0x (a := a) (r := r) (f := f) (q := (va_up q 3 t32)) (T := tb a) (w := w) rfl) rfl in10 0 (by decide) wm_5_162 rfl rfl dX10_rank_40 ?_
          refine lv_iload_n hx hb dX10_rank_43 rfl (lv_at hl 1 rfl) ?_
          refine aaldM (k0 := 1) hX hB (mw1 (a := a) (r := r) (f := f) (q := (va_up q 3 t32)) (T := tb a) (w := w)) (vp_in_mk (by assumption) (by assumption)) rfl dX10_rank_44 ?_
          have hb58 := mok_r hm y.toNatClampNeg (by omega)
          obtain ⟨x59, hd60⟩ := ex1 (D_X7_rank (r (2 * y.toNatClampNeg)) (r (2 * y.toNatClampNeg + 1)) (f y.toNatClampNeg))
          replace hR := bnd1_use hd60 hR
          refine call_V (n := 0) (k0 := (2 + 2 * y.toNatClampNeg)) (As := []) (rest := []) hX hB (k_X7_rank κ l (mw κ a r f (va_up q 3 t32) (tb a) w) (2 + 2 * y.toNatClampNeg) (3 + 2 * y.toNatClampNeg) (a (2 + 2 * y.toNatClampNeg)) (a (3 + 2 * y.toNatClampNeg)) (r (2 * y.toNatClampNeg)) (r (2 * y.toNatClampNeg + 1)) (f y.toNatClampNeg) (mwG (i := y.toNatClampNeg) (a := a) (r := r) (f := f) (q := (va_up q 3 t32)) (T := tb a) (w := w) (by omega)) (mwA (i := y.toNatClampNeg) (a := a) (r := r) (f := f) (q := (va_up q 3 t32)) (T := tb a) (w := w) (by omega)) (mok_shp (i := y.toNatClampNeg) hm (by omega)) x59 hd60) ⟨rfl, yk_X7_rank⟩ wm_7_115 wm_7_116 wm_7_117 wm_1_7 wm_7_118 ⟨Nat.le_of_ble_eq_true rfl, Nat.le_of_ble_eq_true rfl⟩ ⟨Nat.le_of_ble_eq_true rfl, Nat.le_of_ble_eq_true rfl⟩ (mwG (i := y.toNatClampNeg) (a := a) (r := r) (f := f) (q := (va_up q 3 t32)) (T := tb a) (w := w) (by omega)) rfl rfl rfl hl.1 rfl (Nat.le_of_ble_eq_true rfl) dX10_rank_45 (fun o w' H locs hp hB => ?_)
          obtain ⟨rfl, hw9⟩ := hp
          replace hB : Bd κ A s (mw κ a r f (va_up q 3 t32) (tb a) w) H locs := by rw [hw9] at hB; exact hB
          refine W.eq (g2 := F0 m 48 ls [.int x59]) rfl ?_
          rw [← hQ]
          exact end_i hX hB hA3 rfl rfl (by obtain ⟨rfl, rfl⟩ := pr2 hR; exact ⟨rfl, ⟨rfl, rfl, rfl⟩, rfl⟩) (Nat.le_of_ble_eq_true rfl) (Nat.le_of_ble_eq_true rfl) dX10_rank_48
      · replace hR := ifn c30 hR
        refine lv_iconst (v := 1) hx hb dX10_rank_22 (by decide) ?_
        refine lv_goto (tgt := 27) hx hb dX10_rank_23 (by decide) ?_
        obtain ⟨x61, t62, hd63⟩ := ex2 (D_X10_isThrown_ (q 0) (q 1) (q 2) (q 3) 0 1)
        replace hR := bnd2_use hd63 hR
        refine call_V (n := 2) (k0 := 0) (As := [.int 0, .int 1]) (rest := []) hX hB (k_X10_isThrown_ κ l (mw κ a r f q (tb a) w) 0 (a 0) (a 1) (q 0) (q 1) (q 2) (q 3) 0 1 (mw0x (a := a) (r := r) (f := f) (q := q) (T := tb a) (w := w) rfl) x61 t62 hd63) ⟨rfl, yk_X10_isThrown_⟩ wm_5_192 wm_5_194 wp_27 wm_1_6 wm_5_195 ⟨Nat.le_of_ble_eq_true rfl, Nat.le_of_ble_eq_true rfl⟩ ⟨Nat.le_of_ble_eq_true rfl, Nat.le_of_ble_eq_true rfl⟩ (mw0x (a := a) (r := r) (f := f) (q := q) (T := tb a) (w := w) rfl) rfl rfl rfl hl.1 rfl (Nat.le_of_ble_eq_true rfl) dX10_rank_27 (fun o w' H locs hp hB => ?_)
        obtain ⟨rfl, hf64, hw9⟩ := hp
        replace hB : Bd κ A s (mw κ a r f (va_up q 3 t62) (tb a) w) H locs := by exact Bd_eq (mwQ3x rfl _) (by rw [hw9] at hB; exact hB)
        obtain rfl : x61 = 1 := hf64.trans (by decide)
        refine W.eq (g2 := F0 m 30 ls [.int 1]) rfl ?_
        refine lv_if_eq (tgt := 35) hx hb dX10_rank_30 (by decide) (fun c65 => False.elim (by revert c65; decide)) (fun _ => ?_)
        refine lv_iconst (v := 0) hx hb dX10_rank_33 (by decide) ?_
        rw [← hQ]
        exact end_i hX hB hA3 rfl rfl (by obtain ⟨rfl, rfl⟩ := pr2 hR; exact ⟨rfl, ⟨rfl, rfl, rfl⟩, rfl⟩) (Nat.le_of_ble_eq_true rfl) (Nat.le_of_ble_eq_true rfl) dX10_rank_34
noncomputable def D_X10_told_ (r : Nat → Nat) (f : Nat → Nat → Int64) (q : Nat → Int32) (y : Int32) (z : Int32) (u : Int32) (v : Int32) : Int32 × (Nat → Int32) := bnd1 (D_X10_isTable y) (fun (z1 : Int32) => (if z1 = 0 then bnd2 (D_X10_isThrown__ (q 0) (q 1) (q 2) (q 3) 1) (fun (x6 : Int32) (t7 : Int32) => (0, va_up q 3 t7)) else bnd2 (D_X10_isThrown__ (q 0) (q 1) (q 2) (q 3) 0) (fun (x12 : Int32) (t13 : Int32) => (if z = 4 then (if z = 1 then (if z < 0 then bnd2 (D_X10_isThrown_ ((va_up q 3 t13) 0) ((va_up q 3 t13) 1) ((va_up q 3 t13) 2) ((va_up q 3 t13) 3) 0 1) (fun (x206 : Int32) (t207 : Int32) => (0, va_up (va_up q 3 t13) 3 t207)) else (if 4 < z then bnd2 (D_X10_isThrown_ ((va_up q 3 t13) 0) ((va_up q 3 t13) 1) ((va_up q 3 t13) 2) ((va_up q 3 t13) 3) 0 1) (fun (x212 : Int32) (t213 : Int32) => (0, va_up (va_up q 3 t13) 3 t213)) else (if u < 0 then bnd2 (D_X10_isThrown_ ((va_up q 3 t13) 0) ((va_up q 3 t13) 1) ((va_up q 3 t13) 2) ((va_up q 3 t13) 3) 0 1) (fun (x218 : Int32) (t219 : Int32) => (0, va_up (va_up q 3 t13) 3 t219)) else (if (nI (r (2 * y.toNatClampNeg + 1))) ≤ u then bnd2 (D_X10_isThrown_ ((va_up q 3 t13) 0) ((va_up q 3 t13) 1) ((va_up q 3 t13) 2) ((va_up q 3 t13) 3) 0 1) (fun (x225 : Int32) (t226 : Int32) => (0, va_up (va_up q 3 t13) 3 t226)) else (if v < 0 then bnd2 (D_X10_isThrown_ ((va_up q 3 t13) 0) ((va_up q 3 t13) 1) ((va_up q 3 t13) 2) ((va_up q 3 t13) 3) 0 1) (fun (x231 : Int32) (t232 : Int32) => (0, va_up (va_up q 3 t13) 3 t232)) else (if v < (nI (r (2 * y.toNatClampNeg))) then bnd2 (D_X10_isThrown_ ((va_up q 3 t13) 0) ((va_up q 3 t13) 1) ((va_up q 3 t13) 2) ((va_up q 3 t13) 3) 0 0) (fun (x238 : Int32) (t239 : Int32) => bnd4 (D_X10_toldOf (r (2 * y.toNatClampNeg)) (r (2 * y.toNatClampNeg + 1)) (f y.toNatClampNeg) z) (fun (z243 : Int32) (R244 : Nat) (C245 : Nat) (F246 : Nat → Int64) => (if z243 = 0 then bnd2 (D_X10_isThrown ((va_up (va_up q 3 t13) 3 t239) 0) ((va_up (va_up q 3 t13) 3 t239) 1) ((va_up (va_up q 3 t13) 3 t239) 2) ((va_up (va_up q 3 t13) 3 t239) 3) 0 0 1) (fun (x251 : Int32) (t252 : Int32) => (0, va_up (va_up (va_up q 3 t13) 3 t239) 3 t252)) else bnd2 (D_X10_isThrown ((va_up (va_up q 3 t13) 3 t239) 0) ((va_up (va_up q 3 t13) 3 t239) 1) ((va_up (va_up q 3 t13) 3 t239) 2) ((va_up (va_up q 3 t13) 3 t239) 3) 0 0 0) (fun (x256 : Int32) (t257 : Int32) => (((F246 (((u).toNatClampNeg) * 5 + ((v).toNatClampNeg)))).toInt32, va_up (va_up (va_up q 3 t13) 3 t239) 3 t257))))) else bnd2 (D_X10_isThrown_ ((va_up q 3 t13) 0) ((va_up q 3 t13) 1) ((va_up q 3 t13) 2) ((va_up q 3 t13) 3) 0 1) (fun (x261 : Int32) (t262 : Int32) => (0, va_up (va_up q 3 t13) 3 t262)))))))) else (if z = 3 then (if z < 0 then bnd2 (D_X10_isThrown_ ((va_up q 3 t13) 0) ((va_up q 3 t13) 1) ((va_up q 3 t13) 2) ((va_up q 3 t13) 3) 0 1) (fun (x329 : Int32) (t330 : Int32) => (0, va_up (va_up q 3 t13) 3 t330)) else (if 4 < z then bnd2 (D_X10_isThrown_ ((va_up q 3 t13) 0) ((va_up q 3 t13) 1) ((va_up q 3 t13) 2) ((va_up q 3 t13) 3) 0 1) (fun (x335 : Int32) (t336 : Int32) => (0, va_up (va_up q 3 t13) 3 t336)) else (if u < 0 then bnd2 (D_X10_isThrown_ ((va_up q 3 t13) 0) ((va_up q 3 t13) 1) ((va_up q 3 t13) 2) ((va_up q 3 t13) 3) 0 1) (fun (x341 : Int32) (t342 : Int32) => (0, va_up (va_up q 3 t13) 3 t342)) else (if (nI (r (2 * y.toNatClampNeg + 1))) ≤ u then bnd2 (D_X10_isThrown_ ((va_up q 3 t13) 0) ((va_up q 3 t13) 1) ((va_up q 3 t13) 2) ((va_up q 3 t13) 3) 0 1) (fun (x348 : Int32) (t349 : Int32) => (0, va_up (va_up q 3 t13) 3 t349)) else (if v < 0 then bnd2 (D_X10_isThrown_ ((va_up q 3 t13) 0) ((va_up q 3 t13) 1) ((va_up q 3 t13) 2) ((va_up q 3 t13) 3) 0 1) (fun (x354 : Int32) (t355 : Int32) => (0, va_up (va_up q 3 t13) 3 t355)) else (if v < (nI (r (2 * y.toNatClampNeg))) then bnd2 (D_X10_isThrown_ ((va_up q 3 t13) 0) ((va_up q 3 t13) 1) ((va_up q 3 t13) 2) ((va_up q 3 t13) 3) 0 0) (fun (x361 : Int32) (t362 : Int32) => bnd4 (D_X10_toldOf (r (2 * y.toNatClampNeg)) (r (2 * y.toNatClampNeg + 1)) (f y.toNatClampNeg) z) (fun (z366 : Int32) (R367 : Nat) (C368 : Nat) (F369 : Nat → Int64) => (if z366 = 0 then bnd2 (D_X10_isThrown ((va_up (va_up q 3 t13) 3 t362) 0) ((va_up (va_up q 3 t13) 3 t362) 1) ((va_up (va_up q 3 t13) 3 t362) 2) ((va_up (va_up q 3 t13) 3 t362) 3) 0 0 1) (fun (x374 : Int32) (t375 : Int32) => (0, va_up (va_up (va_up q 3 t13) 3 t362) 3 t375)) else bnd2 (D_X10_isThrown ((va_up (va_up q 3 t13) 3 t362) 0) ((va_up (va_up q 3 t13) 3 t362) 1) ((va_up (va_up q 3 t13) 3 t362) 2) ((va_up (va_up q 3 t13) 3 t362) 3) 0 0 0) (fun (x379 : Int32) (t380 : Int32) => (((F369 (((u).toNatClampNeg) * 5 + ((v).toNatClampNeg)))).toInt32, va_up (va_up (va_up q 3 t13) 3 t362) 3 t380))))) else bnd2 (D_X10_isThrown_ ((va_up q 3 t13) 0) ((va_up q 3 t13) 1) ((va_up q 3 t13) 2) ((va_up q 3 t13) 3) 0 1) (fun (x384 : Int32) (t385 : Int32) => (0, va_up (va_up q 3 t13) 3 t385)))))))) else (if z < 0 then bnd2 (D_X10_isThrown_ ((va_up q 3 t13) 0) ((va_up q 3 t13) 1) ((va_up q 3 t13) 2) ((va_up q 3 t13) 3) 0 1) (fun (x268 : Int32) (t269 : Int32) => (0, va_up (va_up q 3 t13) 3 t269)) else (if 4 < z then bnd2 (D_X10_isThrown_ ((va_up q 3 t13) 0) ((va_up q 3 t13) 1) ((va_up q 3 t13) 2) ((va_up q 3 t13) 3) 0 1) (fun (x274 : Int32) (t275 : Int32) => (0, va_up (va_up q 3 t13) 3 t275)) else (if u < 0 then bnd2 (D_X10_isThrown_ ((va_up q 3 t13) 0) ((va_up q 3 t13) 1) ((va_up q 3 t13) 2) ((va_up q 3 t13) 3) 0 1) (fun (x280 : Int32) (t281 : Int32) => (0, va_up (va_up q 3 t13) 3 t281)) else (if (nI (r (2 * y.toNatClampNeg + 1))) ≤ u then bnd2 (D_X10_isThrown_ ((va_up q 3 t13) 0) ((va_up q 3 t13) 1) ((va_up q 3 t13) 2) ((va_up q 3 t13) 3) 0 1) (fun (x287 : Int32) (t288 : Int32) => (0, va_up (va_up q 3 t13) 3 t288)) else (if v < 0 then bnd2 (D_X10_isThrown_ ((va_up q 3 t13) 0) ((va_up q 3 t13) 1) ((va_up q 3 t13) 2) ((va_up q 3 t13) 3) 0 1) (fun (x293 : Int32) (t294 : Int32) => (0, va_up (va_up q 3 t13) 3 t294)) else (if v < (nI (r (2 * y.toNatClampNeg + 1))) then bnd2 (D_X10_isThrown_ ((va_up q 3 t13) 0) ((va_up q 3 t13) 1) ((va_up q 3 t13) 2) ((va_up q 3 t13) 3) 0 0) (fun (x300 : Int32) (t301 : Int32) => bnd4 (D_X10_toldOf (r (2 * y.toNatClampNeg)) (r (2 * y.toNatClampNeg + 1)) (f y.toNatClampNeg) z) (fun (z305 : Int32) (R306 : Nat) (C307 : Nat) (F308 : Nat → Int64) => (if z305 = 0 then bnd2 (D_X10_isThrown ((va_up (va_up q 3 t13) 3 t301) 0) ((va_up (va_up q 3 t13) 3 t301) 1) ((va_up (va_up q 3 t13) 3 t301) 2) ((va_up (va_up q 3 t13) 3 t301) 3) 0 0 1) (fun (x313 : Int32) (t314 : Int32) => (0, va_up (va_up (va_up q 3 t13) 3 t301) 3 t314)) else bnd2 (D_X10_isThrown ((va_up (va_up q 3 t13) 3 t301) 0) ((va_up (va_up q 3 t13) 3 t301) 1) ((va_up (va_up q 3 t13) 3 t301) 2) ((va_up (va_up q 3 t13) 3 t301) 3) 0 0 0) (fun (x318 : Int32) (t319 : Int32) => (((F308 (((u).toNatClampNeg) * 5 + ((v).toNatClampNeg)))).toInt32, va_up (va_up (va_up q 3 t13) 3 t301) 3 t319))))) else bnd2 (D_X10_isThrown_ ((va_up q 3 t13) 0) ((va_up q 3 t13) 1) ((va_up q 3 t13) 2) ((va_up q 3 t13) 3) 0 1) (fun (x323 : Int32) (t324 : Int32) => (0, va_up (va_up q 3 t13) 3 t324)))))))))) else (if z = 1 then (if z < 0 then bnd2 (D_X10_isThrown_ ((va_up q 3 t13) 0) ((va_up q 3 t13) 1) ((va_up q 3 t13) 2) ((va_up q 3 t13) 3) 0 1) (fun (x21 : Int32) (t22 : Int32) => (0, va_up (va_up q 3 t13) 3 t22)) else (if 4 < z then bnd2 (D_X10_isThrown_ ((va_up q 3 t13) 0) ((va_up q 3 t13) 1) ((va_up q 3 t13) 2) ((va_up q 3 t13) 3) 0 1) (fun (x27 : Int32) (t28 : Int32) => (0, va_up (va_up q 3 t13) 3 t28)) else (if u < 0 then bnd2 (D_X10_isThrown_ ((va_up q 3 t13) 0) ((va_up q 3 t13) 1) ((va_up q 3 t13) 2) ((va_up q 3 t13) 3) 0 1) (fun (x33 : Int32) (t34 : Int32) => (0, va_up (va_up q 3 t13) 3 t34)) else (if (nI (r (2 * y.toNatClampNeg))) ≤ u then bnd2 (D_X10_isThrown_ ((va_up q 3 t13) 0) ((va_up q 3 t13) 1) ((va_up q 3 t13) 2) ((va_up q 3 t13) 3) 0 1) (fun (x40 : Int32) (t41 : Int32) => (0, va_up (va_up q 3 t13) 3 t41)) else (if v < 0 then bnd2 (D_X10_isThrown_ ((va_up q 3 t13) 0) ((va_up q 3 t13) 1) ((va_up q 3 t13) 2) ((va_up q 3 t13) 3) 0 1) (fun (x46 : Int32) (t47 : Int32) => (0, va_up (va_up q 3 t13) 3 t47)) else (if v < (nI (r (2 * y.toNatClampNeg))) then bnd2 (D_X10_isThrown_ ((va_up q 3 t13) 0) ((va_up q 3 t13) 1) ((va_up q 3 t13) 2) ((va_up q 3 t13) 3) 0 0) (fun (x53 : Int32) (t54 : Int32) => bnd4 (D_X10_toldOf (r (2 * y.toNatClampNeg)) (r (2 * y.toNatClampNeg + 1)) (f y.toNatClampNeg) z) (fun (z58 : Int32) (R59 : Nat) (C60 : Nat) (F61 : Nat → Int64) => (if z58 = 0 then bnd2 (D_X10_isThrown ((va_up (va_up q 3 t13) 3 t54) 0) ((va_up (va_up q 3 t13) 3 t54) 1) ((va_up (va_up q 3 t13) 3 t54) 2) ((va_up (va_up q 3 t13) 3 t54) 3) 0 0 1) (fun (x66 : Int32) (t67 : Int32) => (0, va_up (va_up (va_up q 3 t13) 3 t54) 3 t67)) else bnd2 (D_X10_isThrown ((va_up (va_up q 3 t13) 3 t54) 0) ((va_up (va_up q 3 t13) 3 t54) 1) ((va_up (va_up q 3 t13) 3 t54) 2) ((va_up (va_up q 3 t13) 3 t54) 3) 0 0 0) (fun (x71 : Int32) (t72 : Int32) => (((F61 (((u).toNatClampNeg) * 5 + ((v).toNatClampNeg)))).toInt32, va_up (va_up (va_up q 3 t13) 3 t54) 3 t72))))) else bnd2 (D_X10_isThrown_ ((va_up q 3 t13) 0) ((va_up q 3 t13) 1) ((va_up q 3 t13) 2) ((va_up q 3 t13) 3) 0 1) (fun (x76 : Int32) (t77 : Int32) => (0, va_up (va_up q 3 t13) 3 t77)))))))) else (if z = 3 then (if z < 0 then bnd2 (D_X10_isThrown_ ((va_up q 3 t13) 0) ((va_up q 3 t13) 1) ((va_up q 3 t13) 2) ((va_up q 3 t13) 3) 0 1) (fun (x144 : Int32) (t145 : Int32) => (0, va_up (va_up q 3 t13) 3 t145)) else (if 4 < z then bnd2 (D_X10_isThrown_ ((va_up q 3 t13) 0) ((va_up q 3 t13) 1) ((va_up q 3 t13) 2) ((va_up q 3 t13) 3) 0 1) (fun (x150 : Int32) (t151 : Int32) => (0, va_up (va_up q 3 t13) 3 t151)) else (if u < 0 then bnd2 (D_X10_isThrown_ ((va_up q 3 t13) 0) ((va_up q 3 t13) 1) ((va_up q 3 t13) 2) ((va_up q 3 t13) 3) 0 1) (fun (x156 : Int32) (t157 : Int32) => (0, va_up (va_up q 3 t13) 3 t157)) else (if (nI (r (2 * y.toNatClampNeg))) ≤ u then bnd2 (D_X10_isThrown_ ((va_up q 3 t13) 0) ((va_up q 3 t13) 1) ((va_up q 3 t13) 2) ((va_up q 3 t13) 3) 0 1) (fun (x163 : Int32) (t164 : Int32) => (0, va_up (va_up q 3 t13) 3 t164)) else (if v < 0 then bnd2 (D_X10_isThrown_ ((va_up q 3 t13) 0) ((va_up q 3 t13) 1) ((va_up q 3 t13) 2) ((va_up q 3 t13) 3) 0 1) (fun (x169 : Int32) (t170 : Int32) => (0, va_up (va_up q 3 t13) 3 t170)) else (if v < (nI (r (2 * y.toNatClampNeg))) then bnd2 (D_X10_isThrown_ ((va_up q 3 t13) 0) ((va_up q 3 t13) 1) ((va_up q 3 t13) 2) ((va_up q 3 t13) 3) 0 0) (fun (x176 : Int32) (t177 : Int32) => bnd4 (D_X10_toldOf (r (2 * y.toNatClampNeg)) (r (2 * y.toNatClampNeg + 1)) (f y.toNatClampNeg) z) (fun (z181 : Int32) (R182 : Nat) (C183 : Nat) (F184 : Nat → Int64) => (if z181 = 0 then bnd2 (D_X10_isThrown ((va_up (va_up q 3 t13) 3 t177) 0) ((va_up (va_up q 3 t13) 3 t177) 1) ((va_up (va_up q 3 t13) 3 t177) 2) ((va_up (va_up q 3 t13) 3 t177) 3) 0 0 1) (fun (x189 : Int32) (t190 : Int32) => (0, va_up (va_up (va_up q 3 t13) 3 t177) 3 t190)) else bnd2 (D_X10_isThrown ((va_up (va_up q 3 t13) 3 t177) 0) ((va_up (va_up q 3 t13) 3 t177) 1) ((va_up (va_up q 3 t13) 3 t177) 2) ((va_up (va_up q 3 t13) 3 t177) 3) 0 0 0) (fun (x194 : Int32) (t195 : Int32) => (((F184 (((u).toNatClampNeg) * 5 + ((v).toNatClampNeg)))).toInt32, va_up (va_up (va_up q 3 t13) 3 t177) 3 t195))))) else bnd2 (D_X10_isThrown_ ((va_up q 3 t13) 0) ((va_up q 3 t13) 1) ((va_up q 3 t13) 2) ((va_up q 3 t13) 3) 0 1) (fun (x199 : Int32) (t200 : Int32) => (0, va_up (va_up q 3 t13) 3 t200)))))))) else (if z < 0 then bnd2 (D_X10_isThrown_ ((va_up q 3 t13) 0) ((va_up q 3 t13) 1) ((va_up q 3 t13) 2) ((va_up q 3 t13) 3) 0 1) (fun (x83 : Int32) (t84 : Int32) => (0, va_up (va_up q 3 t13) 3 t84)) else (if 4 < z then bnd2 (D_X10_isThrown_ ((va_up q 3 t13) 0) ((va_up q 3 t13) 1) ((va_up q 3 t13) 2) ((va_up q 3 t13) 3) 0 1) (fun (x89 : Int32) (t90 : Int32) => (0, va_up (va_up q 3 t13) 3 t90)) else (if u < 0 then bnd2 (D_X10_isThrown_ ((va_up q 3 t13) 0) ((va_up q 3 t13) 1) ((va_up q 3 t13) 2) ((va_up q 3 t13) 3) 0 1) (fun (x95 : Int32) (t96 : Int32) => (0, va_up (va_up q 3 t13) 3 t96)) else (if (nI (r (2 * y.toNatClampNeg))) ≤ u then bnd2 (D_X10_isThrown_ ((va_up q 3 t13) 0) ((va_up q 3 t13) 1) ((va_up q 3 t13) 2) ((va_up q 3 t13) 3) 0 1) (fun (x102 : Int32) (t103 : Int32) => (0, va_up (va_up q 3 t13) 3 t103)) else (if v < 0 then bnd2 (D_X10_isThrown_ ((va_up q 3 t13) 0) ((va_up q 3 t13) 1) ((va_up q 3 t13) 2) ((va_up q 3 t13) 3) 0 1) (fun (x108 : Int32) (t109 : Int32) => (0, va_up (va_up q 3 t13) 3 t109)) else (if v < (nI (r (2 * y.toNatClampNeg + 1))) then bnd2 (D_X10_isThrown_ ((va_up q 3 t13) 0) ((va_up q 3 t13) 1) ((va_up q 3 t13) 2) ((va_up q 3 t13) 3) 0 0) (fun (x115 : Int32) (t116 : Int32) => bnd4 (D_X10_toldOf (r (2 * y.toNatClampNeg)) (r (2 * y.toNatClampNeg + 1)) (f y.toNatClampNeg) z) (fun (z120 : Int32) (R121 : Nat) (C122 : Nat) (F123 : Nat → Int64) => (if z120 = 0 then bnd2 (D_X10_isThrown ((va_up (va_up q 3 t13) 3 t116) 0) ((va_up (va_up q 3 t13) 3 t116) 1) ((va_up (va_up q 3 t13) 3 t116) 2) ((va_up (va_up q 3 t13) 3 t116) 3) 0 0 1) (fun (x128 : Int32) (t129 : Int32) => (0, va_up (va_up (va_up q 3 t13) 3 t116) 3 t129)) else bnd2 (D_X10_isThrown ((va_up (va_up q 3 t13) 3 t116) 0) ((va_up (va_up q 3 t13) 3 t116) 1) ((va_up (va_up q 3 t13) 3 t116) 2) ((va_up (va_up q 3 t13) 3 t116) 3) 0 0 0) (fun (x133 : Int32) (t134 : Int32) => (((F123 (((u).toNatClampNeg) * 5 + ((v).toNatClampNeg)))).toInt32, va_up (va_up (va_up q 3 t13) 3 t116) 3 t134))))) else bnd2 (D_X10_isThrown_ ((va_up q 3 t13) 0) ((va_up q 3 t13) 1) ((va_up q 3 t13) 2) ((va_up q 3 t13) 3) 0 1) (fun (x138 : Int32) (t139 : Int32) => (0, va_up (va_up q 3 t13) 3 t139))))))))))))))
theorem D_X10_told__s {r : Nat → Nat} {f : Nat → Nat → Int64} {q : Nat → Int32} {y : Int32} {z : Int32} {u : Int32} {v : Int32} : D_X10_told_ r f q y z u v = bnd1 (D_X10_isTable y) (fun (z1 : Int32) => (if z1 = 0 then bnd2 (D_X10_isThrown__ (q 0) (q 1) (q 2) (q 3) 1) (fun (x6 : Int32) (t7 : Int32) => (0, va_up q 3 t7)) else bnd2 (D_X10_isThrown__ (q 0) (q 1) (q 2) (q 3) 0) (fun (x12 : Int32) (t13 : Int32) => (if z = 4 then (if z = 1 then (if z < 0 then bnd2 (D_X10_isThrown_ ((va_up q 3 t13) 0) ((va_up q 3 t13) 1) ((va_up q 3 t13) 2) ((va_up q 3 t13) 3) 0 1) (fun (x206 : Int32) (t207 : Int32) => (0, va_up (va_up q 3 t13) 3 t207)) else (if 4 < z then bnd2 (D_X10_isThrown_ ((va_up q 3 t13) 0) ((va_up q 3 t13) 1) ((va_up q 3 t13) 2) ((va_up q 3 t13) 3) 0 1) (fun (x212 : Int32) (t213 : Int32) => (0, va_up (va_up q 3 t13) 3 t213)) else (if u < 0 then bnd2 (D_X10_isThrown_ ((va_up q 3 t13) 0) ((va_up q 3 t13) 1) ((va_up q 3 t13) 2) ((va_up q 3 t13) 3) 0 1) (fun (x218 : Int32) (t219 : Int32) => (0, va_up (va_up q 3 t13) 3 t219)) else (if (nI (r (2 * y.toNatClampNeg + 1))) ≤ u then bnd2 (D_X10_isThrown_ ((va_up q 3 t13) 0) ((va_up q 3 t13) 1) ((va_up q 3 t13) 2) ((va_up q 3 t13) 3) 0 1) (fun (x225 : Int32) (t226 : Int32) => (0, va_up (va_up q 3 t13) 3 t226)) else (if v < 0 then bnd2 (D_X10_isThrown_ ((va_up q 3 t13) 0) ((va_up q 3 t13) 1) ((va_up q 3 t13) 2) ((va_up q 3 t13) 3) 0 1) (fun (x231 : Int32) (t232 : Int32) => (0, va_up (va_up q 3 t13) 3 t232)) else (if v < (nI (r (2 * y.toNatClampNeg))) then bnd2 (D_X10_isThrown_ ((va_up q 3 t13) 0) ((va_up q 3 t13) 1) ((va_up q 3 t13) 2) ((va_up q 3 t13) 3) 0 0) (fun (x238 : Int32) (t239 : Int32) => bnd4 (D_X10_toldOf (r (2 * y.toNatClampNeg)) (r (2 * y.toNatClampNeg + 1)) (f y.toNatClampNeg) z) (fun (z243 : Int32) (R244 : Nat) (C245 : Nat) (F246 : Nat → Int64) => (if z243 = 0 then bnd2 (D_X10_isThrown ((va_up (va_up q 3 t13) 3 t239) 0) ((va_up (va_up q 3 t13) 3 t239) 1) ((va_up (va_up q 3 t13) 3 t239) 2) ((va_up (va_up q 3 t13) 3 t239) 3) 0 0 1) (fun (x251 : Int32) (t252 : Int32) => (0, va_up (va_up (va_up q 3 t13) 3 t239) 3 t252)) else bnd2 (D_X10_isThrown ((va_up (va_up q 3 t13) 3 t239) 0) ((va_up (va_up q 3 t13) 3 t239) 1) ((va_up (va_up q 3 t13) 3 t239) 2) ((va_up (va_up q 3 t13) 3 t239) 3) 0 0 0) (fun (x256 : Int32) (t257 : Int32) => (((F246 (((u).toNatClampNeg) * 5 + ((v).toNatClampNeg)))).toInt32, va_up (va_up (va_up q 3 t13) 3 t239) 3 t257))))) else bnd2 (D_X10_isThrown_ ((va_up q 3 t13) 0) ((va_up q 3 t13) 1) ((va_up q 3 t13) 2) ((va_up q 3 t13) 3) 0 1) (fun (x261 : Int32) (t262 : Int32) => (0, va_up (va_up q 3 t13) 3 t262)))))))) else (if z = 3 then (if z < 0 then bnd2 (D_X10_isThrown_ ((va_up q 3 t13) 0) ((va_up q 3 t13) 1) ((va_up q 3 t13) 2) ((va_up q 3 t13) 3) 0 1) (fun (x329 : Int32) (t330 : Int32) => (0, va_up (va_up q 3 t13) 3 t330)) else (if 4 < z then bnd2 (D_X10_isThrown_ ((va_up q 3 t13) 0) ((va_up q 3 t13) 1) ((va_up q 3 t13) 2) ((va_up q 3 t13) 3) 0 1) (fun (x335 : Int32) (t336 : Int32) => (0, va_up (va_up q 3 t13) 3 t336)) else (if u < 0 then bnd2 (D_X10_isThrown_ ((va_up q 3 t13) 0) ((va_up q 3 t13) 1) ((va_up q 3 t13) 2) ((va_up q 3 t13) 3) 0 1) (fun (x341 : Int32) (t342 : Int32) => (0, va_up (va_up q 3 t13) 3 t342)) else (if (nI (r (2 * y.toNatClampNeg + 1))) ≤ u then bnd2 (D_X10_isThrown_ ((va_up q 3 t13) 0) ((va_up q 3 t13) 1) ((va_up q 3 t13) 2) ((va_up q 3 t13) 3) 0 1) (fun (x348 : Int32) (t349 : Int32) => (0, va_up (va_up q 3 t13) 3 t349)) else (if v < 0 then bnd2 (D_X10_isThrown_ ((va_up q 3 t13) 0) ((va_up q 3 t13) 1) ((va_up q 3 t13) 2) ((va_up q 3 t13) 3) 0 1) (fun (x354 : Int32) (t355 : Int32) => (0, va_up (va_up q 3 t13) 3 t355)) else (if v < (nI (r (2 * y.toNatClampNeg))) then bnd2 (D_X10_isThrown_ ((va_up q 3 t13) 0) ((va_up q 3 t13) 1) ((va_up q 3 t13) 2) ((va_up q 3 t13) 3) 0 0) (fun (x361 : Int32) (t362 : Int32) => bnd4 (D_X10_toldOf (r (2 * y.toNatClampNeg)) (r (2 * y.toNatClampNeg + 1)) (f y.toNatClampNeg) z) (fun (z366 : Int32) (R367 : Nat) (C368 : Nat) (F369 : Nat → Int64) => (if z366 = 0 then bnd2 (D_X10_isThrown ((va_up (va_up q 3 t13) 3 t362) 0) ((va_up (va_up q 3 t13) 3 t362) 1) ((va_up (va_up q 3 t13) 3 t362) 2) ((va_up (va_up q 3 t13) 3 t362) 3) 0 0 1) (fun (x374 : Int32) (t375 : Int32) => (0, va_up (va_up (va_up q 3 t13) 3 t362) 3 t375)) else bnd2 (D_X10_isThrown ((va_up (va_up q 3 t13) 3 t362) 0) ((va_up (va_up q 3 t13) 3 t362) 1) ((va_up (va_up q 3 t13) 3 t362) 2) ((va_up (va_up q 3 t13) 3 t362) 3) 0 0 0) (fun (x379 : Int32) (t380 : Int32) => (((F369 (((u).toNatClampNeg) * 5 + ((v).toNatClampNeg)))).toInt32, va_up (va_up (va_up q 3 t13) 3 t362) 3 t380))))) else bnd2 (D_X10_isThrown_ ((va_up q 3 t13) 0) ((va_up q 3 t13) 1) ((va_up q 3 t13) 2) ((va_up q 3 t13) 3) 0 1) (fun (x384 : Int32) (t385 : Int32) => (0, va_up (va_up q 3 t13) 3 t385)))))))) else (if z < 0 then bnd2 (D_X10_isThrown_ ((va_up q 3 t13) 0) ((va_up q 3 t13) 1) ((va_up q 3 t13) 2) ((va_up q 3 t13) 3) 0 1) (fun (x268 : Int32) (t269 : Int32) => (0, va_up (va_up q 3 t13) 3 t269)) else (if 4 < z then bnd2 (D_X10_isThrown_ ((va_up q 3 t13) 0) ((va_up q 3 t13) 1) ((va_up q 3 t13) 2) ((va_up q 3 t13) 3) 0 1) (fun (x274 : Int32) (t275 : Int32) => (0, va_up (va_up q 3 t13) 3 t275)) else (if u < 0 then bnd2 (D_X10_isThrown_ ((va_up q 3 t13) 0) ((va_up q 3 t13) 1) ((va_up q 3 t13) 2) ((va_up q 3 t13) 3) 0 1) (fun (x280 : Int32) (t281 : Int32) => (0, va_up (va_up q 3 t13) 3 t281)) else (if (nI (r (2 * y.toNatClampNeg + 1))) ≤ u then bnd2 (D_X10_isThrown_ ((va_up q 3 t13) 0) ((va_up q 3 t13) 1) ((va_up q 3 t13) 2) ((va_up q 3 t13) 3) 0 1) (fun (x287 : Int32) (t288 : Int32) => (0, va_up (va_up q 3 t13) 3 t288)) else (if v < 0 then bnd2 (D_X10_isThrown_ ((va_up q 3 t13) 0) ((va_up q 3 t13) 1) ((va_up q 3 t13) 2) ((va_up q 3 t13) 3) 0 1) (fun (x293 : Int32) (t294 : Int32) => (0, va_up (va_up q 3 t13) 3 t294)) else (if v < (nI (r (2 * y.toNatClampNeg + 1))) then bnd2 (D_X10_isThrown_ ((va_up q 3 t13) 0) ((va_up q 3 t13) 1) ((va_up q 3 t13) 2) ((va_up q 3 t13) 3) 0 0) (fun (x300 : Int32) (t301 : Int32) => bnd4 (D_X10_toldOf (r (2 * y.toNatClampNeg)) (r (2 * y.toNatClampNeg + 1)) (f y.toNatClampNeg) z) (fun (z305 : Int32) (R306 : Nat) (C307 : Nat) (F308 : Nat → Int64) => (if z305 = 0 then bnd2 (D_X10_isThrown ((va_up (va_up q 3 t13) 3 t301) 0) ((va_up (va_up q 3 t13) 3 t301) 1) ((va_up (va_up q 3 t13) 3 t301) 2) ((va_up (va_up q 3 t13) 3 t301) 3) 0 0 1) (fun (x313 : Int32) (t314 : Int32) => (0, va_up (va_up (va_up q 3 t13) 3 t301) 3 t314)) else bnd2 (D_X10_isThrown ((va_up (va_up q 3 t13) 3 t301) 0) ((va_up (va_up q 3 t13) 3 t301) 1) ((va_up (va_up q 3 t13) 3 t301) 2) ((va_up (va_up q 3 t13) 3 t301) 3) 0 0 0) (fun (x318 : Int32) (t319 : Int32) => (((F308 (((u).toNatClampNeg) * 5 + ((v).toNatClampNeg)))).toInt32, va_up (va_up (va_up q 3 t13) 3 t301) 3 t319))))) else bnd2 (D_X10_isThrown_ ((va_up q 3 t13) 0) ((va_up q 3 t13) 1) ((va_up q 3 t13) 2) ((va_up q 3 t13) 3) 0 1) (fun (x323 : Int32) (t324 : Int32) => (0, va_up (va_up q 3 t13) 3 t324)))))))))) else (if z = 1 then (if z < 0 then bnd2 (D_X10_isThrown_ ((va_up q 3 t13) 0) ((va_up q 3 t13) 1) ((va_up q 3 t13) 2) ((va_up q 3 t13) 3) 0 1) (fun (x21 : Int32) (t22 : Int32) => (0, va_up (va_up q 3 t13) 3 t22)) else (if 4 < z then bnd2 (D_X10_isThrown_ ((va_up q 3 t13) 0) ((va_up q 3 t13) 1) ((va_up q 3 t13) 2) ((va_up q 3 t13) 3) 0 1) (fun (x27 : Int32) (t28 : Int32) => (0, va_up (va_up q 3 t13) 3 t28)) else (if u < 0 then bnd2 (D_X10_isThrown_ ((va_up q 3 t13) 0) ((va_up q 3 t13) 1) ((va_up q 3 t13) 2) ((va_up q 3 t13) 3) 0 1) (fun (x33 : Int32) (t34 : Int32) => (0, va_up (va_up q 3 t13) 3 t34)) else (if (nI (r (2 * y.toNatClampNeg))) ≤ u then bnd2 (D_X10_isThrown_ ((va_up q 3 t13) 0) ((va_up q 3 t13) 1) ((va_up q 3 t13) 2) ((va_up q 3 t13) 3) 0 1) (fun (x40 : Int32) (t41 : Int32) => (0, va_up (va_up q 3 t13) 3 t41)) else (if v < 0 then bnd2 (D_X10_isThrown_ ((va_up q 3 t13) 0) ((va_up q 3 t13) 1) ((va_up q 3 t13) 2) ((va_up q 3 t13) 3) 0 1) (fun (x46 : Int32) (t47 : Int32) => (0, va_up (va_up q 3 t13) 3 t47)) else (if v < (nI (r (2 * y.toNatClampNeg))) then bnd2 (D_X10_isThrown_ ((va_up q 3 t13) 0) ((va_up q 3 t13) 1) ((va_up q 3 t13) 2) ((va_up q 3 t13) 3) 0 0) (fun (x53 : Int32) (t54 : Int32) => bnd4 (D_X10_toldOf (r (2 * y.toNatClampNeg)) (r (2 * y.toNatClampNeg + 1)) (f y.toNatClampNeg) z) (fun (z58 : Int32) (R59 : Nat) (C60 : Nat) (F61 : Nat → Int64) => (if z58 = 0 then bnd2 (D_X10_isThrown ((va_up (va_up q 3 t13) 3 t54) 0) ((va_up (va_up q 3 t13) 3 t54) 1) ((va_up (va_up q 3 t13) 3 t54) 2) ((va_up (va_up q 3 t13) 3 t54) 3) 0 0 1) (fun (x66 : Int32) (t67 : Int32) => (0, va_up (va_up (va_up q 3 t13) 3 t54) 3 t67)) else bnd2 (D_X10_isThrown ((va_up (va_up q 3 t13) 3 t54) 0) ((va_up (va_up q 3 t13) 3 t54) 1) ((va_up (va_up q 3 t13) 3 t54) 2) ((va_up (va_up q 3 t13) 3 t54) 3) 0 0 0) (fun (x71 : Int32) (t72 : Int32) => (((F61 (((u).toNatClampNeg) * 5 + ((v).toNatClampNeg)))).toInt32, va_up (va_up (va_up q 3 t13) 3 t54) 3 t72))))) else bnd2 (D_X10_isThrown_ ((va_up q 3 t13) 0) ((va_up q 3 t13) 1) ((va_up q 3 t13) 2) ((va_up q 3 t13) 3) 0 1) (fun (x76 : Int32) (t77 : Int32) => (0, va_up (va_up q 3 t13) 3 t77)))))))) else (if z = 3 then (if z < 0 then bnd2 (D_X10_isThrown_ ((va_up q 3 t13) 0) ((va_up q 3 t13) 1) ((va_up q 3 t13) 2) ((va_up q 3 t13) 3) 0 1) (fun (x144 : Int32) (t145 : Int32) => (0, va_up (va_up q 3 t13) 3 t145)) else (if 4 < z then bnd2 (D_X10_isThrown_ ((va_up q 3 t13) 0) ((va_up q 3 t13) 1) ((va_up q 3 t13) 2) ((va_up q 3 t13) 3) 0 1) (fun (x150 : Int32) (t151 : Int32) => (0, va_up (va_up q 3 t13) 3 t151)) else (if u < 0 then bnd2 (D_X10_isThrown_ ((va_up q 3 t13) 0) ((va_up q 3 t13) 1) ((va_up q 3 t13) 2) ((va_up q 3 t13) 3) 0 1) (fun (x156 : Int32) (t157 : Int32) => (0, va_up (va_up q 3 t13) 3 t157)) else (if (nI (r (2 * y.toNatClampNeg))) ≤ u then bnd2 (D_X10_isThrown_ ((va_up q 3 t13) 0) ((va_up q 3 t13) 1) ((va_up q 3 t13) 2) ((va_up q 3 t13) 3) 0 1) (fun (x163 : Int32) (t164 : Int32) => (0, va_up (va_up q 3 t13) 3 t164)) else (if v < 0 then bnd2 (D_X10_isThrown_ ((va_up q 3 t13) 0) ((va_up q 3 t13) 1) ((va_up q 3 t13) 2) ((va_up q 3 t13) 3) 0 1) (fun (x169 : Int32) (t170 : Int32) => (0, va_up (va_up q 3 t13) 3 t170)) else (if v < (nI (r (2 * y.toNatClampNeg))) then bnd2 (D_X10_isThrown_ ((va_up q 3 t13) 0) ((va_up q 3 t13) 1) ((va_up q 3 t13) 2) ((va_up q 3 t13) 3) 0 0) (fun (x176 : Int32) (t177 : Int32) => bnd4 (D_X10_toldOf (r (2 * y.toNatClampNeg)) (r (2 * y.toNatClampNeg + 1)) (f y.toNatClampNeg) z) (fun (z181 : Int32) (R182 : Nat) (C183 : Nat) (F184 : Nat → Int64) => (if z181 = 0 then bnd2 (D_X10_isThrown ((va_up (va_up q 3 t13) 3 t177) 0) ((va_up (va_up q 3 t13) 3 t177) 1) ((va_up (va_up q 3 t13) 3 t177) 2) ((va_up (va_up q 3 t13) 3 t177) 3) 0 0 1) (fun (x189 : Int32) (t190 : Int32) => (0, va_up (va_up (va_up q 3 t13) 3 t177) 3 t190)) else bnd2 (D_X10_isThrown ((va_up (va_up q 3 t13) 3 t177) 0) ((va_up (va_up q 3 t13) 3 t177) 1) ((va_up (va_up q 3 t13) 3 t177) 2) ((va_up (va_up q 3 t13) 3 t177) 3) 0 0 0) (fun (x194 : Int32) (t195 : Int32) => (((F184 (((u).toNatClampNeg) * 5 + ((v).toNatClampNeg)))).toInt32, va_up (va_up (va_up q 3 t13) 3 t177) 3 t195))))) else bnd2 (D_X10_isThrown_ ((va_up q 3 t13) 0) ((va_up q 3 t13) 1) ((va_up q 3 t13) 2) ((va_up q 3 t13) 3) 0 1) (fun (x199 : Int32) (t200 : Int32) => (0, va_up (va_up q 3 t13) 3 t200)))))))) else (if z < 0 then bnd2 (D_X10_isThrown_ ((va_up q 3 t13) 0) ((va_up q 3 t13) 1) ((va_up q 3 t13) 2) ((va_up q 3 t13) 3) 0 1) (fun (x83 : Int32) (t84 : Int32) => (0, va_up (va_up q 3 t13) 3 t84)) else (if 4 < z then bnd2 (D_X10_isThrown_ ((va_up q 3 t13) 0) ((va_up q 3 t13) 1) ((va_up q 3 t13) 2) ((va_up q 3 t13) 3) 0 1) (fun (x89 : Int32) (t90 : Int32) => (0, va_up (va_up q 3 t13) 3 t90)) else (if u < 0 then bnd2 (D_X10_isThrown_ ((va_up q 3 t13) 0) ((va_up q 3 t13) 1) ((va_up q 3 t13) 2) ((va_up q 3 t13) 3) 0 1) (fun (x95 : Int32) (t96 : Int32) => (0, va_up (va_up q 3 t13) 3 t96)) else (if (nI (r (2 * y.toNatClampNeg))) ≤ u then bnd2 (D_X10_isThrown_ ((va_up q 3 t13) 0) ((va_up q 3 t13) 1) ((va_up q 3 t13) 2) ((va_up q 3 t13) 3) 0 1) (fun (x102 : Int32) (t103 : Int32) => (0, va_up (va_up q 3 t13) 3 t103)) else (if v < 0 then bnd2 (D_X10_isThrown_ ((va_up q 3 t13) 0) ((va_up q 3 t13) 1) ((va_up q 3 t13) 2) ((va_up q 3 t13) 3) 0 1) (fun (x108 : Int32) (t109 : Int32) => (0, va_up (va_up q 3 t13) 3 t109)) else (if v < (nI (r (2 * y.toNatClampNeg + 1))) then bnd2 (D_X10_isThrown_ ((va_up q 3 t13) 0) ((va_up q 3 t13) 1) ((va_up q 3 t13) 2) ((va_up q 3 t13) 3) 0 0) (fun (x115 : Int32) (t116 : Int32) => bnd4 (D_X10_toldOf (r (2 * y.toNatClampNeg)) (r (2 * y.toNatClampNeg + 1)) (f y.toNatClampNeg) z) (fun (z120 : Int32) (R121 : Nat) (C122 : Nat) (F123 : Nat → Int64) => (if z120 = 0 then bnd2 (D_X10_isThrown ((va_up (va_up q 3 t13) 3 t116) 0) ((va_up (va_up q 3 t13) 3 t116) 1) ((va_up (va_up q 3 t13) 3 t116) 2) ((va_up (va_up q 3 t13) 3 t116) 3) 0 0 1) (fun (x128 : Int32) (t129 : Int32) => (0, va_up (va_up (va_up q 3 t13) 3 t116) 3 t129)) else bnd2 (D_X10_isThrown ((va_up (va_up q 3 t13) 3 t116) 0) ((va_up (va_up q 3 t13) 3 t116) 1) ((va_up (va_up q 3 t13) 3 t116) 2) ((va_up (va_up q 3 t13) 3 t116) 3) 0 0 0) (fun (x133 : Int32) (t134 : Int32) => (((F123 (((u).toNatClampNeg) * 5 + ((v).toNatClampNeg)))).toInt32, va_up (va_up (va_up q 3 t13) 3 t116) 3 t134))))) else bnd2 (D_X10_isThrown_ ((va_up q 3 t13) 0) ((va_up q 3 t13) 1) ((va_up q 3 t13) 2) ((va_up q 3 t13) 3) 0 1) (fun (x138 : Int32) (t139 : Int32) => (0, va_up (va_up q 3 t13) 3 t139)))))))))))))) := rfl
set_option maxHeartbeats 4000000 in
set_option maxRecDepth 100000 in
theorem k_X10_told_ (κ : Kt) (l : Launch) (w : va_W) (a r : Nat → Nat) (f : Nat → Nat → Int64) (q : Nat → Int32) (y : Int32) (z : Int32) (u : Int32) (v : Int32) (hm : mok r f) (o_x : Int32) (o_q' : Nat → Int32) (hR : D_X10_told_ r f q y z u v = (o_x, o_q')) : CM κ l yX10_told_ cX10_told_ 9 (some .int) 6 144 7 76 [.ref (a 0), .int y, .int z, .int u, .int v] (mw κ a r f q (tb a) w) (fun o w' => o = some (.int o_x) ∧ (o_q' 2 = q 2 ∧ o_q' 0 = q 0 ∧ o_q' 1 = q 1) ∧ w' = mw κ a r f o_q' (tb a) w) := by
  refine CM_begin (plainFor_of_name pn_RX10) (Nat.le_of_ble_eq_true rfl) ?_
  intro p e s m args below meth c A Q hX hnm hA3 hQ hB ls hl
  have hx := hX.1.1
  have hb := hX.1.2.1
  have hl : lv_has ls 9 [(0, .ref (a 0)), (1, .int y), (2, .int z), (3, .int u), (4, .int v)] := hl
  replace hR := (D_X10_told__s).symm.trans hR
  refine lv_aload_n hx hb dX10_told__0 rfl (lv_at hl 0 rfl) ?_
  refine lv_iload_n hx hb dX10_told__1 rfl (lv_at hl 1 rfl) ?_
  obtain ⟨z1, hd2⟩ := ex1 (D_X10_isTable y)
  replace hR := bnd1_use hd2 hR
  refine call_S (n := 1) (As := [.int y]) (rest := [.ref (a 0)]) hX hB (k_X10_isTable κ l (mw κ a r f q (tb a) w) y z1 hd2) yk_X10_isTable wm_5_186 wm_5_187 wm_1_6 wm_5_188 ⟨Nat.le_of_ble_eq_true rfl, Nat.le_of_ble_eq_true rfl⟩ ⟨Nat.le_of_ble_eq_true rfl, Nat.le_of_ble_eq_true rfl⟩ rfl hl.1 rfl (Nat.le_of_ble_eq_true rfl) dX10_told__2 (fun o w' H locs hp hB => ?_)
  obtain ⟨rfl, hf3, hw9⟩ := hp
  replace hB : Bd κ A s (mw κ a r f q (tb a) w) H locs := by rw [hw9] at hB; exact hB
  rcases hf3 with rfl | ⟨rfl, hz4a, hz4b⟩
  · replace hR := ifp rfl hR
    refine W.eq (g2 := F0 m 5 ls [.int 0, .ref (a 0)]) rfl ?_
    refine lv_if_ne (tgt := 12) hx hb dX10_told__5 (by decide) (fun c5 => False.elim (by revert c5; decide)) (fun _ => ?_)
    refine lv_iconst (v := 1) hx hb dX10_told__8 (by decide) ?_
    refine lv_goto (tgt := 13) hx hb dX10_told__9 (by decide) ?_
    obtain ⟨x6, t7, hd8⟩ := ex2 (D_X10_isThrown__ (q 0) (q 1) (q 2) (q 3) 1)
    replace hR := bnd2_use hd8 hR
    refine call_V (n := 1) (k0 := 0) (As := [.int 1]) (rest := []) hX hB (k_X10_isThrown__ κ l (mw κ a r f q (tb a) w) 0 (a 0) (a 1) (q 0) (q 1) (q 2) (q 3) 1 (mw0x (a := a) (r := r) (f := f) (q := q) (T := tb a) (w := w) rfl) x6 t7 hd8) ⟨rfl, yk_X10_isThrown__⟩ wm_6_15 wm_6_17 wp_33 wm_1_6 wm_6_18 ⟨Nat.le_of_ble_eq_true rfl, Nat.le_of_ble_eq_true rfl⟩ ⟨Nat.le_of_ble_eq_true rfl, Nat.le_of_ble_eq_true rfl⟩ (mw0x (a := a) (r := r) (f := f) (q := q) (T := tb a) (w := w) rfl) rfl rfl rfl hl.1 rfl (Nat.le_of_ble_eq_true rfl) dX10_told__13 (fun o w' H locs hp hB => ?_)
    obtain ⟨rfl, hf9, hw9⟩ := hp
    replace hB : Bd κ A s (mw κ a r f (va_up q 3 t7) (tb a) w) H locs := by exact Bd_eq (mwQ3x rfl _) (by rw [hw9] at hB; exact hB)
    obtain rfl : x6 = 1 := hf9.trans (by decide)
    refine W.eq (g2 := F0 m 16 ls [.int 1]) rfl ?_
    refine lv_if_eq (tgt := 21) hx hb dX10_told__16 (by decide) (fun c10 => False.elim (by revert c10; decide)) (fun _ => ?_)
    refine lv_iconst (v := 0) hx hb dX10_told__19 (by decide) ?_
    rw [← hQ]
    exact end_i hX hB hA3 rfl rfl (by obtain ⟨rfl, rfl⟩ := pr2 hR; exact ⟨rfl, ⟨rfl, rfl, rfl⟩, rfl⟩) (Nat.le_of_ble_eq_true rfl) (Nat.le_of_ble_eq_true rfl) dX10_told__20
  · replace hR := ifn (by decide) hR
    refine W.eq (g2 := F0 m 5 ls [.int 1, .ref (a 0)]) rfl ?_
    refine lv_if_ne (tgt := 12) hx hb dX10_told__5 (by decide) (fun _ => ?_) (fun c11 => False.elim (by revert c11; decide))
    refine lv_iconst (v := 0) hx hb dX10_told__12 (by decide) ?_
    obtain ⟨x12, t13, hd14⟩ := ex2 (D_X10_isThrown__ (q 0) (q 1) (q 2) (q 3) 0)
    replace hR := bnd2_use hd14 hR
    refine call_V (n := 1) (k0 := 0) (As := [.int 0]) (rest := []) hX hB (k_X10_isThrown__ κ l (mw κ a r f q (tb a) w) 0 (a 0) (a 1) (q 0) (q 1) (q 2) (q 3) 0 (mw0x (a := a) (r := r) (f := f) (q := q) (T := tb a) (w := w) rfl) x12 t13 hd14) ⟨rfl, yk_X10_isThrown__⟩ wm_6_15 wm_6_17 wp_33 wm_1_6 wm_6_18 ⟨Nat.le_of_ble_eq_true rfl, Nat.le_of_ble_eq_true rfl⟩ ⟨Nat.le_of_ble_eq_true rfl, Nat.le_of_ble_eq_true rfl⟩ (mw0x (a := a) (r := r) (f := f) (q := q) (T := tb a) (w := w) rfl) rfl rfl rfl hl.1 rfl (Nat.le_of_ble_eq_true rfl) dX10_told__13 (fun o w' H locs hp hB => ?_)
    obtain ⟨rfl, hf15, hw9⟩ := hp
    replace hB : Bd κ A s (mw κ a r f (va_up q 3 t13) (tb a) w) H locs := by exact Bd_eq (mwQ3x rfl _) (by rw [hw9] at hB; exact hB)
    obtain rfl : x12 = 0 := hf15.trans (by decide)
    refine W.eq (g2 := F0 m 16 ls [.int 0]) rfl ?_
    refine lv_if_eq (tgt := 21) hx hb dX10_told__16 (by decide) (fun _ => ?_) (fun c16 => False.elim (by revert c16; decide))
    refine lv_aload_n hx hb dX10_told__21 rfl (lv_at hl 0 rfl) ?_
    refine gf (k0 := 0) hX hB (mw0x (a := a) (r := r) (f := f) (q := (va_up q 3 t13)) (T := tb a) (w := w) rfl) rfl in10 0 (by decide) wm_5_162 rfl rfl dX10_told__22 ?_
    refine lv_iload_n hx hb dX10_told__25 rfl (lv_at hl 1 rfl) ?_
    refine aaldM (k0 := 1) hX hB (mw1 (a := a) (r := r) (f := f) (q := (va_up q 3 t13)) (T := tb a) (w := w)) (vp_in_mk (by assumption) (by assumption)) rfl dX10_told__26 ?_
    have hb17 := mok_r hm y.toNatClampNeg (by omega)
    refine lv_astore (lv' := [(5, .ref (a (2 + 2 * y.toNatClampNeg))), (0, .ref (a 0)), (1, .int y), (2, .int z), (3, .int u), (4, .int v)]) hx hb dX10_told__27 hl (by decide) rfl (fun ls hl => ?_)
    refine lv_iload_n hx hb dX10_told__29 rfl (lv_at hl 3 rfl) ?_
    refine lv_iconst (v := 4) hx hb dX10_told__30 (by decide) ?_
    refine lv_icmp_ne (tgt := 42) hx hb dX10_told__31 (by decide) (fun c18 => ?_) (fun c18 => ?_)
    · replace hR := ifn c18 hR
      refine lv_aload hx hb dX10_told__42 (lv_at hl 0 rfl) ?_
      refine gf (k0 := 2 + 2 * y.toNatClampNeg) hX hB (mwG (i := y.toNatClampNeg) (a := a) (r := r) (f := f) (q := (va_up q 3 t13)) (T := tb a) (w := w) (by omega)) rfl in7 0 (by decide) wm_5_148 rfl rfl dX10_told__44 ?_
      refine lv_istore (lv' := [(6, .int (nI (r (2 * y.toNatClampNeg)))), (5, .ref (a (2 + 2 * y.toNatClampNeg))), (0, .ref (a 0)), (1, .int y), (2, .int z), (3, .int u), (4, .int v)]) hx hb dX10_told__47 hl (by decide) rfl (fun ls hl => ?_)
      refine lv_iload_n hx hb dX10_told__49 rfl (lv_at hl 4 rfl) ?_
      refine lv_iconst (v := 1) hx hb dX10_told__50 (by decide) ?_
      refine lv_icmp_eq (tgt := 59) hx hb dX10_told__51 (by decide) (fun c19 => ?_) (fun c19 => ?_)
      · replace hR := ifp c19 hR
        refine lv_aload hx hb dX10_told__59 (lv_at hl 1 rfl) ?_
        refine gf (k0 := 2 + 2 * y.toNatClampNeg) hX hB (mwG (i := y.toNatClampNeg) (a := a) (r := r) (f := f) (q := (va_up q 3 t13)) (T := tb a) (w := w) (by omega)) rfl in7 0 (by decide) wm_5_148 rfl rfl dX10_told__61 ?_
        refine lv_goto (tgt := 72) hx hb dX10_told__64 (by decide) ?_
        refine lv_istore (lv' := [(7, .int (nI (r (2 * y.toNatClampNeg)))), (6, .int (nI (r (2 * y.toNatClampNeg)))), (5, .ref (a (2 + 2 * y.toNatClampNeg))), (0, .ref (a 0)), (1, .int y), (2, .int z), (3, .int u), (4, .int v)]) hx hb dX10_told__72 hl (by decide) rfl (fun ls hl => ?_)
        refine lv_aload_n hx hb dX10_told__74 rfl (lv_at hl 3 rfl) ?_
        refine lv_iconst (v := 0) hx hb dX10_told__75 (by decide) ?_
        refine lv_iload_n hx hb dX10_told__76 rfl (lv_at hl 5 rfl) ?_
        refine lv_if_lt (tgt := 107) hx hb dX10_told__77 (by decide) (fun c20 => ?_) (fun c20 => ?_)
        · replace hR := ifp c20 hR
          refine lv_iconst (v := 1) hx hb dX10_told__107 (by decide) ?_
          refine lv_goto (tgt := 112) hx hb dX10_told__108 (by decide) ?_
          obtain ⟨x21, t22, hd23⟩ := ex2 (D_X10_isThrown_ ((va_up q 3 t13) 0) ((va_up q 3 t13) 1) ((va_up q 3 t13) 2) ((va_up q 3 t13) 3) 0 1)
          replace hR := bnd2_use hd23 hR
          refine call_V (n := 2) (k0 := 0) (As := [.int 0, .int 1]) (rest := []) hX hB (k_X10_isThrown_ κ l (mw κ a r f (va_up q 3 t13) (tb a) w) 0 (a 0) (a 1) ((va_up q 3 t13) 0) ((va_up q 3 t13) 1) ((va_up q 3 t13) 2) ((va_up q 3 t13) 3) 0 1 (mw0x (a := a) (r := r) (f := f) (q := (va_up q 3 t13)) (T := tb a) (w := w) rfl) x21 t22 hd23) ⟨rfl, yk_X10_isThrown_⟩ wm_5_192 wm_5_194 wp_27 wm_1_6 wm_5_195 ⟨Nat.le_of_ble_eq_true rfl, Nat.le_of_ble_eq_true rfl⟩ ⟨Nat.le_of_ble_eq_true rfl, Nat.le_of_ble_eq_true rfl⟩ (mw0x (a := a) (r := r) (f := f) (q := (va_up q 3 t13)) (T := tb a) (w := w) rfl) rfl rfl rfl hl.1 rfl (Nat.le_of_ble_eq_true rfl) dX10_told__112 (fun o w' H locs hp hB => ?_)
          obtain ⟨rfl, hf24, hw9⟩ := hp
          replace hB : Bd κ A s (mw κ a r f (va_up (va_up q 3 t13) 3 t22) (tb a) w) H locs := by exact Bd_eq (mwQ3x rfl _) (by rw [hw9] at hB; exact hB)
          obtain rfl : x21 = 1 := hf24.trans (by decide)
          refine W.eq (g2 := F0 m 115 ls [.int 1]) rfl ?_
          refine lv_if_eq (tgt := 120) hx hb dX10_told__115 (by decide) (fun c25 => False.elim (by revert c25; decide)) (fun _ => ?_)
          refine lv_iconst (v := 0) hx hb dX10_told__118 (by decide) ?_
          rw [← hQ]
          exact end_i hX hB hA3 rfl rfl (by obtain ⟨rfl, rfl⟩ := pr2 hR; exact ⟨rfl, ⟨rfl, rfl, rfl⟩, rfl⟩) (Nat.le_of_ble_eq_true rfl) (Nat.le_of_ble_eq_true rfl) dX10_told__119
        · replace hR := ifn c20 hR
          refine lv_iload_n hx hb dX10_told__80 rfl (lv_at hl 5 rfl) ?_
          refine lv_iconst (v := 4) hx hb dX10_told__81 (by decide) ?_
          refine lv_icmp_gt (tgt := 107) hx hb dX10_told__82 (by decide) (fun c26 => ?_) (fun c26 => ?_)
          · replace hR := ifp c26 hR
            refine lv_iconst (v := 1) hx hb dX10_told__107 (by decide) ?_
            refine lv_goto (tgt := 112) hx hb dX10_told__108 (by decide) ?_
            obtain ⟨x27, t28, hd29⟩ := ex2 (D_X10_isThrown_ ((va_up q 3 t13) 0) ((va_up q 3 t13) 1) ((va_up q 3 t13) 2) ((va_up q 3 t13) 3) 0 1)
            replace hR := bnd2_use hd29 hR
            refine call_V (n := 2) (k0 := 0) (As := [.int 0, .int 1]) (rest := []) hX hB (k_X10_isThrown_ κ l (mw κ a r f (va_up q 3 t13) (tb a) w) 0 (a 0) (a 1) ((va_up q 3 t13) 0) ((va_up q 3 t13) 1) ((va_up q 3 t13) 2) ((va_up q 3 t13) 3) 0 1 (mw0x (a := a) (r := r) (f := f) (q := (va_up q 3 t13)) (T := tb a) (w := w) rfl) x27 t28 hd29) ⟨rfl, yk_X10_isThrown_⟩ wm_5_192 wm_5_194 wp_27 wm_1_6 wm_5_195 ⟨Nat.le_of_ble_eq_true rfl, Nat.le_of_ble_eq_true rfl⟩ ⟨Nat.le_of_ble_eq_true rfl, Nat.le_of_ble_eq_true rfl⟩ (mw0x (a := a) (r := r) (f := f) (q := (va_up q 3 t13)) (T := tb a) (w := w) rfl) rfl rfl rfl hl.1 rfl (Nat.le_of_ble_eq_true rfl) dX10_told__112 (fun o w' H locs hp hB => ?_)
            obtain ⟨rfl, hf30, hw9⟩ := hp
            replace hB : Bd κ A s (mw κ a r f (va_up (va_up q 3 t13) 3 t28) (tb a) w) H locs := by exact Bd_eq (mwQ3x rfl _) (by rw [hw9] at hB; exact hB)
            obtain rfl : x27 = 1 := hf30.trans (by decide)
            refine W.eq (g2 := F0 m 115 ls [.int 1]) rfl ?_
            refine lv_if_eq (tgt := 120) hx hb dX10_told__115 (by decide) (fun c31 => False.elim (by revert c31; decide)) (fun _ => ?_)
            refine lv_iconst (v := 0) hx hb dX10_told__118 (by decide) ?_
            rw [← hQ]
            exact end_i hX hB hA3 rfl rfl (by obtain ⟨rfl, rfl⟩ := pr2 hR; exact ⟨rfl, ⟨rfl, rfl, rfl⟩, rfl⟩) (Nat.le_of_ble_eq_true rfl) (Nat.le_of_ble_eq_true rfl) dX10_told__119
          · replace hR := ifn c26 hR
            refine lv_iload_n hx hb dX10_told__85 rfl (lv_at hl 6 rfl) ?_
            refine lv_if_lt (tgt := 107) hx hb dX10_told__86 (by decide) (fun c32 => ?_) (fun c32 => ?_)
            · replace hR := ifp c32 hR
              refine lv_iconst (v := 1) hx hb dX10_told__107 (by decide) ?_
              refine lv_goto (tgt := 112) hx hb dX10_told__108 (by decide) ?_
              obtain ⟨x33, t34, hd35⟩ := ex2 (D_X10_isThrown_ ((va_up q 3 t13) 0) ((va_up q 3 t13) 1) ((va_up q 3 t13) 2) ((va_up q 3 t13) 3) 0 1)
              replace hR := bnd2_use hd35 hR
              refine call_V (n := 2) (k0 := 0) (As := [.int 0, .int 1]) (rest := []) hX hB (k_X10_isThrown_ κ l (mw κ a r f (va_up q 3 t13) (tb a) w) 0 (a 0) (a 1) ((va_up q 3 t13) 0) ((va_up q 3 t13) 1) ((va_up q 3 t13) 2) ((va_up q 3 t13) 3) 0 1 (mw0x (a := a) (r := r) (f := f) (q := (va_up q 3 t13)) (T := tb a) (w := w) rfl) x33 t34 hd35) ⟨rfl, yk_X10_isThrown_⟩ wm_5_192 wm_5_194 wp_27 wm_1_6 wm_5_195 ⟨Nat.le_of_ble_eq_true rfl, Nat.le_of_ble_eq_true rfl⟩ ⟨Nat.le_of_ble_eq_true rfl, Nat.le_of_ble_eq_true rfl⟩ (mw0x (a := a) (r := r) (f := f) (q := (va_up q 3 t13)) (T := tb a) (w := w) rfl) rfl rfl rfl hl.1 rfl (Nat.le_of_ble_eq_true rfl) dX10_told__112 (fun o w' H locs hp hB => ?_)
              obtain ⟨rfl, hf36, hw9⟩ := hp
              replace hB : Bd κ A s (mw κ a r f (va_up (va_up q 3 t13) 3 t34) (tb a) w) H locs := by exact Bd_eq (mwQ3x rfl _) (by rw [hw9] at hB; exact hB)
              obtain rfl : x33 = 1 := hf36.trans (by decide)
              refine W.eq (g2 := F0 m 115 ls [.int 1]) rfl ?_
              refine lv_if_eq (tgt := 120) hx hb dX10_told__115 (by decide) (fun c37 => False.elim (by revert c37; decide)) (fun _ => ?_)
              refine lv_iconst (v := 0) hx hb dX10_told__118 (by decide) ?_
              rw [← hQ]
              exact end_i hX hB hA3 rfl rfl (by obtain ⟨rfl, rfl⟩ := pr2 hR; exact ⟨rfl, ⟨rfl, rfl, rfl⟩, rfl⟩) (Nat.le_of_ble_eq_true rfl) (Nat.le_of_ble_eq_true rfl) dX10_told__119
            · replace hR := ifn c32 hR
              refine lv_iload_n hx hb dX10_told__89 rfl (lv_at hl 6 rfl) ?_
              refine lv_iload hx hb dX10_told__90 (lv_at hl 1 rfl) ?_
              refine lv_icmp_ge (tgt := 107) hx hb dX10_told__92 (by decide) (fun c39 => ?_) (fun c39 => ?_)
              · replace hR := ifp c39 hR
                refine lv_iconst (v := 1) hx hb dX10_told__107 (by decide) ?_
                refine lv_goto (tgt := 112) hx hb dX10_told__108 (by decide) ?_
                obtain ⟨x40, t41, hd42⟩ := ex2 (D_X10_isThrown_ ((va_up q 3 t13) 0) ((va_up q 3 t13) 1) ((va_up q 3 t13) 2) ((va_up q 3 t13) 3) 0 1)
                replace hR := bnd2_use hd42 hR
                refine call_V (n := 2) (k0 := 0) (As := [.int 0, .int 1]) (rest := []) hX hB (k_X10_isThrown_ κ l (mw κ a r f (va_up q 3 t13) (tb a) w) 0 (a 0) (a 1) ((va_up q 3 t13) 0) ((va_up q 3 t13) 1) ((va_up q 3 t13) 2) ((va_up q 3 t13) 3) 0 1 (mw0x (a := a) (r := r) (f := f) (q := (va_up q 3 t13)) (T := tb a) (w := w) rfl) x40 t41 hd42) ⟨rfl, yk_X10_isThrown_⟩ wm_5_192 wm_5_194 wp_27 wm_1_6 wm_5_195 ⟨Nat.le_of_ble_eq_true rfl, Nat.le_of_ble_eq_true rfl⟩ ⟨Nat.le_of_ble_eq_true rfl, Nat.le_of_ble_eq_true rfl⟩ (mw0x (a := a) (r := r) (f := f) (q := (va_up q 3 t13)) (T := tb a) (w := w) rfl) rfl rfl rfl hl.1 rfl (Nat.le_of_ble_eq_true rfl) dX10_told__112 (fun o w' H locs hp hB => ?_)
                obtain ⟨rfl, hf43, hw9⟩ := hp
                replace hB : Bd κ A s (mw κ a r f (va_up (va_up q 3 t13) 3 t41) (tb a) w) H locs := by exact Bd_eq (mwQ3x rfl _) (by rw [hw9] at hB; exact hB)
                obtain rfl : x40 = 1 := hf43.trans (by decide)
                refine W.eq (g2 := F0 m 115 ls [.int 1]) rfl ?_
                refine lv_if_eq (tgt := 120) hx hb dX10_told__115 (by decide) (fun c44 => False.elim (by revert c44; decide)) (fun _ => ?_)
                refine lv_iconst (v := 0) hx hb dX10_told__118 (by decide) ?_
                rw [← hQ]
                exact end_i hX hB hA3 rfl rfl (by obtain ⟨rfl, rfl⟩ := pr2 hR; exact ⟨rfl, ⟨rfl, rfl, rfl⟩, rfl⟩) (Nat.le_of_ble_eq_true rfl) (Nat.le_of_ble_eq_true rfl) dX10_told__119
              · replace hR := ifn c39 hR
                have hq38 := nlt_of (x := u) (n := r (2 * y.toNatClampNeg)) c32 (by omega) c39
                refine lv_iload hx hb dX10_told__95 (lv_at hl 7 rfl) ?_
                refine lv_if_lt (tgt := 107) hx hb dX10_told__97 (by decide) (fun c45 => ?_) (fun c45 => ?_)
                · replace hR := ifp c45 hR
                  refine lv_iconst (v := 1) hx hb dX10_told__107 (by decide) ?_
                  refine lv_goto (tgt := 112) hx hb dX10_told__108 (by decide) ?_
                  obtain ⟨x46, t47, hd48⟩ := ex2 (D_X10_isThrown_ ((va_up q 3 t13) 0) ((va_up q 3 t13) 1) ((va_up q 3 t13) 2) ((va_up q 3 t13) 3) 0 1)
                  replace hR := bnd2_use hd48 hR
                  refine call_V (n := 2) (k0 := 0) (As := [.int 0, .int 1]) (rest := []) hX hB (k_X10_isThrown_ κ l (mw κ a r f (va_up q 3 t13) (tb a) w) 0 (a 0) (a 1) ((va_up q 3 t13) 0) ((va_up q 3 t13) 1) ((va_up q 3 t13) 2) ((va_up q 3 t13) 3) 0 1 (mw0x (a := a) (r := r) (f := f) (q := (va_up q 3 t13)) (T := tb a) (w := w) rfl) x46 t47 hd48) ⟨rfl, yk_X10_isThrown_⟩ wm_5_192 wm_5_194 wp_27 wm_1_6 wm_5_195 ⟨Nat.le_of_ble_eq_true rfl, Nat.le_of_ble_eq_true rfl⟩ ⟨Nat.le_of_ble_eq_true rfl, Nat.le_of_ble_eq_true rfl⟩ (mw0x (a := a) (r := r) (f := f) (q := (va_up q 3 t13)) (T := tb a) (w := w) rfl) rfl rfl rfl hl.1 rfl (Nat.le_of_ble_eq_true rfl) dX10_told__112 (fun o w' H locs hp hB => ?_)
                  obtain ⟨rfl, hf49, hw9⟩ := hp
                  replace hB : Bd κ A s (mw κ a r f (va_up (va_up q 3 t13) 3 t47) (tb a) w) H locs := by exact Bd_eq (mwQ3x rfl _) (by rw [hw9] at hB; exact hB)
                  obtain rfl : x46 = 1 := hf49.trans (by decide)
                  refine W.eq (g2 := F0 m 115 ls [.int 1]) rfl ?_
                  refine lv_if_eq (tgt := 120) hx hb dX10_told__115 (by decide) (fun c50 => False.elim (by revert c50; decide)) (fun _ => ?_)
                  refine lv_iconst (v := 0) hx hb dX10_told__118 (by decide) ?_
                  rw [← hQ]
                  exact end_i hX hB hA3 rfl rfl (by obtain ⟨rfl, rfl⟩ := pr2 hR; exact ⟨rfl, ⟨rfl, rfl, rfl⟩, rfl⟩) (Nat.le_of_ble_eq_true rfl) (Nat.le_of_ble_eq_true rfl) dX10_told__119
                · replace hR := ifn c45 hR
                  refine lv_iload hx hb dX10_told__100 (lv_at hl 7 rfl) ?_
                  refine lv_iload hx hb dX10_told__102 (lv_at hl 0 rfl) ?_
                  refine lv_icmp_lt (tgt := 111) hx hb dX10_told__104 (by decide) (fun c52 => ?_) (fun c52 => ?_)
                  · replace hR := ifp c52 hR
                    have hq51 := nlt_of (x := v) (n := r (2 * y.toNatClampNeg)) c45 (by omega) (Int32.not_le.mpr c52)
                    refine lv_iconst (v := 0) hx hb dX10_told__111 (by decide) ?_
                    obtain ⟨x53, t54, hd55⟩ := ex2 (D_X10_isThrown_ ((va_up q 3 t13) 0) ((va_up q 3 t13) 1) ((va_up q 3 t13) 2) ((va_up q 3 t13) 3) 0 0)
                    replace hR := bnd2_use hd55 hR
                    refine call_V (n := 2) (k0 := 0) (As := [.int 0, .int 0]) (rest := []) hX hB (k_X10_isThrown_ κ l (mw κ a r f (va_up q 3 t13) (tb a) w) 0 (a 0) (a 1) ((va_up q 3 t13) 0) ((va_up q 3 t13) 1) ((va_up q 3 t13) 2) ((va_up q 3 t13) 3) 0 0 (mw0x (a := a) (r := r) (f := f) (q := (va_up q 3 t13)) (T := tb a) (w := w) rfl) x53 t54 hd55) ⟨rfl, yk_X10_isThrown_⟩ wm_5_192 wm_5_194 wp_27 wm_1_6 wm_5_195 ⟨Nat.le_of_ble_eq_true rfl, Nat.le_of_ble_eq_true rfl⟩ ⟨Nat.le_of_ble_eq_true rfl, Nat.le_of_ble_eq_true rfl⟩ (mw0x (a := a) (r := r) (f := f) (q := (va_up q 3 t13)) (T := tb a) (w := w) rfl) rfl rfl rfl hl.1 rfl (Nat.le_of_ble_eq_true rfl) dX10_told__112 (fun o w' H locs hp hB => ?_)
                    obtain ⟨rfl, hf56, hw9⟩ := hp
                    replace hB : Bd κ A s (mw κ a r f (va_up (va_up q 3 t13) 3 t54) (tb a) w) H locs := by exact Bd_eq (mwQ3x rfl _) (by rw [hw9] at hB; exact hB)
                    obtain rfl : x53 = 0 := hf56.trans (by decide)
                    refine W.eq (g2 := F0 m 115 ls [.int 0]) rfl ?_
                    refine lv_if_eq (tgt := 120) hx hb dX10_told__115 (by decide) (fun _ => ?_) (fun c57 => False.elim (by revert c57; decide))
                    refine lv_aload hx hb dX10_told__120 (lv_at hl 2 rfl) ?_
                    refine lv_iload_n hx hb dX10_told__122 rfl (lv_at hl 5 rfl) ?_
                    obtain ⟨z58, R59, C60, F61, hd62⟩ := ex4 (D_X10_toldOf (r (2 * y.toNatClampNeg)) (r (2 * y.toNatClampNeg + 1)) (f y.toNatClampNeg) z)
                    replace hR := bnd4_use hd62 hR
                    refine call_S (n := 2) (As := [.ref (a (2 + 2 * y.toNatClampNeg)), .int z]) (rest := []) hX hB (k_X10_toldOf κ l (mw κ a r f (va_up (va_up q 3 t13) 3 t54) (tb a) w) (2 + 2 * y.toNatClampNeg) (3 + 2 * y.toNatClampNeg) (a (2 + 2 * y.toNatClampNeg)) (a (3 + 2 * y.toNatClampNeg)) (r (2 * y.toNatClampNeg)) (r (2 * y.toNatClampNeg + 1)) (f y.toNatClampNeg) z (mwG (i := y.toNatClampNeg) (a := a) (r := r) (f := f) (q := (va_up (va_up q 3 t13) 3 t54)) (T := tb a) (w := w) (by omega)) (mwA (i := y.toNatClampNeg) (a := a) (r := r) (f := f) (q := (va_up (va_up q 3 t13) 3 t54)) (T := tb a) (w := w) (by omega)) (mok_shp (i := y.toNatClampNeg) hm (by omega)) (by omega) (fun k hk => sm_ng ((hm _ (by omega)).2 k hk)) ⟨by assumption, by first | assumption | exact Int32.not_lt.mp (by assumption)⟩ z58 R59 C60 F61 hd62) yk_X10_toldOf wm_6_124 wm_6_125 wm_1_6 wm_6_126 ⟨Nat.le_of_ble_eq_true rfl, Nat.le_of_ble_eq_true rfl⟩ ⟨Nat.le_of_ble_eq_true rfl, Nat.le_of_ble_eq_true rfl⟩ rfl hl.1 rfl (Nat.le_of_ble_eq_true rfl) dX10_told__123 (fun o w' H locs hp hB => ?_)
                    rcases hp with ⟨hz0, rfl, hw9⟩ | ⟨hz0, q63, q64, rfl, ⟨⟨hd65a, hd65b, hd65c, hd65d⟩, hd65t⟩, hw9⟩
                    · replace hB : Bd κ A s (mw κ a r f (va_up (va_up q 3 t13) 3 t54) (tb a) w) H locs := by rw [hw9] at hB; exact hB
                      refine W.eq (g2 := F0 m 126 ls [.null]) rfl ?_
                      replace hR := ifp hz0 hR
                      refine lv_astoreN (lv' := [(8, .null), (7, .int (nI (r (2 * y.toNatClampNeg)))), (6, .int (nI (r (2 * y.toNatClampNeg)))), (5, .ref (a (2 + 2 * y.toNatClampNeg))), (0, .ref (a 0)), (1, .int y), (2, .int z), (3, .int u), (4, .int v)]) hx hb dX10_told__126 hl (by decide) rfl (fun ls hl => ?_)
                      refine lv_aload_n hx hb dX10_told__128 rfl (lv_at hl 4 rfl) ?_
                      refine lv_iconst (v := 0) hx hb dX10_told__129 (by decide) ?_
                      refine lv_iconst (v := 0) hx hb dX10_told__130 (by decide) ?_
                      refine lv_aloadN hx hb dX10_told__131 (lv_at hl 0 rfl) ?_
                      refine lv_ifnonnullN hx hb dX10_told__133 ?_
                      refine lv_iconst (v := 1) hx hb dX10_told__136 (by decide) ?_
                      refine lv_goto (tgt := 141) hx hb dX10_told__137 (by decide) ?_
                      obtain ⟨x66, t67, hd68⟩ := ex2 (D_X10_isThrown ((va_up (va_up q 3 t13) 3 t54) 0) ((va_up (va_up q 3 t13) 3 t54) 1) ((va_up (va_up q 3 t13) 3 t54) 2) ((va_up (va_up q 3 t13) 3 t54) 3) 0 0 1)
                      replace hR := bnd2_use hd68 hR
                      refine call_V (n := 3) (k0 := 0) (As := [.int 0, .int 0, .int 1]) (rest := []) hX hB (k_X10_isThrown κ l (mw κ a r f (va_up (va_up q 3 t13) 3 t54) (tb a) w) 0 (a 0) (a 1) ((va_up (va_up q 3 t13) 3 t54) 0) ((va_up (va_up q 3 t13) 3 t54) 1) ((va_up (va_up q 3 t13) 3 t54) 2) ((va_up (va_up q 3 t13) 3 t54) 3) 0 0 1 (mw0x (a := a) (r := r) (f := f) (q := (va_up (va_up q 3 t13) 3 t54)) (T := tb a) (w := w) rfl) x66 t67 hd68) ⟨rfl, yk_X10_isThrown⟩ wm_5_196 wm_5_198 wp_28 wm_1_6 wm_5_199 ⟨Nat.le_of_ble_eq_true rfl, Nat.le_of_ble_eq_true rfl⟩ ⟨Nat.le_of_ble_eq_true rfl, Nat.le_of_ble_eq_true rfl⟩ (mw0x (a := a) (r := r) (f := f) (q := (va_up (va_up q 3 t13) 3 t54)) (T := tb a) (w := w) rfl) rfl rfl rfl hl.1 rfl (Nat.le_of_ble_eq_true rfl) dX10_told__141 (fun o w' H locs hp hB => ?_)
                      obtain ⟨rfl, hf69, hw9⟩ := hp
                      replace hB : Bd κ A s (mw κ a r f (va_up (va_up (va_up q 3 t13) 3 t54) 3 t67) (tb a) w) H locs := by exact Bd_eq (mwQ3x rfl _) (by rw [hw9] at hB; exact hB)
                      obtain rfl : x66 = 1 := hf69.trans (by decide)
                      refine W.eq (g2 := F0 m 144 ls [.int 1]) rfl ?_
                      refine lv_if_eq (tgt := 151) hx hb dX10_told__144 (by decide) (fun c70 => False.elim (by revert c70; decide)) (fun _ => ?_)
                      refine lv_iconst (v := 0) hx hb dX10_told__147 (by decide) ?_
                      refine lv_goto (tgt := 160) hx hb dX10_told__148 (by decide) ?_
                      rw [← hQ]
                      exact end_i hX hB hA3 rfl rfl (by obtain ⟨rfl, rfl⟩ := pr2 hR; exact ⟨rfl, ⟨rfl, rfl, rfl⟩, rfl⟩) (Nat.le_of_ble_eq_true rfl) (Nat.le_of_ble_eq_true rfl) dX10_told__160
                    · replace hB : Bd κ A s (lA κ q64 (R59 * 5) F61 :: gO q63 R59 C60 q64 :: mw κ a r f (va_up (va_up q 3 t13) 3 t54) (tb a) w) H locs := by rw [hw9] at hB; exact hB
                      refine W.eq (g2 := F0 m 126 ls [.ref q63]) rfl ?_
                      replace hR := ifn (by rw [hz0]; decide) hR
                      refine lv_astore (lv' := [(8, .ref q63), (7, .int (nI (r (2 * y.toNatClampNeg)))), (6, .int (nI (r (2 * y.toNatClampNeg)))), (5, .ref (a (2 + 2 * y.toNatClampNeg))), (0, .ref (a 0)), (1, .int y), (2, .int z), (3, .int u), (4, .int v)]) hx hb dX10_told__126 hl (by decide) rfl (fun ls hl => ?_)
                      refine lv_aload_n hx hb dX10_told__128 rfl (lv_at hl 4 rfl) ?_
                      refine lv_iconst (v := 0) hx hb dX10_told__129 (by decide) ?_
                      refine lv_iconst (v := 0) hx hb dX10_told__130 (by decide) ?_
                      refine lv_aload hx hb dX10_told__131 (lv_at hl 0 rfl) ?_
                      refine lv_ifnonnull (tgt := 140) hx hb dX10_told__133 (by decide) ?_
                      refine lv_iconst (v := 0) hx hb dX10_told__140 (by decide) ?_
                      obtain ⟨x71, t72, hd73⟩ := ex2 (D_X10_isThrown ((va_up (va_up q 3 t13) 3 t54) 0) ((va_up (va_up q 3 t13) 3 t54) 1) ((va_up (va_up q 3 t13) 3 t54) 2) ((va_up (va_up q 3 t13) 3 t54) 3) 0 0 0)
                      replace hR := bnd2_use hd73 hR
                      refine call_V (n := 3) (k0 := 2) (As := [.int 0, .int 0, .int 0]) (rest := []) hX hB (k_X10_isThrown κ l (lA κ q64 (R59 * 5) F61 :: gO q63 R59 C60 q64 :: mw κ a r f (va_up (va_up q 3 t13) 3 t54) (tb a) w) 2 (a 0) (a 1) ((va_up (va_up q 3 t13) 3 t54) 0) ((va_up (va_up q 3 t13) 3 t54) 1) ((va_up (va_up q 3 t13) 3 t54) 2) ((va_up (va_up q 3 t13) 3 t54) 3) 0 0 0 (mw0x (a := a) (r := r) (f := f) (q := (va_up (va_up q 3 t13) 3 t54)) (T := tb a) (w := w) rfl) x71 t72 hd73) ⟨rfl, yk_X10_isThrown⟩ wm_5_196 wm_5_198 wp_28 wm_1_6 wm_5_199 ⟨Nat.le_of_ble_eq_true rfl, Nat.le_of_ble_eq_true rfl⟩ ⟨Nat.le_of_ble_eq_true rfl, Nat.le_of_ble_eq_true rfl⟩ (mw0x (a := a) (r := r) (f := f) (q := (va_up (va_up q 3 t13) 3 t54)) (T := tb a) (w := w) rfl) rfl rfl rfl hl.1 rfl (Nat.le_of_ble_eq_true rfl) dX10_told__141 (fun o w' H locs hp hB => ?_)
                      obtain ⟨rfl, hf74, hw9⟩ := hp
                      replace hB : Bd κ A s (lA κ q64 (R59 * 5) F61 :: gO q63 R59 C60 q64 :: mw κ a r f (va_up (va_up (va_up q 3 t13) 3 t54) 3 t72) (tb a) w) H locs := by exact Bd_eq (congrArg (List.cons _) (congrArg (List.cons _) (mwQ3x rfl _))) (by rw [hw9] at hB; exact hB)
                      obtain rfl : x71 = 0 := hf74.trans (by decide)
                      refine W.eq (g2 := F0 m 144 ls [.int 0]) rfl ?_
                      refine lv_if_eq (tgt := 151) hx hb dX10_told__144 (by decide) (fun _ => ?_) (fun c75 => False.elim (by revert c75; decide))
                      have hT1 : R59 = r (2 * y.toNatClampNeg) := by first | exact hd65t.1 (by assumption) | exact hd65t.2.1 (by assumption)
                      have hT2 : C60 = r (2 * y.toNatClampNeg) := by first | exact hd65t.2.2.1 (by assumption) | exact hd65t.2.2.2.1 (by assumption) | exact hd65t.2.2.2.2 (by assumption) (by assumption)
                      refine lv_aload hx hb dX10_told__151 (lv_at hl 0 rfl) ?_
                      refine lv_iload_n hx hb dX10_told__153 rfl (lv_at hl 7 rfl) ?_
                      refine lv_iload hx hb dX10_told__154 (lv_at hl 8 rfl) ?_
                      refine call_V (n := 2) (k0 := 1) (As := [.int u, .int v]) (rest := []) hX hB (k_X7_at κ l (lA κ q64 (R59 * 5) F61 :: gO q63 R59 C60 q64 :: mw κ a r f (va_up (va_up (va_up q 3 t13) 3 t54) 3 t72) (tb a) w) 1 0 q63 q64 R59 C60 F61 u ((u).toNatClampNeg) v ((v).toNatClampNeg) rfl rfl ⟨by omega, by omega, by omega, by omega⟩ (nI_rep (Int32.not_lt.mp (by assumption))) (nI_rep (Int32.not_lt.mp (by assumption))) (by omega)) ⟨rfl, yk_X7_at⟩ wm_5_237 wm_5_238 wm_5_239 wm_1_7 wm_6_0 ⟨Nat.le_of_ble_eq_true rfl, Nat.le_of_ble_eq_true rfl⟩ ⟨Nat.le_of_ble_eq_true rfl, Nat.le_of_ble_eq_true rfl⟩ rfl rfl rfl rfl hl.1 rfl (Nat.le_of_ble_eq_true rfl) dX10_told__156 (fun o w' H locs hp hB => ?_)
                      obtain ⟨rfl, hw9⟩ := hp
                      replace hB : Bd κ A s (lA κ q64 (R59 * 5) F61 :: gO q63 R59 C60 q64 :: mw κ a r f (va_up (va_up (va_up q 3 t13) 3 t54) 3 t72) (tb a) w) H locs := by rw [hw9] at hB; exact hB
                      refine W.eq (g2 := F0 m 159 ls [.long (F61 (((u).toNatClampNeg) * 5 + ((v).toNatClampNeg)))]) rfl ?_
                      refine lv_l2i hx hb dX10_told__159 rfl ?_
                      replace hB : Bd κ A s (lA κ q64 (R59 * 5) F61 :: mw κ a r f (va_up (va_up (va_up q 3 t13) 3 t54) 3 t72) (tb a) w) H locs := Bd_del 1 hB
                      replace hB : Bd κ A s (mw κ a r f (va_up (va_up (va_up q 3 t13) 3 t54) 3 t72) (tb a) w) H locs := Bd_del 0 hB
                      rw [← hQ]
                      exact end_i hX hB hA3 rfl rfl (by obtain ⟨rfl, rfl⟩ := pr2 hR; exact ⟨rfl, ⟨rfl, rfl, rfl⟩, rfl⟩) (Nat.le_of_ble_eq_true rfl) (Nat.le_of_ble_eq_true rfl) dX10_told__160
                  · replace hR := ifn c52 hR
                    refine lv_iconst (v := 1) hx hb dX10_told__107 (by decide) ?_
                    refine lv_goto (tgt := 112) hx hb dX10_told__108 (by decide) ?_
                    obtain ⟨x76, t77, hd78⟩ := ex2 (D_X10_isThrown_ ((va_up q 3 t13) 0) ((va_up q 3 t13) 1) ((va_up q 3 t13) 2) ((va_up q 3 t13) 3) 0 1)
                    replace hR := bnd2_use hd78 hR
                    refine call_V (n := 2) (k0 := 0) (As := [.int 0, .int 1]) (rest := []) hX hB (k_X10_isThrown_ κ l (mw κ a r f (va_up q 3 t13) (tb a) w) 0 (a 0) (a 1) ((va_up q 3 t13) 0) ((va_up q 3 t13) 1) ((va_up q 3 t13) 2) ((va_up q 3 t13) 3) 0 1 (mw0x (a := a) (r := r) (f := f) (q := (va_up q 3 t13)) (T := tb a) (w := w) rfl) x76 t77 hd78) ⟨rfl, yk_X10_isThrown_⟩ wm_5_192 wm_5_194 wp_27 wm_1_6 wm_5_195 ⟨Nat.le_of_ble_eq_true rfl, Nat.le_of_ble_eq_true rfl⟩ ⟨Nat.le_of_ble_eq_true rfl, Nat.le_of_ble_eq_true rfl⟩ (mw0x (a := a) (r := r) (f := f) (q := (va_up q 3 t13)) (T := tb a) (w := w) rfl) rfl rfl rfl hl.1 rfl (Nat.le_of_ble_eq_true rfl) dX10_told__112 (fun o w' H locs hp hB => ?_)
                    obtain ⟨rfl, hf79, hw9⟩ := hp
                    replace hB : Bd κ A s (mw κ a r f (va_up (va_up q 3 t13) 3 t77) (tb a) w) H locs := by exact Bd_eq (mwQ3x rfl _) (by rw [hw9] at hB; exact hB)
                    obtain rfl : x76 = 1 := hf79.trans (by decide)
                    refine W.eq (g2 := F0 m 115 ls [.int 1]) rfl ?_
                    refine lv_if_eq (tgt := 120) hx hb dX10_told__115 (by decide) (fun c80 => False.elim (by revert c80; decide)) (fun _ => ?_)
                    refine lv_iconst (v := 0) hx hb dX10_told__118 (by decide) ?_
                    rw [← hQ]
                    exact end_i hX hB hA3 rfl rfl (by obtain ⟨rfl, rfl⟩ := pr2 hR; exact ⟨rfl, ⟨rfl, rfl, rfl⟩, rfl⟩) (Nat.le_of_ble_eq_true rfl) (Nat.le_of_ble_eq_true rfl) dX10_told__119
      · replace hR := ifn c19 hR
        refine lv_iload_n hx hb dX10_told__54 rfl (lv_at hl 4 rfl) ?_
        refine lv_iconst (v := 3) hx hb dX10_told__55 (by decide) ?_
        refine lv_icmp_ne (tgt := 67) hx hb dX10_told__56 (by decide) (fun c81 => ?_) (fun c81 => ?_)
        · replace hR := ifn c81 hR
          refine lv_aload hx hb dX10_told__67 (lv_at hl 1 rfl) ?_
          refine gf (k0 := 2 + 2 * y.toNatClampNeg) hX hB (mwG (i := y.toNatClampNeg) (a := a) (r := r) (f := f) (q := (va_up q 3 t13)) (T := tb a) (w := w) (by omega)) rfl in7 1 (by decide) wm_5_152 rfl rfl dX10_told__69 ?_
          refine lv_istore (lv' := [(7, .int (nI (r (2 * y.toNatClampNeg + 1)))), (6, .int (nI (r (2 * y.toNatClampNeg)))), (5, .ref (a (2 + 2 * y.toNatClampNeg))), (0, .ref (a 0)), (1, .int y), (2, .int z), (3, .int u), (4, .int v)]) hx hb dX10_told__72 hl (by decide) rfl (fun ls hl => ?_)
          refine lv_aload_n hx hb dX10_told__74 rfl (lv_at hl 3 rfl) ?_
          refine lv_iconst (v := 0) hx hb dX10_told__75 (by decide) ?_
          refine lv_iload_n hx hb dX10_told__76 rfl (lv_at hl 5 rfl) ?_
          refine lv_if_lt (tgt := 107) hx hb dX10_told__77 (by decide) (fun c82 => ?_) (fun c82 => ?_)
          · replace hR := ifp c82 hR
            refine lv_iconst (v := 1) hx hb dX10_told__107 (by decide) ?_
            refine lv_goto (tgt := 112) hx hb dX10_told__108 (by decide) ?_
            obtain ⟨x83, t84, hd85⟩ := ex2 (D_X10_isThrown_ ((va_up q 3 t13) 0) ((va_up q 3 t13) 1) ((va_up q 3 t13) 2) ((va_up q 3 t13) 3) 0 1)
            replace hR := bnd2_use hd85 hR
            refine call_V (n := 2) (k0 := 0) (As := [.int 0, .int 1]) (rest := []) hX hB (k_X10_isThrown_ κ l (mw κ a r f (va_up q 3 t13) (tb a) w) 0 (a 0) (a 1) ((va_up q 3 t13) 0) ((va_up q 3 t13) 1) ((va_up q 3 t13) 2) ((va_up q 3 t13) 3) 0 1 (mw0x (a := a) (r := r) (f := f) (q := (va_up q 3 t13)) (T := tb a) (w := w) rfl) x83 t84 hd85) ⟨rfl, yk_X10_isThrown_⟩ wm_5_192 wm_5_194 wp_27 wm_1_6 wm_5_195 ⟨Nat.le_of_ble_eq_true rfl, Nat.le_of_ble_eq_true rfl⟩ ⟨Nat.le_of_ble_eq_true rfl, Nat.le_of_ble_eq_true rfl⟩ (mw0x (a := a) (r := r) (f := f) (q := (va_up q 3 t13)) (T := tb a) (w := w) rfl) rfl rfl rfl hl.1 rfl (Nat.le_of_ble_eq_true rfl) dX10_told__112 (fun o w' H locs hp hB => ?_)
            obtain ⟨rfl, hf86, hw9⟩ := hp
            replace hB : Bd κ A s (mw κ a r f (va_up (va_up q 3 t13) 3 t84) (tb a) w) H locs := by exact Bd_eq (mwQ3x rfl _) (by rw [hw9] at hB; exact hB)
            obtain rfl : x83 = 1 := hf86.trans (by decide)
            refine W.eq (g2 := F0 m 115 ls [.int 1]) rfl ?_
            refine lv_if_eq (tgt := 120) hx hb dX10_told__115 (by decide) (fun c87 => False.elim (by revert c87; decide)) (fun _ => ?_)
            refine lv_iconst (v := 0) hx hb dX10_told__118 (by decide) ?_
            rw [← hQ]
            exact end_i hX hB hA3 rfl rfl (by obtain ⟨rfl, rfl⟩ := pr2 hR; exact ⟨rfl, ⟨rfl, rfl, rfl⟩, rfl⟩) (Nat.le_of_ble_eq_true rfl) (Nat.le_of_ble_eq_true rfl) dX10_told__119
          · replace hR := ifn c82 hR
            refine lv_iload_n hx hb dX10_told__80 rfl (lv_at hl 5 rfl) ?_
            refine lv_iconst (v := 4) hx hb dX10_told__81 (by decide) ?_
            refine lv_icmp_gt (tgt := 107) hx hb dX10_told__82 (by decide) (fun c88 => ?_) (fun c88 => ?_)
            · replace hR := ifp c88 hR
              refine lv_iconst (v := 1) hx hb dX10_told__107 (by decide) ?_
              refine lv_goto (tgt := 112) hx hb dX10_told__108 (by decide) ?_
              obtain ⟨x89, t90, hd91⟩ := ex2 (D_X10_isThrown_ ((va_up q 3 t13) 0) ((va_up q 3 t13) 1) ((va_up q 3 t13) 2) ((va_up q 3 t13) 3) 0 1)
              replace hR := bnd2_use hd91 hR
              refine call_V (n := 2) (k0 := 0) (As := [.int 0, .int 1]) (rest := []) hX hB (k_X10_isThrown_ κ l (mw κ a r f (va_up q 3 t13) (tb a) w) 0 (a 0) (a 1) ((va_up q 3 t13) 0) ((va_up q 3 t13) 1) ((va_up q 3 t13) 2) ((va_up q 3 t13) 3) 0 1 (mw0x (a := a) (r := r) (f := f) (q := (va_up q 3 t13)) (T := tb a) (w := w) rfl) x89 t90 hd91) ⟨rfl, yk_X10_isThrown_⟩ wm_5_192 wm_5_194 wp_27 wm_1_6 wm_5_195 ⟨Nat.le_of_ble_eq_true rfl, Nat.le_of_ble_eq_true rfl⟩ ⟨Nat.le_of_ble_eq_true rfl, Nat.le_of_ble_eq_true rfl⟩ (mw0x (a := a) (r := r) (f := f) (q := (va_up q 3 t13)) (T := tb a) (w := w) rfl) rfl rfl rfl hl.1 rfl (Nat.le_of_ble_eq_true rfl) dX10_told__112 (fun o w' H locs hp hB => ?_)
              obtain ⟨rfl, hf92, hw9⟩ := hp
              replace hB : Bd κ A s (mw κ a r f (va_up (va_up q 3 t13) 3 t90) (tb a) w) H locs := by exact Bd_eq (mwQ3x rfl _) (by rw [hw9] at hB; exact hB)
              obtain rfl : x89 = 1 := hf92.trans (by decide)
              refine W.eq (g2 := F0 m 115 ls [.int 1]) rfl ?_
              refine lv_if_eq (tgt := 120) hx hb dX10_told__115 (by decide) (fun c93 => False.elim (by revert c93; decide)) (fun _ => ?_)
              refine lv_iconst (v := 0) hx hb dX10_told__118 (by decide) ?_
              rw [← hQ]
              exact end_i hX hB hA3 rfl rfl (by obtain ⟨rfl, rfl⟩ := pr2 hR; exact ⟨rfl, ⟨rfl, rfl, rfl⟩, rfl⟩) (Nat.le_of_ble_eq_true rfl) (Nat.le_of_ble_eq_true rfl) dX10_told__119
            · replace hR := ifn c88 hR
              refine lv_iload_n hx hb dX10_told__85 rfl (lv_at hl 6 rfl) ?_
              refine lv_if_lt (tgt := 107) hx hb dX10_told__86 (by decide) (fun c94 => ?_) (fun c94 => ?_)
              · replace hR := ifp c94 hR
                refine lv_iconst (v := 1) hx hb dX10_told__107 (by decide) ?_
                refine lv_goto (tgt := 112) hx hb dX10_told__108 (by decide) ?_
                obtain ⟨x95, t96, hd97⟩ := ex2 (D_X10_isThrown_ ((va_up q 3 t13) 0) ((va_up q 3 t13) 1) ((va_up q 3 t13) 2) ((va_up q 3 t13) 3) 0 1)
                replace hR := bnd2_use hd97 hR
                refine call_V (n := 2) (k0 := 0) (As := [.int 0, .int 1]) (rest := []) hX hB (k_X10_isThrown_ κ l (mw κ a r f (va_up q 3 t13) (tb a) w) 0 (a 0) (a 1) ((va_up q 3 t13) 0) ((va_up q 3 t13) 1) ((va_up q 3 t13) 2) ((va_up q 3 t13) 3) 0 1 (mw0x (a := a) (r := r) (f := f) (q := (va_up q 3 t13)) (T := tb a) (w := w) rfl) x95 t96 hd97) ⟨rfl, yk_X10_isThrown_⟩ wm_5_192 wm_5_194 wp_27 wm_1_6 wm_5_195 ⟨Nat.le_of_ble_eq_true rfl, Nat.le_of_ble_eq_true rfl⟩ ⟨Nat.le_of_ble_eq_true rfl, Nat.le_of_ble_eq_true rfl⟩ (mw0x (a := a) (r := r) (f := f) (q := (va_up q 3 t13)) (T := tb a) (w := w) rfl) rfl rfl rfl hl.1 rfl (Nat.le_of_ble_eq_true rfl) dX10_told__112 (fun o w' H locs hp hB => ?_)
                obtain ⟨rfl, hf98, hw9⟩ := hp
                replace hB : Bd κ A s (mw κ a r f (va_up (va_up q 3 t13) 3 t96) (tb a) w) H locs := by exact Bd_eq (mwQ3x rfl _) (by rw [hw9] at hB; exact hB)
                obtain rfl : x95 = 1 := hf98.trans (by decide)
                refine W.eq (g2 := F0 m 115 ls [.int 1]) rfl ?_
                refine lv_if_eq (tgt := 120) hx hb dX10_told__115 (by decide) (fun c99 => False.elim (by revert c99; decide)) (fun _ => ?_)
                refine lv_iconst (v := 0) hx hb dX10_told__118 (by decide) ?_
                rw [← hQ]
                exact end_i hX hB hA3 rfl rfl (by obtain ⟨rfl, rfl⟩ := pr2 hR; exact ⟨rfl, ⟨rfl, rfl, rfl⟩, rfl⟩) (Nat.le_of_ble_eq_true rfl) (Nat.le_of_ble_eq_true rfl) dX10_told__119
              · replace hR := ifn c94 hR
                refine lv_iload_n hx hb dX10_told__89 rfl (lv_at hl 6 rfl) ?_
                refine lv_iload hx hb dX10_told__90 (lv_at hl 1 rfl) ?_
                refine lv_icmp_ge (tgt := 107) hx hb dX10_told__92 (by decide) (fun c101 => ?_) (fun c101 => ?_)
                · replace hR := ifp c101 hR
                  refine lv_iconst (v := 1) hx hb dX10_told__107 (by decide) ?_
                  refine lv_goto (tgt := 112) hx hb dX10_told__108 (by decide) ?_
                  obtain ⟨x102, t103, hd104⟩ := ex2 (D_X10_isThrown_ ((va_up q 3 t13) 0) ((va_up q 3 t13) 1) ((va_up q 3 t13) 2) ((va_up q 3 t13) 3) 0 1)
                  replace hR := bnd2_use hd104 hR
                  refine call_V (n := 2) (k0 := 0) (As := [.int 0, .int 1]) (rest := []) hX hB (k_X10_isThrown_ κ l (mw κ a r f (va_up q 3 t13) (tb a) w) 0 (a 0) (a 1) ((va_up q 3 t13) 0) ((va_up q 3 t13) 1) ((va_up q 3 t13) 2) ((va_up q 3 t13) 3) 0 1 (mw0x (a := a) (r := r) (f := f) (q := (va_up q 3 t13)) (T := tb a) (w := w) rfl) x102 t103 hd104) ⟨rfl, yk_X10_isThrown_⟩ wm_5_192 wm_5_194 wp_27 wm_1_6 wm_5_195 ⟨Nat.le_of_ble_eq_true rfl, Nat.le_of_ble_eq_true rfl⟩ ⟨Nat.le_of_ble_eq_true rfl, Nat.le_of_ble_eq_true rfl⟩ (mw0x (a := a) (r := r) (f := f) (q := (va_up q 3 t13)) (T := tb a) (w := w) rfl) rfl rfl rfl hl.1 rfl (Nat.le_of_ble_eq_true rfl) dX10_told__112 (fun o w' H locs hp hB => ?_)
                  obtain ⟨rfl, hf105, hw9⟩ := hp
                  replace hB : Bd κ A s (mw κ a r f (va_up (va_up q 3 t13) 3 t103) (tb a) w) H locs := by exact Bd_eq (mwQ3x rfl _) (by rw [hw9] at hB; exact hB)
                  obtain rfl : x102 = 1 := hf105.trans (by decide)
                  refine W.eq (g2 := F0 m 115 ls [.int 1]) rfl ?_
                  refine lv_if_eq (tgt := 120) hx hb dX10_told__115 (by decide) (fun c106 => False.elim (by revert c106; decide)) (fun _ => ?_)
                  refine lv_iconst (v := 0) hx hb dX10_told__118 (by decide) ?_
                  rw [← hQ]
                  exact end_i hX hB hA3 rfl rfl (by obtain ⟨rfl, rfl⟩ := pr2 hR; exact ⟨rfl, ⟨rfl, rfl, rfl⟩, rfl⟩) (Nat.le_of_ble_eq_true rfl) (Nat.le_of_ble_eq_true rfl) dX10_told__119
                · replace hR := ifn c101 hR
                  have hq100 := nlt_of (x := u) (n := r (2 * y.toNatClampNeg)) c94 (by omega) c101
                  refine lv_iload hx hb dX10_told__95 (lv_at hl 7 rfl) ?_
                  refine lv_if_lt (tgt := 107) hx hb dX10_told__97 (by decide) (fun c107 => ?_) (fun c107 => ?_)
                  · replace hR := ifp c107 hR
                    refine lv_iconst (v := 1) hx hb dX10_told__107 (by decide) ?_
                    refine lv_goto (tgt := 112) hx hb dX10_told__108 (by decide) ?_
                    obtain ⟨x108, t109, hd110⟩ := ex2 (D_X10_isThrown_ ((va_up q 3 t13) 0) ((va_up q 3 t13) 1) ((va_up q 3 t13) 2) ((va_up q 3 t13) 3) 0 1)
                    replace hR := bnd2_use hd110 hR
                    refine call_V (n := 2) (k0 := 0) (As := [.int 0, .int 1]) (rest := []) hX hB (k_X10_isThrown_ κ l (mw κ a r f (va_up q 3 t13) (tb a) w) 0 (a 0) (a 1) ((va_up q 3 t13) 0) ((va_up q 3 t13) 1) ((va_up q 3 t13) 2) ((va_up q 3 t13) 3) 0 1 (mw0x (a := a) (r := r) (f := f) (q := (va_up q 3 t13)) (T := tb a) (w := w) rfl) x108 t109 hd110) ⟨rfl, yk_X10_isThrown_⟩ wm_5_192 wm_5_194 wp_27 wm_1_6 wm_5_195 ⟨Nat.le_of_ble_eq_true rfl, Nat.le_of_ble_eq_true rfl⟩ ⟨Nat.le_of_ble_eq_true rfl, Nat.le_of_ble_eq_true rfl⟩ (mw0x (a := a) (r := r) (f := f) (q := (va_up q 3 t13)) (T := tb a) (w := w) rfl) rfl rfl rfl hl.1 rfl (Nat.le_of_ble_eq_true rfl) dX10_told__112 (fun o w' H locs hp hB => ?_)
                    obtain ⟨rfl, hf111, hw9⟩ := hp
                    replace hB : Bd κ A s (mw κ a r f (va_up (va_up q 3 t13) 3 t109) (tb a) w) H locs := by exact Bd_eq (mwQ3x rfl _) (by rw [hw9] at hB; exact hB)
                    obtain rfl : x108 = 1 := hf111.trans (by decide)
                    refine W.eq (g2 := F0 m 115 ls [.int 1]) rfl ?_
                    refine lv_if_eq (tgt := 120) hx hb dX10_told__115 (by decide) (fun c112 => False.elim (by revert c112; decide)) (fun _ => ?_)
                    refine lv_iconst (v := 0) hx hb dX10_told__118 (by decide) ?_
                    rw [← hQ]
                    exact end_i hX hB hA3 rfl rfl (by obtain ⟨rfl, rfl⟩ := pr2 hR; exact ⟨rfl, ⟨rfl, rfl, rfl⟩, rfl⟩) (Nat.le_of_ble_eq_true rfl) (Nat.le_of_ble_eq_true rfl) dX10_told__119
                  · replace hR := ifn c107 hR
                    refine lv_iload hx hb dX10_told__100 (lv_at hl 7 rfl) ?_
                    refine lv_iload hx hb dX10_told__102 (lv_at hl 0 rfl) ?_
                    refine lv_icmp_lt (tgt := 111) hx hb dX10_told__104 (by decide) (fun c114 => ?_) (fun c114 => ?_)
                    · replace hR := ifp c114 hR
                      have hq113 := nlt_of (x := v) (n := r (2 * y.toNatClampNeg + 1)) c107 (by omega) (Int32.not_le.mpr c114)
                      refine lv_iconst (v := 0) hx hb dX10_told__111 (by decide) ?_
                      obtain ⟨x115, t116, hd117⟩ := ex2 (D_X10_isThrown_ ((va_up q 3 t13) 0) ((va_up q 3 t13) 1) ((va_up q 3 t13) 2) ((va_up q 3 t13) 3) 0 0)
                      replace hR := bnd2_use hd117 hR
                      refine call_V (n := 2) (k0 := 0) (As := [.int 0, .int 0]) (rest := []) hX hB (k_X10_isThrown_ κ l (mw κ a r f (va_up q 3 t13) (tb a) w) 0 (a 0) (a 1) ((va_up q 3 t13) 0) ((va_up q 3 t13) 1) ((va_up q 3 t13) 2) ((va_up q 3 t13) 3) 0 0 (mw0x (a := a) (r := r) (f := f) (q := (va_up q 3 t13)) (T := tb a) (w := w) rfl) x115 t116 hd117) ⟨rfl, yk_X10_isThrown_⟩ wm_5_192 wm_5_194 wp_27 wm_1_6 wm_5_195 ⟨Nat.le_of_ble_eq_true rfl, Nat.le_of_ble_eq_true rfl⟩ ⟨Nat.le_of_ble_eq_true rfl, Nat.le_of_ble_eq_true rfl⟩ (mw0x (a := a) (r := r) (f := f) (q := (va_up q 3 t13)) (T := tb a) (w := w) rfl) rfl rfl rfl hl.1 rfl (Nat.le_of_ble_eq_true rfl) dX10_told__112 (fun o w' H locs hp hB => ?_)
                      obtain ⟨rfl, hf118, hw9⟩ := hp
                      replace hB : Bd κ A s (mw κ a r f (va_up (va_up q 3 t13) 3 t116) (tb a) w) H locs := by exact Bd_eq (mwQ3x rfl _) (by rw [hw9] at hB; exact hB)
                      obtain rfl : x115 = 0 := hf118.trans (by decide)
                      refine W.eq (g2 := F0 m 115 ls [.int 0]) rfl ?_
                      refine lv_if_eq (tgt := 120) hx hb dX10_told__115 (by decide) (fun _ => ?_) (fun c119 => False.elim (by revert c119; decide))
                      refine lv_aload hx hb dX10_told__120 (lv_at hl 2 rfl) ?_
                      refine lv_iload_n hx hb dX10_told__122 rfl (lv_at hl 5 rfl) ?_
                      obtain ⟨z120, R121, C122, F123, hd124⟩ := ex4 (D_X10_toldOf (r (2 * y.toNatClampNeg)) (r (2 * y.toNatClampNeg + 1)) (f y.toNatClampNeg) z)
                      replace hR := bnd4_use hd124 hR
                      refine call_S (n := 2) (As := [.ref (a (2 + 2 * y.toNatClampNeg)), .int z]) (rest := []) hX hB (k_X10_toldOf κ l (mw κ a r f (va_up (va_up q 3 t13) 3 t116) (tb a) w) (2 + 2 * y.toNatClampNeg) (3 + 2 * y.toNatClampNeg) (a (2 + 2 * y.toNatClampNeg)) (a (3 + 2 * y.toNatClampNeg)) (r (2 * y.toNatClampNeg)) (r (2 * y.toNatClampNeg + 1)) (f y.toNatClampNeg) z (mwG (i := y.toNatClampNeg) (a := a) (r := r) (f := f) (q := (va_up (va_up q 3 t13) 3 t116)) (T := tb a) (w := w) (by omega)) (mwA (i := y.toNatClampNeg) (a := a) (r := r) (f := f) (q := (va_up (va_up q 3 t13) 3 t116)) (T := tb a) (w := w) (by omega)) (mok_shp (i := y.toNatClampNeg) hm (by omega)) (by omega) (fun k hk => sm_ng ((hm _ (by omega)).2 k hk)) ⟨by assumption, by first | assumption | exact Int32.not_lt.mp (by assumption)⟩ z120 R121 C122 F123 hd124) yk_X10_toldOf wm_6_124 wm_6_125 wm_1_6 wm_6_126 ⟨Nat.le_of_ble_eq_true rfl, Nat.le_of_ble_eq_true rfl⟩ ⟨Nat.le_of_ble_eq_true rfl, Nat.le_of_ble_eq_true rfl⟩ rfl hl.1 rfl (Nat.le_of_ble_eq_true rfl) dX10_told__123 (fun o w' H locs hp hB => ?_)
                      rcases hp with ⟨hz0, rfl, hw9⟩ | ⟨hz0, q125, q126, rfl, ⟨⟨hd127a, hd127b, hd127c, hd127d⟩, hd127t⟩, hw9⟩
                      · replace hB : Bd κ A s (mw κ a r f (va_up (va_up q 3 t13) 3 t116) (tb a) w) H locs := by rw [hw9] at hB; exact hB
                        refine W.eq (g2 := F0 m 126 ls [.null]) rfl ?_
                        replace hR := ifp hz0 hR
                        refine lv_astoreN (lv' := [(8, .null), (7, .int (nI (r (2 * y.toNatClampNeg + 1)))), (6, .int (nI (r (2 * y.toNatClampNeg)))), (5, .ref (a (2 + 2 * y.toNatClampNeg))), (0, .ref (a 0)), (1, .int y), (2, .int z), (3, .int u), (4, .int v)]) hx hb dX10_told__126 hl (by decide) rfl (fun ls hl => ?_)
                        refine lv_aload_n hx hb dX10_told__128 rfl (lv_at hl 4 rfl) ?_
                        refine lv_iconst (v := 0) hx hb dX10_told__129 (by decide) ?_
                        refine lv_iconst (v := 0) hx hb dX10_told__130 (by decide) ?_
                        refine lv_aloadN hx hb dX10_told__131 (lv_at hl 0 rfl) ?_
                        refine lv_ifnonnullN hx hb dX10_told__133 ?_
                        refine lv_iconst (v := 1) hx hb dX10_told__136 (by decide) ?_
                        refine lv_goto (tgt := 141) hx hb dX10_told__137 (by decide) ?_
                        obtain ⟨x128, t129, hd130⟩ := ex2 (D_X10_isThrown ((va_up (va_up q 3 t13) 3 t116) 0) ((va_up (va_up q 3 t13) 3 t116) 1) ((va_up (va_up q 3 t13) 3 t116) 2) ((va_up (va_up q 3 t13) 3 t116) 3) 0 0 1)
                        replace hR := bnd2_use hd130 hR
                        refine call_V (n := 3) (k0 := 0) (As := [.int 0, .int 0, .int 1]) (rest := []) hX hB (k_X10_isThrown κ l (mw κ a r f (va_up (va_up q 3 t13) 3 t116) (tb a) w) 0 (a 0) (a 1) ((va_up (va_up q 3 t13) 3 t116) 0) ((va_up (va_up q 3 t13) 3 t116) 1) ((va_up (va_up q 3 t13) 3 t116) 2) ((va_up (va_up q 3 t13) 3 t116) 3) 0 0 1 (mw0x (a := a) (r := r) (f := f) (q := (va_up (va_up q 3 t13) 3 t116)) (T := tb a) (w := w) rfl) x128 t129 hd130) ⟨rfl, yk_X10_isThrown⟩ wm_5_196 wm_5_198 wp_28 wm_1_6 wm_5_199 ⟨Nat.le_of_ble_eq_true rfl, Nat.le_of_ble_eq_true rfl⟩ ⟨Nat.le_of_ble_eq_true rfl, Nat.le_of_ble_eq_true rfl⟩ (mw0x (a := a) (r := r) (f := f) (q := (va_up (va_up q 3 t13) 3 t116)) (T := tb a) (w := w) rfl) rfl rfl rfl hl.1 rfl (Nat.le_of_ble_eq_true rfl) dX10_told__141 (fun o w' H locs hp hB => ?_)
                        obtain ⟨rfl, hf131, hw9⟩ := hp
                        replace hB : Bd κ A s (mw κ a r f (va_up (va_up (va_up q 3 t13) 3 t116) 3 t129) (tb a) w) H locs := by exact Bd_eq (mwQ3x rfl _) (by rw [hw9] at hB; exact hB)
                        obtain rfl : x128 = 1 := hf131.trans (by decide)
                        refine W.eq (g2 := F0 m 144 ls [.int 1]) rfl ?_
                        refine lv_if_eq (tgt := 151) hx hb dX10_told__144 (by decide) (fun c132 => False.elim (by revert c132; decide)) (fun _ => ?_)
                        refine lv_iconst (v := 0) hx hb dX10_told__147 (by decide) ?_
                        refine lv_goto (tgt := 160) hx hb dX10_told__148 (by decide) ?_
                        rw [← hQ]
                        exact end_i hX hB hA3 rfl rfl (by obtain ⟨rfl, rfl⟩ := pr2 hR; exact ⟨rfl, ⟨rfl, rfl, rfl⟩, rfl⟩) (Nat.le_of_ble_eq_true rfl) (Nat.le_of_ble_eq_true rfl) dX10_told__160
                      · replace hB : Bd κ A s (lA κ q126 (R121 * 5) F123 :: gO q125 R121 C122 q126 :: mw κ a r f (va_up (va_up q 3 t13) 3 t116) (tb a) w) H locs := by rw [hw9] at hB; exact hB
                        refine W.eq (g2 := F0 m 126 ls [.ref q125]) rfl ?_
                        replace hR := ifn (by rw [hz0]; decide) hR
                        refine lv_astore (lv' := [(8, .ref q125), (7, .int (nI (r (2 * y.toNatClampNeg + 1)))), (6, .int (nI (r (2 * y.toNatClampNeg)))), (5, .ref (a (2 + 2 * y.toNatClampNeg))), (0, .ref (a 0)), (1, .int y), (2, .int z), (3, .int u), (4, .int v)]) hx hb dX10_told__126 hl (by decide) rfl (fun ls hl => ?_)
                        refine lv_aload_n hx hb dX10_told__128 rfl (lv_at hl 4 rfl) ?_
                        refine lv_iconst (v := 0) hx hb dX10_told__129 (by decide) ?_
                        refine lv_iconst (v := 0) hx hb dX10_told__130 (by decide) ?_
                        refine lv_aload hx hb dX10_told__131 (lv_at hl 0 rfl) ?_
                        refine lv_ifnonnull (tgt := 140) hx hb dX10_told__133 (by decide) ?_
                        refine lv_iconst (v := 0) hx hb dX10_told__140 (by decide) ?_
                        obtain ⟨x133, t134, hd135⟩ := ex2 (D_X10_isThrown ((va_up (va_up q 3 t13) 3 t116) 0) ((va_up (va_up q 3 t13) 3 t116) 1) ((va_up (va_up q 3 t13) 3 t116) 2) ((va_up (va_up q 3 t13) 3 t116) 3) 0 0 0)
                        replace hR := bnd2_use hd135 hR
                        refine call_V (n := 3) (k0 := 2) (As := [.int 0, .int 0, .int 0]) (rest := []) hX hB (k_X10_isThrown κ l (lA κ q126 (R121 * 5) F123 :: gO q125 R121 C122 q126 :: mw κ a r f (va_up (va_up q 3 t13) 3 t116) (tb a) w) 2 (a 0) (a 1) ((va_up (va_up q 3 t13) 3 t116) 0) ((va_up (va_up q 3 t13) 3 t116) 1) ((va_up (va_up q 3 t13) 3 t116) 2) ((va_up (va_up q 3 t13) 3 t116) 3) 0 0 0 (mw0x (a := a) (r := r) (f := f) (q := (va_up (va_up q 3 t13) 3 t116)) (T := tb a) (w := w) rfl) x133 t134 hd135) ⟨rfl, yk_X10_isThrown⟩ wm_5_196 wm_5_198 wp_28 wm_1_6 wm_5_199 ⟨Nat.le_of_ble_eq_true rfl, Nat.le_of_ble_eq_true rfl⟩ ⟨Nat.le_of_ble_eq_true rfl, Nat.le_of_ble_eq_true rfl⟩ (mw0x (a := a) (r := r) (f := f) (q := (va_up (va_up q 3 t13) 3 t116)) (T := tb a) (w := w) rfl) rfl rfl rfl hl.1 rfl (Nat.le_of_ble_eq_true rfl) dX10_told__141 (fun o w' H locs hp hB => ?_)
                        obtain ⟨rfl, hf136, hw9⟩ := hp
                        replace hB : Bd κ A s (lA κ q126 (R121 * 5) F123 :: gO q125 R121 C122 q126 :: mw κ a r f (va_up (va_up (va_up q 3 t13) 3 t116) 3 t134) (tb a) w) H locs := by exact Bd_eq (congrArg (List.cons _) (congrArg (List.cons _) (mwQ3x rfl _))) (by rw [hw9] at hB; exact hB)
                        obtain rfl : x133 = 0 := hf136.trans (by decide)
                        refine W.eq (g2 := F0 m 144 ls [.int 0]) rfl ?_
                        refine lv_if_eq (tgt := 151) hx hb dX10_told__144 (by decide) (fun _ => ?_) (fun c137 => False.elim (by revert c137; decide))
                        have hT1 : R121 = r (2 * y.toNatClampNeg) := by first | exact hd127t.1 (by assumption) | exact hd127t.2.1 (by assumption)
                        have hT2 : C122 = r (2 * y.toNatClampNeg + 1) := by first | exact hd127t.2.2.1 (by assumption) | exact hd127t.2.2.2.1 (by assumption) | exact hd127t.2.2.2.2 (by assumption) (by assumption)
                        refine lv_aload hx hb dX10_told__151 (lv_at hl 0 rfl) ?_
                        refine lv_iload_n hx hb dX10_told__153 rfl (lv_at hl 7 rfl) ?_
                        refine lv_iload hx hb dX10_told__154 (lv_at hl 8 rfl) ?_
                        refine call_V (n := 2) (k0 := 1) (As := [.int u, .int v]) (rest := []) hX hB (k_X7_at κ l (lA κ q126 (R121 * 5) F123 :: gO q125 R121 C122 q126 :: mw κ a r f (va_up (va_up (va_up q 3 t13) 3 t116) 3 t134) (tb a) w) 1 0 q125 q126 R121 C122 F123 u ((u).toNatClampNeg) v ((v).toNatClampNeg) rfl rfl ⟨by omega, by omega, by omega, by omega⟩ (nI_rep (Int32.not_lt.mp (by assumption))) (nI_rep (Int32.not_lt.mp (by assumption))) (by omega)) ⟨rfl, yk_X7_at⟩ wm_5_237 wm_5_238 wm_5_239 wm_1_7 wm_6_0 ⟨Nat.le_of_ble_eq_true rfl, Nat.le_of_ble_eq_true rfl⟩ ⟨Nat.le_of_ble_eq_true rfl, Nat.le_of_ble_eq_true rfl⟩ rfl rfl rfl rfl hl.1 rfl (Nat.le_of_ble_eq_true rfl) dX10_told__156 (fun o w' H locs hp hB => ?_)
                        obtain ⟨rfl, hw9⟩ := hp
                        replace hB : Bd κ A s (lA κ q126 (R121 * 5) F123 :: gO q125 R121 C122 q126 :: mw κ a r f (va_up (va_up (va_up q 3 t13) 3 t116) 3 t134) (tb a) w) H locs := by rw [hw9] at hB; exact hB
                        refine W.eq (g2 := F0 m 159 ls [.long (F123 (((u).toNatClampNeg) * 5 + ((v).toNatClampNeg)))]) rfl ?_
                        refine lv_l2i hx hb dX10_told__159 rfl ?_
                        replace hB : Bd κ A s (lA κ q126 (R121 * 5) F123 :: mw κ a r f (va_up (va_up (va_up q 3 t13) 3 t116) 3 t134) (tb a) w) H locs := Bd_del 1 hB
                        replace hB : Bd κ A s (mw κ a r f (va_up (va_up (va_up q 3 t13) 3 t116) 3 t134) (tb a) w) H locs := Bd_del 0 hB
                        rw [← hQ]
                        exact end_i hX hB hA3 rfl rfl (by obtain ⟨rfl, rfl⟩ := pr2 hR; exact ⟨rfl, ⟨rfl, rfl, rfl⟩, rfl⟩) (Nat.le_of_ble_eq_true rfl) (Nat.le_of_ble_eq_true rfl) dX10_told__160
                    · replace hR := ifn c114 hR
                      refine lv_iconst (v := 1) hx hb dX10_told__107 (by decide) ?_
                      refine lv_goto (tgt := 112) hx hb dX10_told__108 (by decide) ?_
                      obtain ⟨x138, t139, hd140⟩ := ex2 (D_X10_isThrown_ ((va_up q 3 t13) 0) ((va_up q 3 t13) 1) ((va_up q 3 t13) 2) ((va_up q 3 t13) 3) 0 1)
                      replace hR := bnd2_use hd140 hR
                      refine call_V (n := 2) (k0 := 0) (As := [.int 0, .int 1]) (rest := []) hX hB (k_X10_isThrown_ κ l (mw κ a r f (va_up q 3 t13) (tb a) w) 0 (a 0) (a 1) ((va_up q 3 t13) 0) ((va_up q 3 t13) 1) ((va_up q 3 t13) 2) ((va_up q 3 t13) 3) 0 1 (mw0x (a := a) (r := r) (f := f) (q := (va_up q 3 t13)) (T := tb a) (w := w) rfl) x138 t139 hd140) ⟨rfl, yk_X10_isThrown_⟩ wm_5_192 wm_5_194 wp_27 wm_1_6 wm_5_195 ⟨Nat.le_of_ble_eq_true rfl, Nat.le_of_ble_eq_true rfl⟩ ⟨Nat.le_of_ble_eq_true rfl, Nat.le_of_ble_eq_true rfl⟩ (mw0x (a := a) (r := r) (f := f) (q := (va_up q 3 t13)) (T := tb a) (w := w) rfl) rfl rfl rfl hl.1 rfl (Nat.le_of_ble_eq_true rfl) dX10_told__112 (fun o w' H locs hp hB => ?_)
                      obtain ⟨rfl, hf141, hw9⟩ := hp
                      replace hB : Bd κ A s (mw κ a r f (va_up (va_up q 3 t13) 3 t139) (tb a) w) H locs := by exact Bd_eq (mwQ3x rfl _) (by rw [hw9] at hB; exact hB)
                      obtain rfl : x138 = 1 := hf141.trans (by decide)
                      refine W.eq (g2 := F0 m 115 ls [.int 1]) rfl ?_
                      refine lv_if_eq (tgt := 120) hx hb dX10_told__115 (by decide) (fun c142 => False.elim (by revert c142; decide)) (fun _ => ?_)
                      refine lv_iconst (v := 0) hx hb dX10_told__118 (by decide) ?_
                      rw [← hQ]
                      exact end_i hX hB hA3 rfl rfl (by obtain ⟨rfl, rfl⟩ := pr2 hR; exact ⟨rfl, ⟨rfl, rfl, rfl⟩, rfl⟩) (Nat.le_of_ble_eq_true rfl) (Nat.le_of_ble_eq_true rfl) dX10_told__119
        · replace hR := ifp c81 hR
          refine lv_aload hx hb dX10_told__59 (lv_at hl 1 rfl) ?_
          refine gf (k0 := 2 + 2 * y.toNatClampNeg) hX hB (mwG (i := y.toNatClampNeg) (a := a) (r := r) (f := f) (q := (va_up q 3 t13)) (T := tb a) (w := w) (by omega)) rfl in7 0 (by decide) wm_5_148 rfl rfl dX10_told__61 ?_
          refine lv_goto (tgt := 72) hx hb dX10_told__64 (by decide) ?_
          refine lv_istore (lv' := [(7, .int (nI (r (2 * y.toNatClampNeg)))), (6, .int (nI (r (2 * y.toNatClampNeg)))), (5, .ref (a (2 + 2 * y.toNatClampNeg))), (0, .ref (a 0)), (1, .int y), (2, .int z), (3, .int u), (4, .int v)]) hx hb dX10_told__72 hl (by decide) rfl (fun ls hl => ?_)
          refine lv_aload_n hx hb dX10_told__74 rfl (lv_at hl 3 rfl) ?_
          refine lv_iconst (v := 0) hx hb dX10_told__75 (by decide) ?_
          refine lv_iload_n hx hb dX10_told__76 rfl (lv_at hl 5 rfl) ?_
          refine lv_if_lt (tgt := 107) hx hb dX10_told__77 (by decide) (fun c143 => ?_) (fun c143 => ?_)
          · replace hR := ifp c143 hR
            refine lv_iconst (v := 1) hx hb dX10_told__107 (by decide) ?_
            refine lv_goto (tgt := 112) hx hb dX10_told__108 (by decide) ?_
            obtain ⟨x144, t145, hd146⟩ := ex2 (D_X10_isThrown_ ((va_up q 3 t13) 0) ((va_up q 3 t13) 1) ((va_up q 3 t13) 2) ((va_up q 3 t13) 3) 0 1)
            replace hR := bnd2_use hd146 hR
            refine call_V (n := 2) (k0 := 0) (As := [.int 0, .int 1]) (rest := []) hX hB (k_X10_isThrown_ κ l (mw κ a r f (va_up q 3 t13) (tb a) w) 0 (a 0) (a 1) ((va_up q 3 t13) 0) ((va_up q 3 t13) 1) ((va_up q 3 t13) 2) ((va_up q 3 t13) 3) 0 1 (mw0x (a := a) (r := r) (f := f) (q := (va_up q 3 t13)) (T := tb a) (w := w) rfl) x144 t145 hd146) ⟨rfl, yk_X10_isThrown_⟩ wm_5_192 wm_5_194 wp_27 wm_1_6 wm_5_195 ⟨Nat.le_of_ble_eq_true rfl, Nat.le_of_ble_eq_true rfl⟩ ⟨Nat.le_of_ble_eq_true rfl, Nat.le_of_ble_eq_true rfl⟩ (mw0x (a := a) (r := r) (f := f) (q := (va_up q 3 t13)) (T := tb a) (w := w) rfl) rfl rfl rfl hl.1 rfl (Nat.le_of_ble_eq_true rfl) dX10_told__112 (fun o w' H locs hp hB => ?_)
            obtain ⟨rfl, hf147, hw9⟩ := hp
            replace hB : Bd κ A s (mw κ a r f (va_up (va_up q 3 t13) 3 t145) (tb a) w) H locs := by exact Bd_eq (mwQ3x rfl _) (by rw [hw9] at hB; exact hB)
            obtain rfl : x144 = 1 := hf147.trans (by decide)
            refine W.eq (g2 := F0 m 115 ls [.int 1]) rfl ?_
            refine lv_if_eq (tgt := 120) hx hb dX10_told__115 (by decide) (fun c148 => False.elim (by revert c148; decide)) (fun _ => ?_)
            refine lv_iconst (v := 0) hx hb dX10_told__118 (by decide) ?_
            rw [← hQ]
            exact end_i hX hB hA3 rfl rfl (by obtain ⟨rfl, rfl⟩ := pr2 hR; exact ⟨rfl, ⟨rfl, rfl, rfl⟩, rfl⟩) (Nat.le_of_ble_eq_true rfl) (Nat.le_of_ble_eq_true rfl) dX10_told__119
          · replace hR := ifn c143 hR
            refine lv_iload_n hx hb dX10_told__80 rfl (lv_at hl 5 rfl) ?_
            refine lv_iconst (v := 4) hx hb dX10_told__81 (by decide) ?_
            refine lv_icmp_gt (tgt := 107) hx hb dX10_told__82 (by decide) (fun c149 => ?_) (fun c149 => ?_)
            · replace hR := ifp c149 hR
              refine lv_iconst (v := 1) hx hb dX10_told__107 (by decide) ?_
              refine lv_goto (tgt := 112) hx hb dX10_told__108 (by decide) ?_
              obtain ⟨x150, t151, hd152⟩ := ex2 (D_X10_isThrown_ ((va_up q 3 t13) 0) ((va_up q 3 t13) 1) ((va_up q 3 t13) 2) ((va_up q 3 t13) 3) 0 1)
              replace hR := bnd2_use hd152 hR
              refine call_V (n := 2) (k0 := 0) (As := [.int 0, .int 1]) (rest := []) hX hB (k_X10_isThrown_ κ l (mw κ a r f (va_up q 3 t13) (tb a) w) 0 (a 0) (a 1) ((va_up q 3 t13) 0) ((va_up q 3 t13) 1) ((va_up q 3 t13) 2) ((va_up q 3 t13) 3) 0 1 (mw0x (a := a) (r := r) (f := f) (q := (va_up q 3 t13)) (T := tb a) (w := w) rfl) x150 t151 hd152) ⟨rfl, yk_X10_isThrown_⟩ wm_5_192 wm_5_194 wp_27 wm_1_6 wm_5_195 ⟨Nat.le_of_ble_eq_true rfl, Nat.le_of_ble_eq_true rfl⟩ ⟨Nat.le_of_ble_eq_true rfl, Nat.le_of_ble_eq_true rfl⟩ (mw0x (a := a) (r := r) (f := f) (q := (va_up q 3 t13)) (T := tb a) (w := w) rfl) rfl rfl rfl hl.1 rfl (Nat.le_of_ble_eq_true rfl) dX10_told__112 (fun o w' H locs hp hB => ?_)
              obtain ⟨rfl, hf153, hw9⟩ := hp
              replace hB : Bd κ A s (mw κ a r f (va_up (va_up q 3 t13) 3 t151) (tb a) w) H locs := by exact Bd_eq (mwQ3x rfl _) (by rw [hw9] at hB; exact hB)
              obtain rfl : x150 = 1 := hf153.trans (by decide)
              refine W.eq (g2 := F0 m 115 ls [.int 1]) rfl ?_
              refine lv_if_eq (tgt := 120) hx hb dX10_told__115 (by decide) (fun c154 => False.elim (by revert c154; decide)) (fun _ => ?_)
              refine lv_iconst (v := 0) hx hb dX10_told__118 (by decide) ?_
              rw [← hQ]
              exact end_i hX hB hA3 rfl rfl (by obtain ⟨rfl, rfl⟩ := pr2 hR; exact ⟨rfl, ⟨rfl, rfl, rfl⟩, rfl⟩) (Nat.le_of_ble_eq_true rfl) (Nat.le_of_ble_eq_true rfl) dX10_told__119
            · replace hR := ifn c149 hR
              refine lv_iload_n hx hb dX10_told__85 rfl (lv_at hl 6 rfl) ?_
              refine lv_if_lt (tgt := 107) hx hb dX10_told__86 (by decide) (fun c155 => ?_) (fun c155 => ?_)
              · replace hR := ifp c155 hR
                refine lv_iconst (v := 1) hx hb dX10_told__107 (by decide) ?_
                refine lv_goto (tgt := 112) hx hb dX10_told__108 (by decide) ?_
                obtain ⟨x156, t157, hd158⟩ := ex2 (D_X10_isThrown_ ((va_up q 3 t13) 0) ((va_up q 3 t13) 1) ((va_up q 3 t13) 2) ((va_up q 3 t13) 3) 0 1)
                replace hR := bnd2_use hd158 hR
                refine call_V (n := 2) (k0 := 0) (As := [.int 0, .int 1]) (rest := []) hX hB (k_X10_isThrown_ κ l (mw κ a r f (va_up q 3 t13) (tb a) w) 0 (a 0) (a 1) ((va_up q 3 t13) 0) ((va_up q 3 t13) 1) ((va_up q 3 t13) 2) ((va_up q 3 t13) 3) 0 1 (mw0x (a := a) (r := r) (f := f) (q := (va_up q 3 t13)) (T := tb a) (w := w) rfl) x156 t157 hd158) ⟨rfl, yk_X10_isThrown_⟩ wm_5_192 wm_5_194 wp_27 wm_1_6 wm_5_195 ⟨Nat.le_of_ble_eq_true rfl, Nat.le_of_ble_eq_true rfl⟩ ⟨Nat.le_of_ble_eq_true rfl, Nat.le_of_ble_eq_true rfl⟩ (mw0x (a := a) (r := r) (f := f) (q := (va_up q 3 t13)) (T := tb a) (w := w) rfl) rfl rfl rfl hl.1 rfl (Nat.le_of_ble_eq_true rfl) dX10_told__112 (fun o w' H locs hp hB => ?_)
                obtain ⟨rfl, hf159, hw9⟩ := hp
                replace hB : Bd κ A s (mw κ a r f (va_up (va_up q 3 t13) 3 t157) (tb a) w) H locs := by exact Bd_eq (mwQ3x rfl _) (by rw [hw9] at hB; exact hB)
                obtain rfl : x156 = 1 := hf159.trans (by decide)
                refine W.eq (g2 := F0 m 115 ls [.int 1]) rfl ?_
                refine lv_if_eq (tgt := 120) hx hb dX10_told__115 (by decide) (fun c160 => False.elim (by revert c160; decide)) (fun _ => ?_)
                refine lv_iconst (v := 0) hx hb dX10_told__118 (by decide) ?_
                rw [← hQ]
                exact end_i hX hB hA3 rfl rfl (by obtain ⟨rfl, rfl⟩ := pr2 hR; exact ⟨rfl, ⟨rfl, rfl, rfl⟩, rfl⟩) (Nat.le_of_ble_eq_true rfl) (Nat.le_of_ble_eq_true rfl) dX10_told__119
              · replace hR := ifn c155 hR
                refine lv_iload_n hx hb dX10_told__89 rfl (lv_at hl 6 rfl) ?_
                refine lv_iload hx hb dX10_told__90 (lv_at hl 1 rfl) ?_
                refine lv_icmp_ge (tgt := 107) hx hb dX10_told__92 (by decide) (fun c162 => ?_) (fun c162 => ?_)
                · replace hR := ifp c162 hR
                  refine lv_iconst (v := 1) hx hb dX10_told__107 (by decide) ?_
                  refine lv_goto (tgt := 112) hx hb dX10_told__108 (by decide) ?_
                  obtain ⟨x163, t164, hd165⟩ := ex2 (D_X10_isThrown_ ((va_up q 3 t13) 0) ((va_up q 3 t13) 1) ((va_up q 3 t13) 2) ((va_up q 3 t13) 3) 0 1)
                  replace hR := bnd2_use hd165 hR
                  refine call_V (n := 2) (k0 := 0) (As := [.int 0, .int 1]) (rest := []) hX hB (k_X10_isThrown_ κ l (mw κ a r f (va_up q 3 t13) (tb a) w) 0 (a 0) (a 1) ((va_up q 3 t13) 0) ((va_up q 3 t13) 1) ((va_up q 3 t13) 2) ((va_up q 3 t13) 3) 0 1 (mw0x (a := a) (r := r) (f := f) (q := (va_up q 3 t13)) (T := tb a) (w := w) rfl) x163 t164 hd165) ⟨rfl, yk_X10_isThrown_⟩ wm_5_192 wm_5_194 wp_27 wm_1_6 wm_5_195 ⟨Nat.le_of_ble_eq_true rfl, Nat.le_of_ble_eq_true rfl⟩ ⟨Nat.le_of_ble_eq_true rfl, Nat.le_of_ble_eq_true rfl⟩ (mw0x (a := a) (r := r) (f := f) (q := (va_up q 3 t13)) (T := tb a) (w := w) rfl) rfl rfl rfl hl.1 rfl (Nat.le_of_ble_eq_true rfl) dX10_told__112 (fun o w' H locs hp hB => ?_)
                  obtain ⟨rfl, hf166, hw9⟩ := hp
                  replace hB : Bd κ A s (mw κ a r f (va_up (va_up q 3 t13) 3 t164) (tb a) w) H locs := by exact Bd_eq (mwQ3x rfl _) (by rw [hw9] at hB; exact hB)
                  obtain rfl : x163 = 1 := hf166.trans (by decide)
                  refine W.eq (g2 := F0 m 115 ls [.int 1]) rfl ?_
                  refine lv_if_eq (tgt := 120) hx hb dX10_told__115 (by decide) (fun c167 => False.elim (by revert c167; decide)) (fun _ => ?_)
                  refine lv_iconst (v := 0) hx hb dX10_told__118 (by decide) ?_
                  rw [← hQ]
                  exact end_i hX hB hA3 rfl rfl (by obtain ⟨rfl, rfl⟩ := pr2 hR; exact ⟨rfl, ⟨rfl, rfl, rfl⟩, rfl⟩) (Nat.le_of_ble_eq_true rfl) (Nat.le_of_ble_eq_true rfl) dX10_told__119
                · replace hR := ifn c162 hR
                  have hq161 := nlt_of (x := u) (n := r (2 * y.toNatClampNeg)) c155 (by omega) c162
                  refine lv_iload hx hb dX10_told__95 (lv_at hl 7 rfl) ?_
                  refine lv_if_lt (tgt := 107) hx hb dX10_told__97 (by decide) (fun c168 => ?_) (fun c168 => ?_)
                  · replace hR := ifp c168 hR
                    refine lv_iconst (v := 1) hx hb dX10_told__107 (by decide) ?_
                    refine lv_goto (tgt := 112) hx hb dX10_told__108 (by decide) ?_
                    obtain ⟨x169, t170, hd171⟩ := ex2 (D_X10_isThrown_ ((va_up q 3 t13) 0) ((va_up q 3 t13) 1) ((va_up q 3 t13) 2) ((va_up q 3 t13) 3) 0 1)
                    replace hR := bnd2_use hd171 hR
                    refine call_V (n := 2) (k0 := 0) (As := [.int 0, .int 1]) (rest := []) hX hB (k_X10_isThrown_ κ l (mw κ a r f (va_up q 3 t13) (tb a) w) 0 (a 0) (a 1) ((va_up q 3 t13) 0) ((va_up q 3 t13) 1) ((va_up q 3 t13) 2) ((va_up q 3 t13) 3) 0 1 (mw0x (a := a) (r := r) (f := f) (q := (va_up q 3 t13)) (T := tb a) (w := w) rfl) x169 t170 hd171) ⟨rfl, yk_X10_isThrown_⟩ wm_5_192 wm_5_194 wp_27 wm_1_6 wm_5_195 ⟨Nat.le_of_ble_eq_true rfl, Nat.le_of_ble_eq_true rfl⟩ ⟨Nat.le_of_ble_eq_true rfl, Nat.le_of_ble_eq_true rfl⟩ (mw0x (a := a) (r := r) (f := f) (q := (va_up q 3 t13)) (T := tb a) (w := w) rfl) rfl rfl rfl hl.1 rfl (Nat.le_of_ble_eq_true rfl) dX10_told__112 (fun o w' H locs hp hB => ?_)
                    obtain ⟨rfl, hf172, hw9⟩ := hp
                    replace hB : Bd κ A s (mw κ a r f (va_up (va_up q 3 t13) 3 t170) (tb a) w) H locs := by exact Bd_eq (mwQ3x rfl _) (by rw [hw9] at hB; exact hB)
                    obtain rfl : x169 = 1 := hf172.trans (by decide)
                    refine W.eq (g2 := F0 m 115 ls [.int 1]) rfl ?_
                    refine lv_if_eq (tgt := 120) hx hb dX10_told__115 (by decide) (fun c173 => False.elim (by revert c173; decide)) (fun _ => ?_)
                    refine lv_iconst (v := 0) hx hb dX10_told__118 (by decide) ?_
                    rw [← hQ]
                    exact end_i hX hB hA3 rfl rfl (by obtain ⟨rfl, rfl⟩ := pr2 hR; exact ⟨rfl, ⟨rfl, rfl, rfl⟩, rfl⟩) (Nat.le_of_ble_eq_true rfl) (Nat.le_of_ble_eq_true rfl) dX10_told__119
                  · replace hR := ifn c168 hR
                    refine lv_iload hx hb dX10_told__100 (lv_at hl 7 rfl) ?_
                    refine lv_iload hx hb dX10_told__102 (lv_at hl 0 rfl) ?_
                    refine lv_icmp_lt (tgt := 111) hx hb dX10_told__104 (by decide) (fun c175 => ?_) (fun c175 => ?_)
                    · replace hR := ifp c175 hR
                      have hq174 := nlt_of (x := v) (n := r (2 * y.toNatClampNeg)) c168 (by omega) (Int32.not_le.mpr c175)
                      refine lv_iconst (v := 0) hx hb dX10_told__111 (by decide) ?_
                      obtain ⟨x176, t177, hd178⟩ := ex2 (D_X10_isThrown_ ((va_up q 3 t13) 0) ((va_up q 3 t13) 1) ((va_up q 3 t13) 2) ((va_up q 3 t13) 3) 0 0)
                      replace hR := bnd2_use hd178 hR
                      refine call_V (n := 2) (k0 := 0) (As := [.int 0, .int 0]) (rest := []) hX hB (k_X10_isThrown_ κ l (mw κ a r f (va_up q 3 t13) (tb a) w) 0 (a 0) (a 1) ((va_up q 3 t13) 0) ((va_up q 3 t13) 1) ((va_up q 3 t13) 2) ((va_up q 3 t13) 3) 0 0 (mw0x (a := a) (r := r) (f := f) (q := (va_up q 3 t13)) (T := tb a) (w := w) rfl) x176 t177 hd178) ⟨rfl, yk_X10_isThrown_⟩ wm_5_192 wm_5_194 wp_27 wm_1_6 wm_5_195 ⟨Nat.le_of_ble_eq_true rfl, Nat.le_of_ble_eq_true rfl⟩ ⟨Nat.le_of_ble_eq_true rfl, Nat.le_of_ble_eq_true rfl⟩ (mw0x (a := a) (r := r) (f := f) (q := (va_up q 3 t13)) (T := tb a) (w := w) rfl) rfl rfl rfl hl.1 rfl (Nat.le_of_ble_eq_true rfl) dX10_told__112 (fun o w' H locs hp hB => ?_)
                      obtain ⟨rfl, hf179, hw9⟩ := hp
                      replace hB : Bd κ A s (mw κ a r f (va_up (va_up q 3 t13) 3 t177) (tb a) w) H locs := by exact Bd_eq (mwQ3x rfl _) (by rw [hw9] at hB; exact hB)
                      obtain rfl : x176 = 0 := hf179.trans (by decide)
                      refine W.eq (g2 := F0 m 115 ls [.int 0]) rfl ?_
                      refine lv_if_eq (tgt := 120) hx hb dX10_told__115 (by decide) (fun _ => ?_) (fun c180 => False.elim (by revert c180; decide))
                      refine lv_aload hx hb dX10_told__120 (lv_at hl 2 rfl) ?_
                      refine lv_iload_n hx hb dX10_told__122 rfl (lv_at hl 5 rfl) ?_
                      obtain ⟨z181, R182, C183, F184, hd185⟩ := ex4 (D_X10_toldOf (r (2 * y.toNatClampNeg)) (r (2 * y.toNatClampNeg + 1)) (f y.toNatClampNeg) z)
                      replace hR := bnd4_use hd185 hR
                      refine call_S (n := 2) (As := [.ref (a (2 + 2 * y.toNatClampNeg)), .int z]) (rest := []) hX hB (k_X10_toldOf κ l (mw κ a r f (va_up (va_up q 3 t13) 3 t177) (tb a) w) (2 + 2 * y.toNatClampNeg) (3 + 2 * y.toNatClampNeg) (a (2 + 2 * y.toNatClampNeg)) (a (3 + 2 * y.toNatClampNeg)) (r (2 * y.toNatClampNeg)) (r (2 * y.toNatClampNeg + 1)) (f y.toNatClampNeg) z (mwG (i := y.toNatClampNeg) (a := a) (r := r) (f := f) (q := (va_up (va_up q 3 t13) 3 t177)) (T := tb a) (w := w) (by omega)) (mwA (i := y.toNatClampNeg) (a := a) (r := r) (f := f) (q := (va_up (va_up q 3 t13) 3 t177)) (T := tb a) (w := w) (by omega)) (mok_shp (i := y.toNatClampNeg) hm (by omega)) (by omega) (fun k hk => sm_ng ((hm _ (by omega)).2 k hk)) ⟨by assumption, by first | assumption | exact Int32.not_lt.mp (by assumption)⟩ z181 R182 C183 F184 hd185) yk_X10_toldOf wm_6_124 wm_6_125 wm_1_6 wm_6_126 ⟨Nat.le_of_ble_eq_true rfl, Nat.le_of_ble_eq_true rfl⟩ ⟨Nat.le_of_ble_eq_true rfl, Nat.le_of_ble_eq_true rfl⟩ rfl hl.1 rfl (Nat.le_of_ble_eq_true rfl) dX10_told__123 (fun o w' H locs hp hB => ?_)
                      rcases hp with ⟨hz0, rfl, hw9⟩ | ⟨hz0, q186, q187, rfl, ⟨⟨hd188a, hd188b, hd188c, hd188d⟩, hd188t⟩, hw9⟩
                      · replace hB : Bd κ A s (mw κ a r f (va_up (va_up q 3 t13) 3 t177) (tb a) w) H locs := by rw [hw9] at hB; exact hB
                        refine W.eq (g2 := F0 m 126 ls [.null]) rfl ?_
                        replace hR := ifp hz0 hR
                        refine lv_astoreN (lv' := [(8, .null), (7, .int (nI (r (2 * y.toNatClampNeg)))), (6, .int (nI (r (2 * y.toNatClampNeg)))), (5, .ref (a (2 + 2 * y.toNatClampNeg))), (0, .ref (a 0)), (1, .int y), (2, .int z), (3, .int u), (4, .int v)]) hx hb dX10_told__126 hl (by decide) rfl (fun ls hl => ?_)
                        refine lv_aload_n hx hb dX10_told__128 rfl (lv_at hl 4 rfl) ?_
                        refine lv_iconst (v := 0) hx hb dX10_told__129 (by decide) ?_
                        refine lv_iconst (v := 0) hx hb dX10_told__130 (by decide) ?_
                        refine lv_aloadN hx hb dX10_told__131 (lv_at hl 0 rfl) ?_
                        refine lv_ifnonnullN hx hb dX10_told__133 ?_
                        refine lv_iconst (v := 1) hx hb dX10_told__136 (by decide) ?_
                        refine lv_goto (tgt := 141) hx hb dX10_told__137 (by decide) ?_
                        obtain ⟨x189, t190, hd191⟩ := ex2 (D_X10_isThrown ((va_up (va_up q 3 t13) 3 t177) 0) ((va_up (va_up q 3 t13) 3 t177) 1) ((va_up (va_up q 3 t13) 3 t177) 2) ((va_up (va_up q 3 t13) 3 t177) 3) 0 0 1)
                        replace hR := bnd2_use hd191 hR
                        refine call_V (n := 3) (k0 := 0) (As := [.int 0, .int 0, .int 1]) (rest := []) hX hB (k_X10_isThrown κ l (mw κ a r f (va_up (va_up q 3 t13) 3 t177) (tb a) w) 0 (a 0) (a 1) ((va_up (va_up q 3 t13) 3 t177) 0) ((va_up (va_up q 3 t13) 3 t177) 1) ((va_up (va_up q 3 t13) 3 t177) 2) ((va_up (va_up q 3 t13) 3 t177) 3) 0 0 1 (mw0x (a := a) (r := r) (f := f) (q := (va_up (va_up q 3 t13) 3 t177)) (T := tb a) (w := w) rfl) x189 t190 hd191) ⟨rfl, yk_X10_isThrown⟩ wm_5_196 wm_5_198 wp_28 wm_1_6 wm_5_199 ⟨Nat.le_of_ble_eq_true rfl, Nat.le_of_ble_eq_true rfl⟩ ⟨Nat.le_of_ble_eq_true rfl, Nat.le_of_ble_eq_true rfl⟩ (mw0x (a := a) (r := r) (f := f) (q := (va_up (va_up q 3 t13) 3 t177)) (T := tb a) (w := w) rfl) rfl rfl rfl hl.1 rfl (Nat.le_of_ble_eq_true rfl) dX10_told__141 (fun o w' H locs hp hB => ?_)
                        obtain ⟨rfl, hf192, hw9⟩ := hp
                        replace hB : Bd κ A s (mw κ a r f (va_up (va_up (va_up q 3 t13) 3 t177) 3 t190) (tb a) w) H locs := by exact Bd_eq (mwQ3x rfl _) (by rw [hw9] at hB; exact hB)
                        obtain rfl : x189 = 1 := hf192.trans (by decide)
                        refine W.eq (g2 := F0 m 144 ls [.int 1]) rfl ?_
                        refine lv_if_eq (tgt := 151) hx hb dX10_told__144 (by decide) (fun c193 => False.elim (by revert c193; decide)) (fun _ => ?_)
                        refine lv_iconst (v := 0) hx hb dX10_told__147 (by decide) ?_
                        refine lv_goto (tgt := 160) hx hb dX10_told__148 (by decide) ?_
                        rw [← hQ]
                        exact end_i hX hB hA3 rfl rfl (by obtain ⟨rfl, rfl⟩ := pr2 hR; exact ⟨rfl, ⟨rfl, rfl, rfl⟩, rfl⟩) (Nat.le_of_ble_eq_true rfl) (Nat.le_of_ble_eq_true rfl) dX10_told__160
                      · replace hB : Bd κ A s (lA κ q187 (R182 * 5) F184 :: gO q186 R182 C183 q187 :: mw κ a r f (va_up (va_up q 3 t13) 3 t177) (tb a) w) H locs := by rw [hw9] at hB; exact hB
                        refine W.eq (g2 := F0 m 126 ls [.ref q186]) rfl ?_
                        replace hR := ifn (by rw [hz0]; decide) hR
                        refine lv_astore (lv' := [(8, .ref q186), (7, .int (nI (r (2 * y.toNatClampNeg)))), (6, .int (nI (r (2 * y.toNatClampNeg)))), (5, .ref (a (2 + 2 * y.toNatClampNeg))), (0, .ref (a 0)), (1, .int y), (2, .int z), (3, .int u), (4, .int v)]) hx hb dX10_told__126 hl (by decide) rfl (fun ls hl => ?_)
                        refine lv_aload_n hx hb dX10_told__128 rfl (lv_at hl 4 rfl) ?_
                        refine lv_iconst (v := 0) hx hb dX10_told__129 (by decide) ?_
                        refine lv_iconst (v := 0) hx hb dX10_told__130 (by decide) ?_
                        refine lv_aload hx hb dX10_told__131 (lv_at hl 0 rfl) ?_
                        refine lv_ifnonnull (tgt := 140) hx hb dX10_told__133 (by decide) ?_
                        refine lv_iconst (v := 0) hx hb dX10_told__140 (by decide) ?_
                        obtain ⟨x194, t195, hd196⟩ := ex2 (D_X10_isThrown ((va_up (va_up q 3 t13) 3 t177) 0) ((va_up (va_up q 3 t13) 3 t177) 1) ((va_up (va_up q 3 t13) 3 t177) 2) ((va_up (va_up q 3 t13) 3 t177) 3) 0 0 0)
                        replace hR := bnd2_use hd196 hR
                        refine call_V (n := 3) (k0 := 2) (As := [.int 0, .int 0, .int 0]) (rest := []) hX hB (k_X10_isThrown κ l (lA κ q187 (R182 * 5) F184 :: gO q186 R182 C183 q187 :: mw κ a r f (va_up (va_up q 3 t13) 3 t177) (tb a) w) 2 (a 0) (a 1) ((va_up (va_up q 3 t13) 3 t177) 0) ((va_up (va_up q 3 t13) 3 t177) 1) ((va_up (va_up q 3 t13) 3 t177) 2) ((va_up (va_up q 3 t13) 3 t177) 3) 0 0 0 (mw0x (a := a) (r := r) (f := f) (q := (va_up (va_up q 3 t13) 3 t177)) (T := tb a) (w := w) rfl) x194 t195 hd196) ⟨rfl, yk_X10_isThrown⟩ wm_5_196 wm_5_198 wp_28 wm_1_6 wm_5_199 ⟨Nat.le_of_ble_eq_true rfl, Nat.le_of_ble_eq_true rfl⟩ ⟨Nat.le_of_ble_eq_true rfl, Nat.le_of_ble_eq_true rfl⟩ (mw0x (a := a) (r := r) (f := f) (q := (va_up (va_up q 3 t13) 3 t177)) (T := tb a) (w := w) rfl) rfl rfl rfl hl.1 rfl (Nat.le_of_ble_eq_true rfl) dX10_told__141 (fun o w' H locs hp hB => ?_)
                        obtain ⟨rfl, hf197, hw9⟩ := hp
                        replace hB : Bd κ A s (lA κ q187 (R182 * 5) F184 :: gO q186 R182 C183 q187 :: mw κ a r f (va_up (va_up (va_up q 3 t13) 3 t177) 3 t195) (tb a) w) H locs := by exact Bd_eq (congrArg (List.cons _) (congrArg (List.cons _) (mwQ3x rfl _))) (by rw [hw9] at hB; exact hB)
                        obtain rfl : x194 = 0 := hf197.trans (by decide)
                        refine W.eq (g2 := F0 m 144 ls [.int 0]) rfl ?_
                        refine lv_if_eq (tgt := 151) hx hb dX10_told__144 (by decide) (fun _ => ?_) (fun c198 => False.elim (by revert c198; decide))
                        have hT1 : R182 = r (2 * y.toNatClampNeg) := by first | exact hd188t.1 (by assumption) | exact hd188t.2.1 (by assumption)
                        have hT2 : C183 = r (2 * y.toNatClampNeg) := by first | exact hd188t.2.2.1 (by assumption) | exact hd188t.2.2.2.1 (by assumption) | exact hd188t.2.2.2.2 (by assumption) (by assumption)
                        refine lv_aload hx hb dX10_told__151 (lv_at hl 0 rfl) ?_
                        refine lv_iload_n hx hb dX10_told__153 rfl (lv_at hl 7 rfl) ?_
                        refine lv_iload hx hb dX10_told__154 (lv_at hl 8 rfl) ?_
                        refine call_V (n := 2) (k0 := 1) (As := [.int u, .int v]) (rest := []) hX hB (k_X7_at κ l (lA κ q187 (R182 * 5) F184 :: gO q186 R182 C183 q187 :: mw κ a r f (va_up (va_up (va_up q 3 t13) 3 t177) 3 t195) (tb a) w) 1 0 q186 q187 R182 C183 F184 u ((u).toNatClampNeg) v ((v).toNatClampNeg) rfl rfl ⟨by omega, by omega, by omega, by omega⟩ (nI_rep (Int32.not_lt.mp (by assumption))) (nI_rep (Int32.not_lt.mp (by assumption))) (by omega)) ⟨rfl, yk_X7_at⟩ wm_5_237 wm_5_238 wm_5_239 wm_1_7 wm_6_0 ⟨Nat.le_of_ble_eq_true rfl, Nat.le_of_ble_eq_true rfl⟩ ⟨Nat.le_of_ble_eq_true rfl, Nat.le_of_ble_eq_true rfl⟩ rfl rfl rfl rfl hl.1 rfl (Nat.le_of_ble_eq_true rfl) dX10_told__156 (fun o w' H locs hp hB => ?_)
                        obtain ⟨rfl, hw9⟩ := hp
                        replace hB : Bd κ A s (lA κ q187 (R182 * 5) F184 :: gO q186 R182 C183 q187 :: mw κ a r f (va_up (va_up (va_up q 3 t13) 3 t177) 3 t195) (tb a) w) H locs := by rw [hw9] at hB; exact hB
                        refine W.eq (g2 := F0 m 159 ls [.long (F184 (((u).toNatClampNeg) * 5 + ((v).toNatClampNeg)))]) rfl ?_
                        refine lv_l2i hx hb dX10_told__159 rfl ?_
                        replace hB : Bd κ A s (lA κ q187 (R182 * 5) F184 :: mw κ a r f (va_up (va_up (va_up q 3 t13) 3 t177) 3 t195) (tb a) w) H locs := Bd_del 1 hB
                        replace hB : Bd κ A s (mw κ a r f (va_up (va_up (va_up q 3 t13) 3 t177) 3 t195) (tb a) w) H locs := Bd_del 0 hB
                        rw [← hQ]
                        exact end_i hX hB hA3 rfl rfl (by obtain ⟨rfl, rfl⟩ := pr2 hR; exact ⟨rfl, ⟨rfl, rfl, rfl⟩, rfl⟩) (Nat.le_of_ble_eq_true rfl) (Nat.le_of_ble_eq_true rfl) dX10_told__160
                    · replace hR := ifn c175 hR
                      refine lv_iconst (v := 1) hx hb dX10_told__107 (by decide) ?_
                      refine lv_goto (tgt := 112) hx hb dX10_told__108 (by decide) ?_
                      obtain ⟨x199, t200, hd201⟩ := ex2 (D_X10_isThrown_ ((va_up q 3 t13) 0) ((va_up q 3 t13) 1) ((va_up q 3 t13) 2) ((va_up q 3 t13) 3) 0 1)
                      replace hR := bnd2_use hd201 hR
                      refine call_V (n := 2) (k0 := 0) (As := [.int 0, .int 1]) (rest := []) hX hB (k_X10_isThrown_ κ l (mw κ a r f (va_up q 3 t13) (tb a) w) 0 (a 0) (a 1) ((va_up q 3 t13) 0) ((va_up q 3 t13) 1) ((va_up q 3 t13) 2) ((va_up q 3 t13) 3) 0 1 (mw0x (a := a) (r := r) (f := f) (q := (va_up q 3 t13)) (T := tb a) (w := w) rfl) x199 t200 hd201) ⟨rfl, yk_X10_isThrown_⟩ wm_5_192 wm_5_194 wp_27 wm_1_6 wm_5_195 ⟨Nat.le_of_ble_eq_true rfl, Nat.le_of_ble_eq_true rfl⟩ ⟨Nat.le_of_ble_eq_true rfl, Nat.le_of_ble_eq_true rfl⟩ (mw0x (a := a) (r := r) (f := f) (q := (va_up q 3 t13)) (T := tb a) (w := w) rfl) rfl rfl rfl hl.1 rfl (Nat.le_of_ble_eq_true rfl) dX10_told__112 (fun o w' H locs hp hB => ?_)
                      obtain ⟨rfl, hf202, hw9⟩ := hp
                      replace hB : Bd κ A s (mw κ a r f (va_up (va_up q 3 t13) 3 t200) (tb a) w) H locs := by exact Bd_eq (mwQ3x rfl _) (by rw [hw9] at hB; exact hB)
                      obtain rfl : x199 = 1 := hf202.trans (by decide)
                      refine W.eq (g2 := F0 m 115 ls [.int 1]) rfl ?_
                      refine lv_if_eq (tgt := 120) hx hb dX10_told__115 (by decide) (fun c203 => False.elim (by revert c203; decide)) (fun _ => ?_)
                      refine lv_iconst (v := 0) hx hb dX10_told__118 (by decide) ?_
                      rw [← hQ]
                      exact end_i hX hB hA3 rfl rfl (by obtain ⟨rfl, rfl⟩ := pr2 hR; exact ⟨rfl, ⟨rfl, rfl, rfl⟩, rfl⟩) (Nat.le_of_ble_eq_true rfl) (Nat.le_of_ble_eq_true rfl) dX10_told__119
    · replace hR := ifp c18 hR
      refine lv_aload hx hb dX10_told__34 (lv_at hl 0 rfl) ?_
      refine gf (k0 := 2 + 2 * y.toNatClampNeg) hX hB (mwG (i := y.toNatClampNeg) (a := a) (r := r) (f := f) (q := (va_up q 3 t13)) (T := tb a) (w := w) (by omega)) rfl in7 1 (by decide) wm_5_152 rfl rfl dX10_told__36 ?_
      refine lv_goto (tgt := 47) hx hb dX10_told__39 (by decide) ?_
      refine lv_istore (lv' := [(6, .int (nI (r (2 * y.toNatClampNeg + 1)))), (5, .ref (a (2 + 2 * y.toNatClampNeg))), (0, .ref (a 0)), (1, .int y), (2, .int z), (3, .int u), (4, .int v)]) hx hb dX10_told__47 hl (by decide) rfl (fun ls hl => ?_)
      refine lv_iload_n hx hb dX10_told__49 rfl (lv_at hl 4 rfl) ?_
      refine lv_iconst (v := 1) hx hb dX10_told__50 (by decide) ?_
      refine lv_icmp_eq (tgt := 59) hx hb dX10_told__51 (by decide) (fun c204 => ?_) (fun c204 => ?_)
      · replace hR := ifp c204 hR
        refine lv_aload hx hb dX10_told__59 (lv_at hl 1 rfl) ?_
        refine gf (k0 := 2 + 2 * y.toNatClampNeg) hX hB (mwG (i := y.toNatClampNeg) (a := a) (r := r) (f := f) (q := (va_up q 3 t13)) (T := tb a) (w := w) (by omega)) rfl in7 0 (by decide) wm_5_148 rfl rfl dX10_told__61 ?_
        refine lv_goto (tgt := 72) hx hb dX10_told__64 (by decide) ?_
        refine lv_istore (lv' := [(7, .int (nI (r (2 * y.toNatClampNeg)))), (6, .int (nI (r (2 * y.toNatClampNeg + 1)))), (5, .ref (a (2 + 2 * y.toNatClampNeg))), (0, .ref (a 0)), (1, .int y), (2, .int z), (3, .int u), (4, .int v)]) hx hb dX10_told__72 hl (by decide) rfl (fun ls hl => ?_)
        refine lv_aload_n hx hb dX10_told__74 rfl (lv_at hl 3 rfl) ?_
        refine lv_iconst (v := 0) hx hb dX10_told__75 (by decide) ?_
        refine lv_iload_n hx hb dX10_told__76 rfl (lv_at hl 5 rfl) ?_
        refine lv_if_lt (tgt := 107) hx hb dX10_told__77 (by decide) (fun c205 => ?_) (fun c205 => ?_)
        · replace hR := ifp c205 hR
          refine lv_iconst (v := 1) hx hb dX10_told__107 (by decide) ?_
          refine lv_goto (tgt := 112) hx hb dX10_told__108 (by decide) ?_
          obtain ⟨x206, t207, hd208⟩ := ex2 (D_X10_isThrown_ ((va_up q 3 t13) 0) ((va_up q 3 t13) 1) ((va_up q 3 t13) 2) ((va_up q 3 t13) 3) 0 1)
          replace hR := bnd2_use hd208 hR
          refine call_V (n := 2) (k0 := 0) (As := [.int 0, .int 1]) (rest := []) hX hB (k_X10_isThrown_ κ l (mw κ a r f (va_up q 3 t13) (tb a) w) 0 (a 0) (a 1) ((va_up q 3 t13) 0) ((va_up q 3 t13) 1) ((va_up q 3 t13) 2) ((va_up q 3 t13) 3) 0 1 (mw0x (a := a) (r := r) (f := f) (q := (va_up q 3 t13)) (T := tb a) (w := w) rfl) x206 t207 hd208) ⟨rfl, yk_X10_isThrown_⟩ wm_5_192 wm_5_194 wp_27 wm_1_6 wm_5_195 ⟨Nat.le_of_ble_eq_true rfl, Nat.le_of_ble_eq_true rfl⟩ ⟨Nat.le_of_ble_eq_true rfl, Nat.le_of_ble_eq_true rfl⟩ (mw0x (a := a) (r := r) (f := f) (q := (va_up q 3 t13)) (T := tb a) (w := w) rfl) rfl rfl rfl hl.1 rfl (Nat.le_of_ble_eq_true rfl) dX10_told__112 (fun o w' H locs hp hB => ?_)
          obtain ⟨rfl, hf209, hw9⟩ := hp
          replace hB : Bd κ A s (mw κ a r f (va_up (va_up q 3 t13) 3 t207) (tb a) w) H locs := by exact Bd_eq (mwQ3x rfl _) (by rw [hw9] at hB; exact hB)
          obtain rfl : x206 = 1 := hf209.trans (by decide)
          refine W.eq (g2 := F0 m 115 ls [.int 1]) rfl ?_
          refine lv_if_eq (tgt := 120) hx hb dX10_told__115 (by decide) (fun c210 => False.elim (by revert c210; decide)) (fun _ => ?_)
          refine lv_iconst (v := 0) hx hb dX10_told__118 (by decide) ?_
          rw [← hQ]
          exact end_i hX hB hA3 rfl rfl (by obtain ⟨rfl, rfl⟩ := pr2 hR; exact ⟨rfl, ⟨rfl, rfl, rfl⟩, rfl⟩) (Nat.le_of_ble_eq_true rfl) (Nat.le_of_ble_eq_true rfl) dX10_told__119
        · replace hR := ifn c205 hR
          refine lv_iload_n hx hb dX10_told__80 rfl (lv_at hl 5 rfl) ?_
          refine lv_iconst (v := 4) hx hb dX10_told__81 (by decide) ?_
          refine lv_icmp_gt (tgt := 107) hx hb dX10_told__82 (by decide) (fun c211 => ?_) (fun c211 => ?_)
          · replace hR := ifp c211 hR
            refine lv_iconst (v := 1) hx hb dX10_told__107 (by decide) ?_
            refine lv_goto (tgt := 112) hx hb dX10_told__108 (by decide) ?_
            obtain ⟨x212, t213, hd214⟩ := ex2 (D_X10_isThrown_ ((va_up q 3 t13) 0) ((va_up q 3 t13) 1) ((va_up q 3 t13) 2) ((va_up q 3 t13) 3) 0 1)
            replace hR := bnd2_use hd214 hR
            refine call_V (n := 2) (k0 := 0) (As := [.int 0, .int 1]) (rest := []) hX hB (k_X10_isThrown_ κ l (mw κ a r f (va_up q 3 t13) (tb a) w) 0 (a 0) (a 1) ((va_up q 3 t13) 0) ((va_up q 3 t13) 1) ((va_up q 3 t13) 2) ((va_up q 3 t13) 3) 0 1 (mw0x (a := a) (r := r) (f := f) (q := (va_up q 3 t13)) (T := tb a) (w := w) rfl) x212 t213 hd214) ⟨rfl, yk_X10_isThrown_⟩ wm_5_192 wm_5_194 wp_27 wm_1_6 wm_5_195 ⟨Nat.le_of_ble_eq_true rfl, Nat.le_of_ble_eq_true rfl⟩ ⟨Nat.le_of_ble_eq_true rfl, Nat.le_of_ble_eq_true rfl⟩ (mw0x (a := a) (r := r) (f := f) (q := (va_up q 3 t13)) (T := tb a) (w := w) rfl) rfl rfl rfl hl.1 rfl (Nat.le_of_ble_eq_true rfl) dX10_told__112 (fun o w' H locs hp hB => ?_)
            obtain ⟨rfl, hf215, hw9⟩ := hp
            replace hB : Bd κ A s (mw κ a r f (va_up (va_up q 3 t13) 3 t213) (tb a) w) H locs := by exact Bd_eq (mwQ3x rfl _) (by rw [hw9] at hB; exact hB)
            obtain rfl : x212 = 1 := hf215.trans (by decide)
            refine W.eq (g2 := F0 m 115 ls [.int 1]) rfl ?_
            refine lv_if_eq (tgt := 120) hx hb dX10_told__115 (by decide) (fun c216 => False.elim (by revert c216; decide)) (fun _ => ?_)
            refine lv_iconst (v := 0) hx hb dX10_told__118 (by decide) ?_
            rw [← hQ]
            exact end_i hX hB hA3 rfl rfl (by obtain ⟨rfl, rfl⟩ := pr2 hR; exact ⟨rfl, ⟨rfl, rfl, rfl⟩, rfl⟩) (Nat.le_of_ble_eq_true rfl) (Nat.le_of_ble_eq_true rfl) dX10_told__119
          · replace hR := ifn c211 hR
            refine lv_iload_n hx hb dX10_told__85 rfl (lv_at hl 6 rfl) ?_
            refine lv_if_lt (tgt := 107) hx hb dX10_told__86 (by decide) (fun c217 => ?_) (fun c217 => ?_)
            · replace hR := ifp c217 hR
              refine lv_iconst (v := 1) hx hb dX10_told__107 (by decide) ?_
              refine lv_goto (tgt := 112) hx hb dX10_told__108 (by decide) ?_
              obtain ⟨x218, t219, hd220⟩ := ex2 (D_X10_isThrown_ ((va_up q 3 t13) 0) ((va_up q 3 t13) 1) ((va_up q 3 t13) 2) ((va_up q 3 t13) 3) 0 1)
              replace hR := bnd2_use hd220 hR
              refine call_V (n := 2) (k0 := 0) (As := [.int 0, .int 1]) (rest := []) hX hB (k_X10_isThrown_ κ l (mw κ a r f (va_up q 3 t13) (tb a) w) 0 (a 0) (a 1) ((va_up q 3 t13) 0) ((va_up q 3 t13) 1) ((va_up q 3 t13) 2) ((va_up q 3 t13) 3) 0 1 (mw0x (a := a) (r := r) (f := f) (q := (va_up q 3 t13)) (T := tb a) (w := w) rfl) x218 t219 hd220) ⟨rfl, yk_X10_isThrown_⟩ wm_5_192 wm_5_194 wp_27 wm_1_6 wm_5_195 ⟨Nat.le_of_ble_eq_true rfl, Nat.le_of_ble_eq_true rfl⟩ ⟨Nat.le_of_ble_eq_true rfl, Nat.le_of_ble_eq_true rfl⟩ (mw0x (a := a) (r := r) (f := f) (q := (va_up q 3 t13)) (T := tb a) (w := w) rfl) rfl rfl rfl hl.1 rfl (Nat.le_of_ble_eq_true rfl) dX10_told__112 (fun o w' H locs hp hB => ?_)
              obtain ⟨rfl, hf221, hw9⟩ := hp
              replace hB : Bd κ A s (mw κ a r f (va_up (va_up q 3 t13) 3 t219) (tb a) w) H locs := by exact Bd_eq (mwQ3x rfl _) (by rw [hw9] at hB; exact hB)
              obtain rfl : x218 = 1 := hf221.trans (by decide)
              refine W.eq (g2 := F0 m 115 ls [.int 1]) rfl ?_
              refine lv_if_eq (tgt := 120) hx hb dX10_told__115 (by decide) (fun c222 => False.elim (by revert c222; decide)) (fun _ => ?_)
              refine lv_iconst (v := 0) hx hb dX10_told__118 (by decide) ?_
              rw [← hQ]
              exact end_i hX hB hA3 rfl rfl (by obtain ⟨rfl, rfl⟩ := pr2 hR; exact ⟨rfl, ⟨rfl, rfl, rfl⟩, rfl⟩) (Nat.le_of_ble_eq_true rfl) (Nat.le_of_ble_eq_true rfl) dX10_told__119
            · replace hR := ifn c217 hR
              refine lv_iload_n hx hb dX10_told__89 rfl (lv_at hl 6 rfl) ?_
              refine lv_iload hx hb dX10_told__90 (lv_at hl 1 rfl) ?_
              refine lv_icmp_ge (tgt := 107) hx hb dX10_told__92 (by decide) (fun c224 => ?_) (fun c224 => ?_)
              · replace hR := ifp c224 hR
                refine lv_iconst (v := 1) hx hb dX10_told__107 (by decide) ?_
                refine lv_goto (tgt := 112) hx hb dX10_told__108 (by decide) ?_
                obtain ⟨x225, t226, hd227⟩ := ex2 (D_X10_isThrown_ ((va_up q 3 t13) 0) ((va_up q 3 t13) 1) ((va_up q 3 t13) 2) ((va_up q 3 t13) 3) 0 1)
                replace hR := bnd2_use hd227 hR
                refine call_V (n := 2) (k0 := 0) (As := [.int 0, .int 1]) (rest := []) hX hB (k_X10_isThrown_ κ l (mw κ a r f (va_up q 3 t13) (tb a) w) 0 (a 0) (a 1) ((va_up q 3 t13) 0) ((va_up q 3 t13) 1) ((va_up q 3 t13) 2) ((va_up q 3 t13) 3) 0 1 (mw0x (a := a) (r := r) (f := f) (q := (va_up q 3 t13)) (T := tb a) (w := w) rfl) x225 t226 hd227) ⟨rfl, yk_X10_isThrown_⟩ wm_5_192 wm_5_194 wp_27 wm_1_6 wm_5_195 ⟨Nat.le_of_ble_eq_true rfl, Nat.le_of_ble_eq_true rfl⟩ ⟨Nat.le_of_ble_eq_true rfl, Nat.le_of_ble_eq_true rfl⟩ (mw0x (a := a) (r := r) (f := f) (q := (va_up q 3 t13)) (T := tb a) (w := w) rfl) rfl rfl rfl hl.1 rfl (Nat.le_of_ble_eq_true rfl) dX10_told__112 (fun o w' H locs hp hB => ?_)
                obtain ⟨rfl, hf228, hw9⟩ := hp
                replace hB : Bd κ A s (mw κ a r f (va_up (va_up q 3 t13) 3 t226) (tb a) w) H locs := by exact Bd_eq (mwQ3x rfl _) (by rw [hw9] at hB; exact hB)
                obtain rfl : x225 = 1 := hf228.trans (by decide)
                refine W.eq (g2 := F0 m 115 ls [.int 1]) rfl ?_
                refine lv_if_eq (tgt := 120) hx hb dX10_told__115 (by decide) (fun c229 => False.elim (by revert c229; decide)) (fun _ => ?_)
                refine lv_iconst (v := 0) hx hb dX10_told__118 (by decide) ?_
                rw [← hQ]
                exact end_i hX hB hA3 rfl rfl (by obtain ⟨rfl, rfl⟩ := pr2 hR; exact ⟨rfl, ⟨rfl, rfl, rfl⟩, rfl⟩) (Nat.le_of_ble_eq_true rfl) (Nat.le_of_ble_eq_true rfl) dX10_told__119
              · replace hR := ifn c224 hR
                have hq223 := nlt_of (x := u) (n := r (2 * y.toNatClampNeg + 1)) c217 (by omega) c224
                refine lv_iload hx hb dX10_told__95 (lv_at hl 7 rfl) ?_
                refine lv_if_lt (tgt := 107) hx hb dX10_told__97 (by decide) (fun c230 => ?_) (fun c230 => ?_)
                · replace hR := ifp c230 hR
                  refine lv_iconst (v := 1) hx hb dX10_told__107 (by decide) ?_
                  refine lv_goto (tgt := 112) hx hb dX10_told__108 (by decide) ?_
                  obtain ⟨x231, t232, hd233⟩ := ex2 (D_X10_isThrown_ ((va_up q 3 t13) 0) ((va_up q 3 t13) 1) ((va_up q 3 t13) 2) ((va_up q 3 t13) 3) 0 1)
                  replace hR := bnd2_use hd233 hR
                  refine call_V (n := 2) (k0 := 0) (As := [.int 0, .int 1]) (rest := []) hX hB (k_X10_isThrown_ κ l (mw κ a r f (va_up q 3 t13) (tb a) w) 0 (a 0) (a 1) ((va_up q 3 t13) 0) ((va_up q 3 t13) 1) ((va_up q 3 t13) 2) ((va_up q 3 t13) 3) 0 1 (mw0x (a := a) (r := r) (f := f) (q := (va_up q 3 t13)) (T := tb a) (w := w) rfl) x231 t232 hd233) ⟨rfl, yk_X10_isThrown_⟩ wm_5_192 wm_5_194 wp_27 wm_1_6 wm_5_195 ⟨Nat.le_of_ble_eq_true rfl, Nat.le_of_ble_eq_true rfl⟩ ⟨Nat.le_of_ble_eq_true rfl, Nat.le_of_ble_eq_true rfl⟩ (mw0x (a := a) (r := r) (f := f) (q := (va_up q 3 t13)) (T := tb a) (w := w) rfl) rfl rfl rfl hl.1 rfl (Nat.le_of_ble_eq_true rfl) dX10_told__112 (fun o w' H locs hp hB => ?_)
                  obtain ⟨rfl, hf234, hw9⟩ := hp
                  replace hB : Bd κ A s (mw κ a r f (va_up (va_up q 3 t13) 3 t232) (tb a) w) H locs := by exact Bd_eq (mwQ3x rfl _) (by rw [hw9] at hB; exact hB)
                  obtain rfl : x231 = 1 := hf234.trans (by decide)
                  refine W.eq (g2 := F0 m 115 ls [.int 1]) rfl ?_
                  refine lv_if_eq (tgt := 120) hx hb dX10_told__115 (by decide) (fun c235 => False.elim (by revert c235; decide)) (fun _ => ?_)
                  refine lv_iconst (v := 0) hx hb dX10_told__118 (by decide) ?_
                  rw [← hQ]
                  exact end_i hX hB hA3 rfl rfl (by obtain ⟨rfl, rfl⟩ := pr2 hR; exact ⟨rfl, ⟨rfl, rfl, rfl⟩, rfl⟩) (Nat.le_of_ble_eq_true rfl) (Nat.le_of_ble_eq_true rfl) dX10_told__119
                · replace hR := ifn c230 hR
                  refine lv_iload hx hb dX10_told__100 (lv_at hl 7 rfl) ?_
                  refine lv_iload hx hb dX10_told__102 (lv_at hl 0 rfl) ?_
                  refine lv_icmp_lt (tgt := 111) hx hb dX10_told__104 (by decide) (fun c237 => ?_) (fun c237 => ?_)
                  · replace hR := ifp c237 hR
                    have hq236 := nlt_of (x := v) (n := r (2 * y.toNatClampNeg)) c230 (by omega) (Int32.not_le.mpr c237)
                    refine lv_iconst (v := 0) hx hb dX10_told__111 (by decide) ?_
                    obtain ⟨x238, t239, hd240⟩ := ex2 (D_X10_isThrown_ ((va_up q 3 t13) 0) ((va_up q 3 t13) 1) ((va_up q 3 t13) 2) ((va_up q 3 t13) 3) 0 0)
                    replace hR := bnd2_use hd240 hR
                    refine call_V (n := 2) (k0 := 0) (As := [.int 0, .int 0]) (rest := []) hX hB (k_X10_isThrown_ κ l (mw κ a r f (va_up q 3 t13) (tb a) w) 0 (a 0) (a 1) ((va_up q 3 t13) 0) ((va_up q 3 t13) 1) ((va_up q 3 t13) 2) ((va_up q 3 t13) 3) 0 0 (mw0x (a := a) (r := r) (f := f) (q := (va_up q 3 t13)) (T := tb a) (w := w) rfl) x238 t239 hd240) ⟨rfl, yk_X10_isThrown_⟩ wm_5_192 wm_5_194 wp_27 wm_1_6 wm_5_195 ⟨Nat.le_of_ble_eq_true rfl, Nat.le_of_ble_eq_true rfl⟩ ⟨Nat.le_of_ble_eq_true rfl, Nat.le_of_ble_eq_true rfl⟩ (mw0x (a := a) (r := r) (f := f) (q := (va_up q 3 t13)) (T := tb a) (w := w) rfl) rfl rfl rfl hl.1 rfl (Nat.le_of_ble_eq_true rfl) dX10_told__112 (fun o w' H locs hp hB => ?_)
                    obtain ⟨rfl, hf241, hw9⟩ := hp
                    replace hB : Bd κ A s (mw κ a r f (va_up (va_up q 3 t13) 3 t239) (tb a) w) H locs := by exact Bd_eq (mwQ3x rfl _) (by rw [hw9] at hB; exact hB)
                    obtain rfl : x238 = 0 := hf241.trans (by decide)
                    refine W.eq (g2 := F0 m 115 ls [.int 0]) rfl ?_
                    refine lv_if_eq (tgt := 120) hx hb dX10_told__115 (by decide) (fun _ => ?_) (fun c242 => False.elim (by revert c242; decide))
                    refine lv_aload hx hb dX10_told__120 (lv_at hl 2 rfl) ?_
                    refine lv_iload_n hx hb dX10_told__122 rfl (lv_at hl 5 rfl) ?_
                    obtain ⟨z243, R244, C245, F246, hd247⟩ := ex4 (D_X10_toldOf (r (2 * y.toNatClampNeg)) (r (2 * y.toNatClampNeg + 1)) (f y.toNatClampNeg) z)
                    replace hR := bnd4_use hd247 hR
                    refine call_S (n := 2) (As := [.ref (a (2 + 2 * y.toNatClampNeg)), .int z]) (rest := []) hX hB (k_X10_toldOf κ l (mw κ a r f (va_up (va_up q 3 t13) 3 t239) (tb a) w) (2 + 2 * y.toNatClampNeg) (3 + 2 * y.toNatClampNeg) (a (2 + 2 * y.toNatClampNeg)) (a (3 + 2 * y.toNatClampNeg)) (r (2 * y.toNatClampNeg)) (r (2 * y.toNatClampNeg + 1)) (f y.toNatClampNeg) z (mwG (i := y.toNatClampNeg) (a := a) (r := r) (f := f) (q := (va_up (va_up q 3 t13) 3 t239)) (T := tb a) (w := w) (by omega)) (mwA (i := y.toNatClampNeg) (a := a) (r := r) (f := f) (q := (va_up (va_up q 3 t13) 3 t239)) (T := tb a) (w := w) (by omega)) (mok_shp (i := y.toNatClampNeg) hm (by omega)) (by omega) (fun k hk => sm_ng ((hm _ (by omega)).2 k hk)) ⟨by assumption, by first | assumption | exact Int32.not_lt.mp (by assumption)⟩ z243 R244 C245 F246 hd247) yk_X10_toldOf wm_6_124 wm_6_125 wm_1_6 wm_6_126 ⟨Nat.le_of_ble_eq_true rfl, Nat.le_of_ble_eq_true rfl⟩ ⟨Nat.le_of_ble_eq_true rfl, Nat.le_of_ble_eq_true rfl⟩ rfl hl.1 rfl (Nat.le_of_ble_eq_true rfl) dX10_told__123 (fun o w' H locs hp hB => ?_)
                    rcases hp with ⟨hz0, rfl, hw9⟩ | ⟨hz0, q248, q249, rfl, ⟨⟨hd250a, hd250b, hd250c, hd250d⟩, hd250t⟩, hw9⟩
                    · replace hB : Bd κ A s (mw κ a r f (va_up (va_up q 3 t13) 3 t239) (tb a) w) H locs := by rw [hw9] at hB; exact hB
                      refine W.eq (g2 := F0 m 126 ls [.null]) rfl ?_
                      replace hR := ifp hz0 hR
                      refine lv_astoreN (lv' := [(8, .null), (7, .int (nI (r (2 * y.toNatClampNeg)))), (6, .int (nI (r (2 * y.toNatClampNeg + 1)))), (5, .ref (a (2 + 2 * y.toNatClampNeg))), (0, .ref (a 0)), (1, .int y), (2, .int z), (3, .int u), (4, .int v)]) hx hb dX10_told__126 hl (by decide) rfl (fun ls hl => ?_)
                      refine lv_aload_n hx hb dX10_told__128 rfl (lv_at hl 4 rfl) ?_
                      refine lv_iconst (v := 0) hx hb dX10_told__129 (by decide) ?_
                      refine lv_iconst (v := 0) hx hb dX10_told__130 (by decide) ?_
                      refine lv_aloadN hx hb dX10_told__131 (lv_at hl 0 rfl) ?_
                      refine lv_ifnonnullN hx hb dX10_told__133 ?_
                      refine lv_iconst (v := 1) hx hb dX10_told__136 (by decide) ?_
                      refine lv_goto (tgt := 141) hx hb dX10_told__137 (by decide) ?_
                      obtain ⟨x251, t252, hd253⟩ := ex2 (D_X10_isThrown ((va_up (va_up q 3 t13) 3 t239) 0) ((va_up (va_up q 3 t13) 3 t239) 1) ((va_up (va_up q 3 t13) 3 t239) 2) ((va_up (va_up q 3 t13) 3 t239) 3) 0 0 1)
                      replace hR := bnd2_use hd253 hR
                      refine call_V (n := 3) (k0 := 0) (As := [.int 0, .int 0, .int 1]) (rest := []) hX hB (k_X10_isThrown κ l (mw κ a r f (va_up (va_up q 3 t13) 3 t239) (tb a) w) 0 (a 0) (a 1) ((va_up (va_up q 3 t13) 3 t239) 0) ((va_up (va_up q 3 t13) 3 t239) 1) ((va_up (va_up q 3 t13) 3 t239) 2) ((va_up (va_up q 3 t13) 3 t239) 3) 0 0 1 (mw0x (a := a) (r := r) (f := f) (q := (va_up (va_up q 3 t13) 3 t239)) (T := tb a) (w := w) rfl) x251 t252 hd253) ⟨rfl, yk_X10_isThrown⟩ wm_5_196 wm_5_198 wp_28 wm_1_6 wm_5_199 ⟨Nat.le_of_ble_eq_true rfl, Nat.le_of_ble_eq_true rfl⟩ ⟨Nat.le_of_ble_eq_true rfl, Nat.le_of_ble_eq_true rfl⟩ (mw0x (a := a) (r := r) (f := f) (q := (va_up (va_up q 3 t13) 3 t239)) (T := tb a) (w := w) rfl) rfl rfl rfl hl.1 rfl (Nat.le_of_ble_eq_true rfl) dX10_told__141 (fun o w' H locs hp hB => ?_)
                      obtain ⟨rfl, hf254, hw9⟩ := hp
                      replace hB : Bd κ A s (mw κ a r f (va_up (va_up (va_up q 3 t13) 3 t239) 3 t252) (tb a) w) H locs := by exact Bd_eq (mwQ3x rfl _) (by rw [hw9] at hB; exact hB)
                      obtain rfl : x251 = 1 := hf254.trans (by decide)
                      refine W.eq (g2 := F0 m 144 ls [.int 1]) rfl ?_
                      refine lv_if_eq (tgt := 151) hx hb dX10_told__144 (by decide) (fun c255 => False.elim (by revert c255; decide)) (fun _ => ?_)
                      refine lv_iconst (v := 0) hx hb dX10_told__147 (by decide) ?_
                      refine lv_goto (tgt := 160) hx hb dX10_told__148 (by decide) ?_
                      rw [← hQ]
                      exact end_i hX hB hA3 rfl rfl (by obtain ⟨rfl, rfl⟩ := pr2 hR; exact ⟨rfl, ⟨rfl, rfl, rfl⟩, rfl⟩) (Nat.le_of_ble_eq_true rfl) (Nat.le_of_ble_eq_true rfl) dX10_told__160
                    · replace hB : Bd κ A s (lA κ q249 (R244 * 5) F246 :: gO q248 R244 C245 q249 :: mw κ a r f (va_up (va_up q 3 t13) 3 t239) (tb a) w) H locs := by rw [hw9] at hB; exact hB
                      refine W.eq (g2 := F0 m 126 ls [.ref q248]) rfl ?_
                      replace hR := ifn (by rw [hz0]; decide) hR
                      refine lv_astore (lv' := [(8, .ref q248), (7, .int (nI (r (2 * y.toNatClampNeg)))), (6, .int (nI (r (2 * y.toNatClampNeg + 1)))), (5, .ref (a (2 + 2 * y.toNatClampNeg))), (0, .ref (a 0)), (1, .int y), (2, .int z), (3, .int u), (4, .int v)]) hx hb dX10_told__126 hl (by decide) rfl (fun ls hl => ?_)
                      refine lv_aload_n hx hb dX10_told__128 rfl (lv_at hl 4 rfl) ?_
                      refine lv_iconst (v := 0) hx hb dX10_told__129 (by decide) ?_
                      refine lv_iconst (v := 0) hx hb dX10_told__130 (by decide) ?_
                      refine lv_aload hx hb dX10_told__131 (lv_at hl 0 rfl) ?_
                      refine lv_ifnonnull (tgt := 140) hx hb dX10_told__133 (by decide) ?_
                      refine lv_iconst (v := 0) hx hb dX10_told__140 (by decide) ?_
                      obtain ⟨x256, t257, hd258⟩ := ex2 (D_X10_isThrown ((va_up (va_up q 3 t13) 3 t239) 0) ((va_up (va_up q 3 t13) 3 t239) 1) ((va_up (va_up q 3 t13) 3 t239) 2) ((va_up (va_up q 3 t13) 3 t239) 3) 0 0 0)
                      replace hR := bnd2_use hd258 hR
                      refine call_V (n := 3) (k0 := 2) (As := [.int 0, .int 0, .int 0]) (rest := []) hX hB (k_X10_isThrown κ l (lA κ q249 (R244 * 5) F246 :: gO q248 R244 C245 q249 :: mw κ a r f (va_up (va_up q 3 t13) 3 t239) (tb a) w) 2 (a 0) (a 1) ((va_up (va_up q 3 t13) 3 t239) 0) ((va_up (va_up q 3 t13) 3 t239) 1) ((va_up (va_up q 3 t13) 3 t239) 2) ((va_up (va_up q 3 t13) 3 t239) 3) 0 0 0 (mw0x (a := a) (r := r) (f := f) (q := (va_up (va_up q 3 t13) 3 t239)) (T := tb a) (w := w) rfl) x256 t257 hd258) ⟨rfl, yk_X10_isThrown⟩ wm_5_196 wm_5_198 wp_28 wm_1_6 wm_5_199 ⟨Nat.le_of_ble_eq_true rfl, Nat.le_of_ble_eq_true rfl⟩ ⟨Nat.le_of_ble_eq_true rfl, Nat.le_of_ble_eq_true rfl⟩ (mw0x (a := a) (r := r) (f := f) (q := (va_up (va_up q 3 t13) 3 t239)) (T := tb a) (w := w) rfl) rfl rfl rfl hl.1 rfl (Nat.le_of_ble_eq_true rfl) dX10_told__141 (fun o w' H locs hp hB => ?_)
                      obtain ⟨rfl, hf259, hw9⟩ := hp
                      replace hB : Bd κ A s (lA κ q249 (R244 * 5) F246 :: gO q248 R244 C245 q249 :: mw κ a r f (va_up (va_up (va_up q 3 t13) 3 t239) 3 t257) (tb a) w) H locs := by exact Bd_eq (congrArg (List.cons _) (congrArg (List.cons _) (mwQ3x rfl _))) (by rw [hw9] at hB; exact hB)
                      obtain rfl : x256 = 0 := hf259.trans (by decide)
                      refine W.eq (g2 := F0 m 144 ls [.int 0]) rfl ?_
                      refine lv_if_eq (tgt := 151) hx hb dX10_told__144 (by decide) (fun _ => ?_) (fun c260 => False.elim (by revert c260; decide))
                      have hT1 : R244 = r (2 * y.toNatClampNeg + 1) := by first | exact hd250t.1 (by assumption) | exact hd250t.2.1 (by assumption)
                      have hT2 : C245 = r (2 * y.toNatClampNeg) := by first | exact hd250t.2.2.1 (by assumption) | exact hd250t.2.2.2.1 (by assumption) | exact hd250t.2.2.2.2 (by assumption) (by assumption)
                      refine lv_aload hx hb dX10_told__151 (lv_at hl 0 rfl) ?_
                      refine lv_iload_n hx hb dX10_told__153 rfl (lv_at hl 7 rfl) ?_
                      refine lv_iload hx hb dX10_told__154 (lv_at hl 8 rfl) ?_
                      refine call_V (n := 2) (k0 := 1) (As := [.int u, .int v]) (rest := []) hX hB (k_X7_at κ l (lA κ q249 (R244 * 5) F246 :: gO q248 R244 C245 q249 :: mw κ a r f (va_up (va_up (va_up q 3 t13) 3 t239) 3 t257) (tb a) w) 1 0 q248 q249 R244 C245 F246 u ((u).toNatClampNeg) v ((v).toNatClampNeg) rfl rfl ⟨by omega, by omega, by omega, by omega⟩ (nI_rep (Int32.not_lt.mp (by assumption))) (nI_rep (Int32.not_lt.mp (by assumption))) (by omega)) ⟨rfl, yk_X7_at⟩ wm_5_237 wm_5_238 wm_5_239 wm_1_7 wm_6_0 ⟨Nat.le_of_ble_eq_true rfl, Nat.le_of_ble_eq_true rfl⟩ ⟨Nat.le_of_ble_eq_true rfl, Nat.le_of_ble_eq_true rfl⟩ rfl rfl rfl rfl hl.1 rfl (Nat.le_of_ble_eq_true rfl) dX10_told__156 (fun o w' H locs hp hB => ?_)
                      obtain ⟨rfl, hw9⟩ := hp
                      replace hB : Bd κ A s (lA κ q249 (R244 * 5) F246 :: gO q248 R244 C245 q249 :: mw κ a r f (va_up (va_up (va_up q 3 t13) 3 t239) 3 t257) (tb a) w) H locs := by rw [hw9] at hB; exact hB
                      refine W.eq (g2 := F0 m 159 ls [.long (F246 (((u).toNatClampNeg) * 5 + ((v).toNatClampNeg)))]) rfl ?_
                      refine lv_l2i hx hb dX10_told__159 rfl ?_
                      replace hB : Bd κ A s (lA κ q249 (R244 * 5) F246 :: mw κ a r f (va_up (va_up (va_up q 3 t13) 3 t239) 3 t257) (tb a) w) H locs := Bd_del 1 hB
                      replace hB : Bd κ A s (mw κ a r f (va_up (va_up (va_up q 3 t13) 3 t239) 3 t257) (tb a) w) H locs := Bd_del 0 hB
                      rw [← hQ]
                      exact end_i hX hB hA3 rfl rfl (by obtain ⟨rfl, rfl⟩ := pr2 hR; exact ⟨rfl, ⟨rfl, rfl, rfl⟩, rfl⟩) (Nat.le_of_ble_eq_true rfl) (Nat.le_of_ble_eq_true rfl) dX10_told__160
                  · replace hR := ifn c237 hR
                    refine lv_iconst (v := 1) hx hb dX10_told__107 (by decide) ?_
                    refine lv_goto (tgt := 112) hx hb dX10_told__108 (by decide) ?_
                    obtain ⟨x261, t262, hd263⟩ := ex2 (D_X10_isThrown_ ((va_up q 3 t13) 0) ((va_up q 3 t13) 1) ((va_up q 3 t13) 2) ((va_up q 3 t13) 3) 0 1)
                    replace hR := bnd2_use hd263 hR
                    refine call_V (n := 2) (k0 := 0) (As := [.int 0, .int 1]) (rest := []) hX hB (k_X10_isThrown_ κ l (mw κ a r f (va_up q 3 t13) (tb a) w) 0 (a 0) (a 1) ((va_up q 3 t13) 0) ((va_up q 3 t13) 1) ((va_up q 3 t13) 2) ((va_up q 3 t13) 3) 0 1 (mw0x (a := a) (r := r) (f := f) (q := (va_up q 3 t13)) (T := tb a) (w := w) rfl) x261 t262 hd263) ⟨rfl, yk_X10_isThrown_⟩ wm_5_192 wm_5_194 wp_27 wm_1_6 wm_5_195 ⟨Nat.le_of_ble_eq_true rfl, Nat.le_of_ble_eq_true rfl⟩ ⟨Nat.le_of_ble_eq_true rfl, Nat.le_of_ble_eq_true rfl⟩ (mw0x (a := a) (r := r) (f := f) (q := (va_up q 3 t13)) (T := tb a) (w := w) rfl) rfl rfl rfl hl.1 rfl (Nat.le_of_ble_eq_true rfl) dX10_told__112 (fun o w' H locs hp hB => ?_)
                    obtain ⟨rfl, hf264, hw9⟩ := hp
                    replace hB : Bd κ A s (mw κ a r f (va_up (va_up q 3 t13) 3 t262) (tb a) w) H locs := by exact Bd_eq (mwQ3x rfl _) (by rw [hw9] at hB; exact hB)
                    obtain rfl : x261 = 1 := hf264.trans (by decide)
                    refine W.eq (g2 := F0 m 115 ls [.int 1]) rfl ?_
                    refine lv_if_eq (tgt := 120) hx hb dX10_told__115 (by decide) (fun c265 => False.elim (by revert c265; decide)) (fun _ => ?_)
                    refine lv_iconst (v := 0) hx hb dX10_told__118 (by decide) ?_
                    rw [← hQ]
                    exact end_i hX hB hA3 rfl rfl (by obtain ⟨rfl, rfl⟩ := pr2 hR; exact ⟨rfl, ⟨rfl, rfl, rfl⟩, rfl⟩) (Nat.le_of_ble_eq_true rfl) (Nat.le_of_ble_eq_true rfl) dX10_told__119
      · replace hR := ifn c204 hR
        refine lv_iload_n hx hb dX10_told__54 rfl (lv_at hl 4 rfl) ?_
        refine lv_iconst (v := 3) hx hb dX10_told__55 (by decide) ?_
        refine lv_icmp_ne (tgt := 67) hx hb dX10_told__56 (by decide) (fun c266 => ?_) (fun c266 => ?_)
        · replace hR := ifn c266 hR
          refine lv_aload hx hb dX10_told__67 (lv_at hl 1 rfl) ?_
          refine gf (k0 := 2 + 2 * y.toNatClampNeg) hX hB (mwG (i := y.toNatClampNeg) (a := a) (r := r) (f := f) (q := (va_up q 3 t13)) (T := tb a) (w := w) (by omega)) rfl in7 1 (by decide) wm_5_152 rfl rfl dX10_told__69 ?_
          refine lv_istore (lv' := [(7, .int (nI (r (2 * y.toNatClampNeg + 1)))), (6, .int (nI (r (2 * y.toNatClampNeg + 1)))), (5, .ref (a (2 + 2 * y.toNatClampNeg))), (0, .ref (a 0)), (1, .int y), (2, .int z), (3, .int u), (4, .int v)]) hx hb dX10_told__72 hl (by decide) rfl (fun ls hl => ?_)
          refine lv_aload_n hx hb dX10_told__74 rfl (lv_at hl 3 rfl) ?_
          refine lv_iconst (v := 0) hx hb dX10_told__75 (by decide) ?_
          refine lv_iload_n hx hb dX10_told__76 rfl (lv_at hl 5 rfl) ?_
          refine lv_if_lt (tgt := 107) hx hb dX10_told__77 (by decide) (fun c267 => ?_) (fun c267 => ?_)
          · replace hR := ifp c267 hR
            refine lv_iconst (v := 1) hx hb dX10_told__107 (by decide) ?_
            refine lv_goto (tgt := 112) hx hb dX10_told__108 (by decide) ?_
            obtain ⟨x268, t269, hd270⟩ := ex2 (D_X10_isThrown_ ((va_up q 3 t13) 0) ((va_up q 3 t13) 1) ((va_up q 3 t13) 2) ((va_up q 3 t13) 3) 0 1)
            replace hR := bnd2_use hd270 hR
            refine call_V (n := 2) (k0 := 0) (As := [.int 0, .int 1]) (rest := []) hX hB (k_X10_isThrown_ κ l (mw κ a r f (va_up q 3 t13) (tb a) w) 0 (a 0) (a 1) ((va_up q 3 t13) 0) ((va_up q 3 t13) 1) ((va_up q 3 t13) 2) ((va_up q 3 t13) 3) 0 1 (mw0x (a := a) (r := r) (f := f) (q := (va_up q 3 t13)) (T := tb a) (w := w) rfl) x268 t269 hd270) ⟨rfl, yk_X10_isThrown_⟩ wm_5_192 wm_5_194 wp_27 wm_1_6 wm_5_195 ⟨Nat.le_of_ble_eq_true rfl, Nat.le_of_ble_eq_true rfl⟩ ⟨Nat.le_of_ble_eq_true rfl, Nat.le_of_ble_eq_true rfl⟩ (mw0x (a := a) (r := r) (f := f) (q := (va_up q 3 t13)) (T := tb a) (w := w) rfl) rfl rfl rfl hl.1 rfl (Nat.le_of_ble_eq_true rfl) dX10_told__112 (fun o w' H locs hp hB => ?_)
            obtain ⟨rfl, hf271, hw9⟩ := hp
            replace hB : Bd κ A s (mw κ a r f (va_up (va_up q 3 t13) 3 t269) (tb a) w) H locs := by exact Bd_eq (mwQ3x rfl _) (by rw [hw9] at hB; exact hB)
            obtain rfl : x268 = 1 := hf271.trans (by decide)
            refine W.eq (g2 := F0 m 115 ls [.int 1]) rfl ?_
            refine lv_if_eq (tgt := 120) hx hb dX10_told__115 (by decide) (fun c272 => False.elim (by revert c272; decide)) (fun _ => ?_)
            refine lv_iconst (v := 0) hx hb dX10_told__118 (by decide) ?_
            rw [← hQ]
            exact end_i hX hB hA3 rfl rfl (by obtain ⟨rfl, rfl⟩ := pr2 hR; exact ⟨rfl, ⟨rfl, rfl, rfl⟩, rfl⟩) (Nat.le_of_ble_eq_true rfl) (Nat.le_of_ble_eq_true rfl) dX10_told__119
          · replace hR := ifn c267 hR
            refine lv_iload_n hx hb dX10_told__80 rfl (lv_at hl 5 rfl) ?_
            refine lv_iconst (v := 4) hx hb dX10_told__81 (by decide) ?_
            refine lv_icmp_gt (tgt := 107) hx hb dX10_told__82 (by decide) (fun c273 => ?_) (fun c273 => ?_)
            · replace hR := ifp c273 hR
              refine lv_iconst (v := 1) hx hb dX10_told__107 (by decide) ?_
              refine lv_goto (tgt := 112) hx hb dX10_told__108 (by decide) ?_
              obtain ⟨x274, t275, hd276⟩ := ex2 (D_X10_isThrown_ ((va_up q 3 t13) 0) ((va_up q 3 t13) 1) ((va_up q 3 t13) 2) ((va_up q 3 t13) 3) 0 1)
              replace hR := bnd2_use hd276 hR
              refine call_V (n := 2) (k0 := 0) (As := [.int 0, .int 1]) (rest := []) hX hB (k_X10_isThrown_ κ l (mw κ a r f (va_up q 3 t13) (tb a) w) 0 (a 0) (a 1) ((va_up q 3 t13) 0) ((va_up q 3 t13) 1) ((va_up q 3 t13) 2) ((va_up q 3 t13) 3) 0 1 (mw0x (a := a) (r := r) (f := f) (q := (va_up q 3 t13)) (T := tb a) (w := w) rfl) x274 t275 hd276) ⟨rfl, yk_X10_isThrown_⟩ wm_5_192 wm_5_194 wp_27 wm_1_6 wm_5_195 ⟨Nat.le_of_ble_eq_true rfl, Nat.le_of_ble_eq_true rfl⟩ ⟨Nat.le_of_ble_eq_true rfl, Nat.le_of_ble_eq_true rfl⟩ (mw0x (a := a) (r := r) (f := f) (q := (va_up q 3 t13)) (T := tb a) (w := w) rfl) rfl rfl rfl hl.1 rfl (Nat.le_of_ble_eq_true rfl) dX10_told__112 (fun o w' H locs hp hB => ?_)
              obtain ⟨rfl, hf277, hw9⟩ := hp
              replace hB : Bd κ A s (mw κ a r f (va_up (va_up q 3 t13) 3 t275) (tb a) w) H locs := by exact Bd_eq (mwQ3x rfl _) (by rw [hw9] at hB; exact hB)
              obtain rfl : x274 = 1 := hf277.trans (by decide)
              refine W.eq (g2 := F0 m 115 ls [.int 1]) rfl ?_
              refine lv_if_eq (tgt := 120) hx hb dX10_told__115 (by decide) (fun c278 => False.elim (by revert c278; decide)) (fun _ => ?_)
              refine lv_iconst (v := 0) hx hb dX10_told__118 (by decide) ?_
              rw [← hQ]
              exact end_i hX hB hA3 rfl rfl (by obtain ⟨rfl, rfl⟩ := pr2 hR; exact ⟨rfl, ⟨rfl, rfl, rfl⟩, rfl⟩) (Nat.le_of_ble_eq_true rfl) (Nat.le_of_ble_eq_true rfl) dX10_told__119
            · replace hR := ifn c273 hR
              refine lv_iload_n hx hb dX10_told__85 rfl (lv_at hl 6 rfl) ?_
              refine lv_if_lt (tgt := 107) hx hb dX10_told__86 (by decide) (fun c279 => ?_) (fun c279 => ?_)
              · replace hR := ifp c279 hR
                refine lv_iconst (v := 1) hx hb dX10_told__107 (by decide) ?_
                refine lv_goto (tgt := 112) hx hb dX10_told__108 (by decide) ?_
                obtain ⟨x280, t281, hd282⟩ := ex2 (D_X10_isThrown_ ((va_up q 3 t13) 0) ((va_up q 3 t13) 1) ((va_up q 3 t13) 2) ((va_up q 3 t13) 3) 0 1)
                replace hR := bnd2_use hd282 hR
                refine call_V (n := 2) (k0 := 0) (As := [.int 0, .int 1]) (rest := []) hX hB (k_X10_isThrown_ κ l (mw κ a r f (va_up q 3 t13) (tb a) w) 0 (a 0) (a 1) ((va_up q 3 t13) 0) ((va_up q 3 t13) 1) ((va_up q 3 t13) 2) ((va_up q 3 t13) 3) 0 1 (mw0x (a := a) (r := r) (f := f) (q := (va_up q 3 t13)) (T := tb a) (w := w) rfl) x280 t281 hd282) ⟨rfl, yk_X10_isThrown_⟩ wm_5_192 wm_5_194 wp_27 wm_1_6 wm_5_195 ⟨Nat.le_of_ble_eq_true rfl, Nat.le_of_ble_eq_true rfl⟩ ⟨Nat.le_of_ble_eq_true rfl, Nat.le_of_ble_eq_true rfl⟩ (mw0x (a := a) (r := r) (f := f) (q := (va_up q 3 t13)) (T := tb a) (w := w) rfl) rfl rfl rfl hl.1 rfl (Nat.le_of_ble_eq_true rfl) dX10_told__112 (fun o w' H locs hp hB => ?_)
                obtain ⟨rfl, hf283, hw9⟩ := hp
                replace hB : Bd κ A s (mw κ a r f (va_up (va_up q 3 t13) 3 t281) (tb a) w) H locs := by exact Bd_eq (mwQ3x rfl _) (by rw [hw9] at hB; exact hB)
                obtain rfl : x280 = 1 := hf283.trans (by decide)
                refine W.eq (g2 := F0 m 115 ls [.int 1]) rfl ?_
                refine lv_if_eq (tgt := 120) hx hb dX10_told__115 (by decide) (fun c284 => False.elim (by revert c284; decide)) (fun _ => ?_)
                refine lv_iconst (v := 0) hx hb dX10_told__118 (by decide) ?_
                rw [← hQ]
                exact end_i hX hB hA3 rfl rfl (by obtain ⟨rfl, rfl⟩ := pr2 hR; exact ⟨rfl, ⟨rfl, rfl, rfl⟩, rfl⟩) (Nat.le_of_ble_eq_true rfl) (Nat.le_of_ble_eq_true rfl) dX10_told__119
              · replace hR := ifn c279 hR
                refine lv_iload_n hx hb dX10_told__89 rfl (lv_at hl 6 rfl) ?_
                refine lv_iload hx hb dX10_told__90 (lv_at hl 1 rfl) ?_
                refine lv_icmp_ge (tgt := 107) hx hb dX10_told__92 (by decide) (fun c286 => ?_) (fun c286 => ?_)
                · replace hR := ifp c286 hR
                  refine lv_iconst (v := 1) hx hb dX10_told__107 (by decide) ?_
                  refine lv_goto (tgt := 112) hx hb dX10_told__108 (by decide) ?_
                  obtain ⟨x287, t288, hd289⟩ := ex2 (D_X10_isThrown_ ((va_up q 3 t13) 0) ((va_up q 3 t13) 1) ((va_up q 3 t13) 2) ((va_up q 3 t13) 3) 0 1)
                  replace hR := bnd2_use hd289 hR
                  refine call_V (n := 2) (k0 := 0) (As := [.int 0, .int 1]) (rest := []) hX hB (k_X10_isThrown_ κ l (mw κ a r f (va_up q 3 t13) (tb a) w) 0 (a 0) (a 1) ((va_up q 3 t13) 0) ((va_up q 3 t13) 1) ((va_up q 3 t13) 2) ((va_up q 3 t13) 3) 0 1 (mw0x (a := a) (r := r) (f := f) (q := (va_up q 3 t13)) (T := tb a) (w := w) rfl) x287 t288 hd289) ⟨rfl, yk_X10_isThrown_⟩ wm_5_192 wm_5_194 wp_27 wm_1_6 wm_5_195 ⟨Nat.le_of_ble_eq_true rfl, Nat.le_of_ble_eq_true rfl⟩ ⟨Nat.le_of_ble_eq_true rfl, Nat.le_of_ble_eq_true rfl⟩ (mw0x (a := a) (r := r) (f := f) (q := (va_up q 3 t13)) (T := tb a) (w := w) rfl) rfl rfl rfl hl.1 rfl (Nat.le_of_ble_eq_true rfl) dX10_told__112 (fun o w' H locs hp hB => ?_)
                  obtain ⟨rfl, hf290, hw9⟩ := hp
                  replace hB : Bd κ A s (mw κ a r f (va_up (va_up q 3 t13) 3 t288) (tb a) w) H locs := by exact Bd_eq (mwQ3x rfl _) (by rw [hw9] at hB; exact hB)
                  obtain rfl : x287 = 1 := hf290.trans (by decide)
                  refine W.eq (g2 := F0 m 115 ls [.int 1]) rfl ?_
                  refine lv_if_eq (tgt := 120) hx hb dX10_told__115 (by decide) (fun c291 => False.elim (by revert c291; decide)) (fun _ => ?_)
                  refine lv_iconst (v := 0) hx hb dX10_told__118 (by decide) ?_
                  rw [← hQ]
                  exact end_i hX hB hA3 rfl rfl (by obtain ⟨rfl, rfl⟩ := pr2 hR; exact ⟨rfl, ⟨rfl, rfl, rfl⟩, rfl⟩) (Nat.le_of_ble_eq_true rfl) (Nat.le_of_ble_eq_true rfl) dX10_told__119
                · replace hR := ifn c286 hR
                  have hq285 := nlt_of (x := u) (n := r (2 * y.toNatClampNeg + 1)) c279 (by omega) c286
                  refine lv_iload hx hb dX10_told__95 (lv_at hl 7 rfl) ?_
                  refine lv_if_lt (tgt := 107) hx hb dX10_told__97 (by decide) (fun c292 => ?_) (fun c292 => ?_)
                  · replace hR := ifp c292 hR
                    refine lv_iconst (v := 1) hx hb dX10_told__107 (by decide) ?_
                    refine lv_goto (tgt := 112) hx hb dX10_told__108 (by decide) ?_
                    obtain ⟨x293, t294, hd295⟩ := ex2 (D_X10_isThrown_ ((va_up q 3 t13) 0) ((va_up q 3 t13) 1) ((va_up q 3 t13) 2) ((va_up q 3 t13) 3) 0 1)
                    replace hR := bnd2_use hd295 hR
                    refine call_V (n := 2) (k0 := 0) (As := [.int 0, .int 1]) (rest := []) hX hB (k_X10_isThrown_ κ l (mw κ a r f (va_up q 3 t13) (tb a) w) 0 (a 0) (a 1) ((va_up q 3 t13) 0) ((va_up q 3 t13) 1) ((va_up q 3 t13) 2) ((va_up q 3 t13) 3) 0 1 (mw0x (a := a) (r := r) (f := f) (q := (va_up q 3 t13)) (T := tb a) (w := w) rfl) x293 t294 hd295) ⟨rfl, yk_X10_isThrown_⟩ wm_5_192 wm_5_194 wp_27 wm_1_6 wm_5_195 ⟨Nat.le_of_ble_eq_true rfl, Nat.le_of_ble_eq_true rfl⟩ ⟨Nat.le_of_ble_eq_true rfl, Nat.le_of_ble_eq_true rfl⟩ (mw0x (a := a) (r := r) (f := f) (q := (va_up q 3 t13)) (T := tb a) (w := w) rfl) rfl rfl rfl hl.1 rfl (Nat.le_of_ble_eq_true rfl) dX10_told__112 (fun o w' H locs hp hB => ?_)
                    obtain ⟨rfl, hf296, hw9⟩ := hp
                    replace hB : Bd κ A s (mw κ a r f (va_up (va_up q 3 t13) 3 t294) (tb a) w) H locs := by exact Bd_eq (mwQ3x rfl _) (by rw [hw9] at hB; exact hB)
                    obtain rfl : x293 = 1 := hf296.trans (by decide)
                    refine W.eq (g2 := F0 m 115 ls [.int 1]) rfl ?_
                    refine lv_if_eq (tgt := 120) hx hb dX10_told__115 (by decide) (fun c297 => False.elim (by revert c297; decide)) (fun _ => ?_)
                    refine lv_iconst (v := 0) hx hb dX10_told__118 (by decide) ?_
                    rw [← hQ]
                    exact end_i hX hB hA3 rfl rfl (by obtain ⟨rfl, rfl⟩ := pr2 hR; exact ⟨rfl, ⟨rfl, rfl, rfl⟩, rfl⟩) (Nat.le_of_ble_eq_true rfl) (Nat.le_of_ble_eq_true rfl) dX10_told__119
                  · replace hR := ifn c292 hR
                    refine lv_iload hx hb dX10_told__100 (lv_at hl 7 rfl) ?_
                    refine lv_iload hx hb dX10_told__102 (lv_at hl 0 rfl) ?_
                    refine lv_icmp_lt (tgt := 111) hx hb dX10_told__104 (by decide) (fun c299 => ?_) (fun c299 => ?_)
                    · replace hR := ifp c299 hR
                      have hq298 := nlt_of (x := v) (n := r (2 * y.toNatClampNeg + 1)) c292 (by omega) (Int32.not_le.mpr c299)
                      refine lv_iconst (v := 0) hx hb dX10_told__111 (by decide) ?_
                      obtain ⟨x300, t301, hd302⟩ := ex2 (D_X10_isThrown_ ((va_up q 3 t13) 0) ((va_up q 3 t13) 1) ((va_up q 3 t13) 2) ((va_up q 3 t13) 3) 0 0)
                      replace hR := bnd2_use hd302 hR
                      refine call_V (n := 2) (k0 := 0) (As := [.int 0, .int 0]) (rest := []) hX hB (k_X10_isThrown_ κ l (mw κ a r f (va_up q 3 t13) (tb a) w) 0 (a 0) (a 1) ((va_up q 3 t13) 0) ((va_up q 3 t13) 1) ((va_up q 3 t13) 2) ((va_up q 3 t13) 3) 0 0 (mw0x (a := a) (r := r) (f := f) (q := (va_up q 3 t13)) (T := tb a) (w := w) rfl) x300 t301 hd302) ⟨rfl, yk_X10_isThrown_⟩ wm_5_192 wm_5_194 wp_27 wm_1_6 wm_5_195 ⟨Nat.le_of_ble_eq_true rfl, Nat.le_of_ble_eq_true rfl⟩ ⟨Nat.le_of_ble_eq_true rfl, Nat.le_of_ble_eq_true rfl⟩ (mw0x (a := a) (r := r) (f := f) (q := (va_up q 3 t13)) (T := tb a) (w := w) rfl) rfl rfl rfl hl.1 rfl (Nat.le_of_ble_eq_true rfl) dX10_told__112 (fun o w' H locs hp hB => ?_)
                      obtain ⟨rfl, hf303, hw9⟩ := hp
                      replace hB : Bd κ A s (mw κ a r f (va_up (va_up q 3 t13) 3 t301) (tb a) w) H locs := by exact Bd_eq (mwQ3x rfl _) (by rw [hw9] at hB; exact hB)
                      obtain rfl : x300 = 0 := hf303.trans (by decide)
                      refine W.eq (g2 := F0 m 115 ls [.int 0]) rfl ?_
                      refine lv_if_eq (tgt := 120) hx hb dX10_told__115 (by decide) (fun _ => ?_) (fun c304 => False.elim (by revert c304; decide))
                      refine lv_aload hx hb dX10_told__120 (lv_at hl 2 rfl) ?_
                      refine lv_iload_n hx hb dX10_told__122 rfl (lv_at hl 5 rfl) ?_
                      obtain ⟨z305, R306, C307, F308, hd309⟩ := ex4 (D_X10_toldOf (r (2 * y.toNatClampNeg)) (r (2 * y.toNatClampNeg + 1)) (f y.toNatClampNeg) z)
                      replace hR := bnd4_use hd309 hR
                      refine call_S (n := 2) (As := [.ref (a (2 + 2 * y.toNatClampNeg)), .int z]) (rest := []) hX hB (k_X10_toldOf κ l (mw κ a r f (va_up (va_up q 3 t13) 3 t301) (tb a) w) (2 + 2 * y.toNatClampNeg) (3 + 2 * y.toNatClampNeg) (a (2 + 2 * y.toNatClampNeg)) (a (3 + 2 * y.toNatClampNeg)) (r (2 * y.toNatClampNeg)) (r (2 * y.toNatClampNeg + 1)) (f y.toNatClampNeg) z (mwG (i := y.toNatClampNeg) (a := a) (r := r) (f := f) (q := (va_up (va_up q 3 t13) 3 t301)) (T := tb a) (w := w) (by omega)) (mwA (i := y.toNatClampNeg) (a := a) (r := r) (f := f) (q := (va_up (va_up q 3 t13) 3 t301)) (T := tb a) (w := w) (by omega)) (mok_shp (i := y.toNatClampNeg) hm (by omega)) (by omega) (fun k hk => sm_ng ((hm _ (by omega)).2 k hk)) ⟨by assumption, by first | assumption | exact Int32.not_lt.mp (by assumption)⟩ z305 R306 C307 F308 hd309) yk_X10_toldOf wm_6_124 wm_6_125 wm_1_6 wm_6_126 ⟨Nat.le_of_ble_eq_true rfl, Nat.le_of_ble_eq_true rfl⟩ ⟨Nat.le_of_ble_eq_true rfl, Nat.le_of_ble_eq_true rfl⟩ rfl hl.1 rfl (Nat.le_of_ble_eq_true rfl) dX10_told__123 (fun o w' H locs hp hB => ?_)
                      rcases hp with ⟨hz0, rfl, hw9⟩ | ⟨hz0, q310, q311, rfl, ⟨⟨hd312a, hd312b, hd312c, hd312d⟩, hd312t⟩, hw9⟩
                      · replace hB : Bd κ A s (mw κ a r f (va_up (va_up q 3 t13) 3 t301) (tb a) w) H locs := by rw [hw9] at hB; exact hB
                        refine W.eq (g2 := F0 m 126 ls [.null]) rfl ?_
                        replace hR := ifp hz0 hR
                        refine lv_astoreN (lv' := [(8, .null), (7, .int (nI (r (2 * y.toNatClampNeg + 1)))), (6, .int (nI (r (2 * y.toNatClampNeg + 1)))), (5, .ref (a (2 + 2 * y.toNatClampNeg))), (0, .ref (a 0)), (1, .int y), (2, .int z), (3, .int u), (4, .int v)]) hx hb dX10_told__126 hl (by decide) rfl (fun ls hl => ?_)
                        refine lv_aload_n hx hb dX10_told__128 rfl (lv_at hl 4 rfl) ?_
                        refine lv_iconst (v := 0) hx hb dX10_told__129 (by decide) ?_
                        refine lv_iconst (v := 0) hx hb dX10_told__130 (by decide) ?_
                        refine lv_aloadN hx hb dX10_told__131 (lv_at hl 0 rfl) ?_
                        refine lv_ifnonnullN hx hb dX10_told__133 ?_
                        refine lv_iconst (v := 1) hx hb dX10_told__136 (by decide) ?_
                        refine lv_goto (tgt := 141) hx hb dX10_told__137 (by decide) ?_
                        obtain ⟨x313, t314, hd315⟩ := ex2 (D_X10_isThrown ((va_up (va_up q 3 t13) 3 t301) 0) ((va_up (va_up q 3 t13) 3 t301) 1) ((va_up (va_up q 3 t13) 3 t301) 2) ((va_up (va_up q 3 t13) 3 t301) 3) 0 0 1)
                        replace hR := bnd2_use hd315 hR
                        refine call_V (n := 3) (k0 := 0) (As := [.int 0, .int 0, .int 1]) (rest := []) hX hB (k_X10_isThrown κ l (mw κ a r f (va_up (va_up q 3 t13) 3 t301) (tb a) w) 0 (a 0) (a 1) ((va_up (va_up q 3 t13) 3 t301) 0) ((va_up (va_up q 3 t13) 3 t301) 1) ((va_up (va_up q 3 t13) 3 t301) 2) ((va_up (va_up q 3 t13) 3 t301) 3) 0 0 1 (mw0x (a := a) (r := r) (f := f) (q := (va_up (va_up q 3 t13) 3 t301)) (T := tb a) (w := w) rfl) x313 t314 hd315) ⟨rfl, yk_X10_isThrown⟩ wm_5_196 wm_5_198 wp_28 wm_1_6 wm_5_199 ⟨Nat.le_of_ble_eq_true rfl, Nat.le_of_ble_eq_true rfl⟩ ⟨Nat.le_of_ble_eq_true rfl, Nat.le_of_ble_eq_true rfl⟩ (mw0x (a := a) (r := r) (f := f) (q := (va_up (va_up q 3 t13) 3 t301)) (T := tb a) (w := w) rfl) rfl rfl rfl hl.1 rfl (Nat.le_of_ble_eq_true rfl) dX10_told__141 (fun o w' H locs hp hB => ?_)
                        obtain ⟨rfl, hf316, hw9⟩ := hp
                        replace hB : Bd κ A s (mw κ a r f (va_up (va_up (va_up q 3 t13) 3 t301) 3 t314) (tb a) w) H locs := by exact Bd_eq (mwQ3x rfl _) (by rw [hw9] at hB; exact hB)
                        obtain rfl : x313 = 1 := hf316.trans (by decide)
                        refine W.eq (g2 := F0 m 144 ls [.int 1]) rfl ?_
                        refine lv_if_eq (tgt := 151) hx hb dX10_told__144 (by decide) (fun c317 => False.elim (by revert c317; decide)) (fun _ => ?_)
                        refine lv_iconst (v := 0) hx hb dX10_told__147 (by decide) ?_
                        refine lv_goto (tgt := 160) hx hb dX10_told__148 (by decide) ?_
                        rw [← hQ]
                        exact end_i hX hB hA3 rfl rfl (by obtain ⟨rfl, rfl⟩ := pr2 hR; exact ⟨rfl, ⟨rfl, rfl, rfl⟩, rfl⟩) (Nat.le_of_ble_eq_true rfl) (Nat.le_of_ble_eq_true rfl) dX10_told__160
                      · replace hB : Bd κ A s (lA κ q311 (R306 * 5) F308 :: gO q310 R306 C307 q311 :: mw κ a r f (va_up (va_up q 3 t13) 3 t301) (tb a) w) H locs := by rw [hw9] at hB; exact hB
                        refine W.eq (g2 := F0 m 126 ls [.ref q310]) rfl ?_
                        replace hR := ifn (by rw [hz0]; decide) hR
                        refine lv_astore (lv' := [(8, .ref q310), (7, .int (nI (r (2 * y.toNatClampNeg + 1)))), (6, .int (nI (r (2 * y.toNatClampNeg + 1)))), (5, .ref (a (2 + 2 * y.toNatClampNeg))), (0, .ref (a 0)), (1, .int y), (2, .int z), (3, .int u), (4, .int v)]) hx hb dX10_told__126 hl (by decide) rfl (fun ls hl => ?_)
                        refine lv_aload_n hx hb dX10_told__128 rfl (lv_at hl 4 rfl) ?_
                        refine lv_iconst (v := 0) hx hb dX10_told__129 (by decide) ?_
                        refine lv_iconst (v := 0) hx hb dX10_told__130 (by decide) ?_
                        refine lv_aload hx hb dX10_told__131 (lv_at hl 0 rfl) ?_
                        refine lv_ifnonnull (tgt := 140) hx hb dX10_told__133 (by decide) ?_
                        refine lv_iconst (v := 0) hx hb dX10_told__140 (by decide) ?_
                        obtain ⟨x318, t319, hd320⟩ := ex2 (D_X10_isThrown ((va_up (va_up q 3 t13) 3 t301) 0) ((va_up (va_up q 3 t13) 3 t301) 1) ((va_up (va_up q 3 t13) 3 t301) 2) ((va_up (va_up q 3 t13) 3 t301) 3) 0 0 0)
                        replace hR := bnd2_use hd320 hR
                        refine call_V (n := 3) (k0 := 2) (As := [.int 0, .int 0, .int 0]) (rest := []) hX hB (k_X10_isThrown κ l (lA κ q311 (R306 * 5) F308 :: gO q310 R306 C307 q311 :: mw κ a r f (va_up (va_up q 3 t13) 3 t301) (tb a) w) 2 (a 0) (a 1) ((va_up (va_up q 3 t13) 3 t301) 0) ((va_up (va_up q 3 t13) 3 t301) 1) ((va_up (va_up q 3 t13) 3 t301) 2) ((va_up (va_up q 3 t13) 3 t301) 3) 0 0 0 (mw0x (a := a) (r := r) (f := f) (q := (va_up (va_up q 3 t13) 3 t301)) (T := tb a) (w := w) rfl) x318 t319 hd320) ⟨rfl, yk_X10_isThrown⟩ wm_5_196 wm_5_198 wp_28 wm_1_6 wm_5_199 ⟨Nat.le_of_ble_eq_true rfl, Nat.le_of_ble_eq_true rfl⟩ ⟨Nat.le_of_ble_eq_true rfl, Nat.le_of_ble_eq_true rfl⟩ (mw0x (a := a) (r := r) (f := f) (q := (va_up (va_up q 3 t13) 3 t301)) (T := tb a) (w := w) rfl) rfl rfl rfl hl.1 rfl (Nat.le_of_ble_eq_true rfl) dX10_told__141 (fun o w' H locs hp hB => ?_)
                        obtain ⟨rfl, hf321, hw9⟩ := hp
                        replace hB : Bd κ A s (lA κ q311 (R306 * 5) F308 :: gO q310 R306 C307 q311 :: mw κ a r f (va_up (va_up (va_up q 3 t13) 3 t301) 3 t319) (tb a) w) H locs := by exact Bd_eq (congrArg (List.cons _) (congrArg (List.cons _) (mwQ3x rfl _))) (by rw [hw9] at hB; exact hB)
                        obtain rfl : x318 = 0 := hf321.trans (by decide)
                        refine W.eq (g2 := F0 m 144 ls [.int 0]) rfl ?_
                        refine lv_if_eq (tgt := 151) hx hb dX10_told__144 (by decide) (fun _ => ?_) (fun c322 => False.elim (by revert c322; decide))
                        have hT1 : R306 = r (2 * y.toNatClampNeg + 1) := by first | exact hd312t.1 (by assumption) | exact hd312t.2.1 (by assumption)
                        have hT2 : C307 = r (2 * y.toNatClampNeg + 1) := by first | exact hd312t.2.2.1 (by assumption) | exact hd312t.2.2.2.1 (by assumption) | exact hd312t.2.2.2.2 (by assumption) (by assumption)
                        refine lv_aload hx hb dX10_told__151 (lv_at hl 0 rfl) ?_
                        refine lv_iload_n hx hb dX10_told__153 rfl (lv_at hl 7 rfl) ?_
                        refine lv_iload hx hb dX10_told__154 (lv_at hl 8 rfl) ?_
                        refine call_V (n := 2) (k0 := 1) (As := [.int u, .int v]) (rest := []) hX hB (k_X7_at κ l (lA κ q311 (R306 * 5) F308 :: gO q310 R306 C307 q311 :: mw κ a r f (va_up (va_up (va_up q 3 t13) 3 t301) 3 t319) (tb a) w) 1 0 q310 q311 R306 C307 F308 u ((u).toNatClampNeg) v ((v).toNatClampNeg) rfl rfl ⟨by omega, by omega, by omega, by omega⟩ (nI_rep (Int32.not_lt.mp (by assumption))) (nI_rep (Int32.not_lt.mp (by assumption))) (by omega)) ⟨rfl, yk_X7_at⟩ wm_5_237 wm_5_238 wm_5_239 wm_1_7 wm_6_0 ⟨Nat.le_of_ble_eq_true rfl, Nat.le_of_ble_eq_true rfl⟩ ⟨Nat.le_of_ble_eq_true rfl, Nat.le_of_ble_eq_true rfl⟩ rfl rfl rfl rfl hl.1 rfl (Nat.le_of_ble_eq_true rfl) dX10_told__156 (fun o w' H locs hp hB => ?_)
                        obtain ⟨rfl, hw9⟩ := hp
                        replace hB : Bd κ A s (lA κ q311 (R306 * 5) F308 :: gO q310 R306 C307 q311 :: mw κ a r f (va_up (va_up (va_up q 3 t13) 3 t301) 3 t319) (tb a) w) H locs := by rw [hw9] at hB; exact hB
                        refine W.eq (g2 := F0 m 159 ls [.long (F308 (((u).toNatClampNeg) * 5 + ((v).toNatClampNeg)))]) rfl ?_
                        refine lv_l2i hx hb dX10_told__159 rfl ?_
                        replace hB : Bd κ A s (lA κ q311 (R306 * 5) F308 :: mw κ a r f (va_up (va_up (va_up q 3 t13) 3 t301) 3 t319) (tb a) w) H locs := Bd_del 1 hB
                        replace hB : Bd κ A s (mw κ a r f (va_up (va_up (va_up q 3 t13) 3 t301) 3 t319) (tb a) w) H locs := Bd_del 0 hB
                        rw [← hQ]
                        exact end_i hX hB hA3 rfl rfl (by obtain ⟨rfl, rfl⟩ := pr2 hR; exact ⟨rfl, ⟨rfl, rfl, rfl⟩, rfl⟩) (Nat.le_of_ble_eq_true rfl) (Nat.le_of_ble_eq_true rfl) dX10_told__160
                    · replace hR := ifn c299 hR
                      refine lv_iconst (v := 1) hx hb dX10_told__107 (by decide) ?_
                      refine lv_goto (tgt := 112) hx hb dX10_told__108 (by decide) ?_
                      obtain ⟨x323, t324, hd325⟩ := ex2 (D_X10_isThrown_ ((va_up q 3 t13) 0) ((va_up q 3 t13) 1) ((va_up q 3 t13) 2) ((va_up q 3 t13) 3) 0 1)
                      replace hR := bnd2_use hd325 hR
                      refine call_V (n := 2) (k0 := 0) (As := [.int 0, .int 1]) (rest := []) hX hB (k_X10_isThrown_ κ l (mw κ a r f (va_up q 3 t13) (tb a) w) 0 (a 0) (a 1) ((va_up q 3 t13) 0) ((va_up q 3 t13) 1) ((va_up q 3 t13) 2) ((va_up q 3 t13) 3) 0 1 (mw0x (a := a) (r := r) (f := f) (q := (va_up q 3 t13)) (T := tb a) (w := w) rfl) x323 t324 hd325) ⟨rfl, yk_X10_isThrown_⟩ wm_5_192 wm_5_194 wp_27 wm_1_6 wm_5_195 ⟨Nat.le_of_ble_eq_true rfl, Nat.le_of_ble_eq_true rfl⟩ ⟨Nat.le_of_ble_eq_true rfl, Nat.le_of_ble_eq_true rfl⟩ (mw0x (a := a) (r := r) (f := f) (q := (va_up q 3 t13)) (T := tb a) (w := w) rfl) rfl rfl rfl hl.1 rfl (Nat.le_of_ble_eq_true rfl) dX10_told__112 (fun o w' H locs hp hB => ?_)
                      obtain ⟨rfl, hf326, hw9⟩ := hp
                      replace hB : Bd κ A s (mw κ a r f (va_up (va_up q 3 t13) 3 t324) (tb a) w) H locs := by exact Bd_eq (mwQ3x rfl _) (by rw [hw9] at hB; exact hB)
                      obtain rfl : x323 = 1 := hf326.trans (by decide)
                      refine W.eq (g2 := F0 m 115 ls [.int 1]) rfl ?_
                      refine lv_if_eq (tgt := 120) hx hb dX10_told__115 (by decide) (fun c327 => False.elim (by revert c327; decide)) (fun _ => ?_)
                      refine lv_iconst (v := 0) hx hb dX10_told__118 (by decide) ?_
                      rw [← hQ]
                      exact end_i hX hB hA3 rfl rfl (by obtain ⟨rfl, rfl⟩ := pr2 hR; exact ⟨rfl, ⟨rfl, rfl, rfl⟩, rfl⟩) (Nat.le_of_ble_eq_true rfl) (Nat.le_of_ble_eq_true rfl) dX10_told__119
        · replace hR := ifp c266 hR
          refine lv_aload hx hb dX10_told__59 (lv_at hl 1 rfl) ?_
          refine gf (k0 := 2 + 2 * y.toNatClampNeg) hX hB (mwG (i := y.toNatClampNeg) (a := a) (r := r) (f := f) (q := (va_up q 3 t13)) (T := tb a) (w := w) (by omega)) rfl in7 0 (by decide) wm_5_148 rfl rfl dX10_told__61 ?_
          refine lv_goto (tgt := 72) hx hb dX10_told__64 (by decide) ?_
          refine lv_istore (lv' := [(7, .int (nI (r (2 * y.toNatClampNeg)))), (6, .int (nI (r (2 * y.toNatClampNeg + 1)))), (5, .ref (a (2 + 2 * y.toNatClampNeg))), (0, .ref (a 0)), (1, .int y), (2, .int z), (3, .int u), (4, .int v)]) hx hb dX10_told__72 hl (by decide) rfl (fun ls hl => ?_)
          refine lv_aload_n hx hb dX10_told__74 rfl (lv_at hl 3 rfl) ?_
          refine lv_iconst (v := 0) hx hb dX10_told__75 (by decide) ?_
          refine lv_iload_n hx hb dX10_told__76 rfl (lv_at hl 5 rfl) ?_
          refine lv_if_lt (tgt := 107) hx hb dX10_told__77 (by decide) (fun c328 => ?_) (fun c328 => ?_)
          · replace hR := ifp c328 hR
            refine lv_iconst (v := 1) hx hb dX10_told__107 (by decide) ?_
            refine lv_goto (tgt := 112) hx hb dX10_told__108 (by decide) ?_
            obtain ⟨x329, t330, hd331⟩ := ex2 (D_X10_isThrown_ ((va_up q 3 t13) 0) ((va_up q 3 t13) 1) ((va_up q 3 t13) 2) ((va_up q 3 t13) 3) 0 1)
            replace hR := bnd2_use hd331 hR
            refine call_V (n := 2) (k0 := 0) (As := [.int 0, .int 1]) (rest := []) hX hB (k_X10_isThrown_ κ l (mw κ a r f (va_up q 3 t13) (tb a) w) 0 (a 0) (a 1) ((va_up q 3 t13) 0) ((va_up q 3 t13) 1) ((va_up q 3 t13) 2) ((va_up q 3 t13) 3) 0 1 (mw0x (a := a) (r := r) (f := f) (q := (va_up q 3 t13)) (T := tb a) (w := w) rfl) x329 t330 hd331) ⟨rfl, yk_X10_isThrown_⟩ wm_5_192 wm_5_194 wp_27 wm_1_6 wm_5_195 ⟨Nat.le_of_ble_eq_true rfl, Nat.le_of_ble_eq_true rfl⟩ ⟨Nat.le_of_ble_eq_true rfl, Nat.le_of_ble_eq_true rfl⟩ (mw0x (a := a) (r := r) (f := f) (q := (va_up q 3 t13)) (T := tb a) (w := w) rfl) rfl rfl rfl hl.1 rfl (Nat.le_of_ble_eq_true rfl) dX10_told__112 (fun o w' H locs hp hB => ?_)
            obtain ⟨rfl, hf332, hw9⟩ := hp
            replace hB : Bd κ A s (mw κ a r f (va_up (va_up q 3 t13) 3 t330) (tb a) w) H locs := by exact Bd_eq (mwQ3x rfl _) (by rw [hw9] at hB; exact hB)
            obtain rfl : x329 = 1 := hf332.trans (by decide)
            refine W.eq (g2 := F0 m 115 ls [.int 1]) rfl ?_
            refine lv_if_eq (tgt := 120) hx hb dX10_told__115 (by decide) (fun c333 => False.elim (by revert c333; decide)) (fun _ => ?_)
            refine lv_iconst (v := 0) hx hb dX10_told__118 (by decide) ?_
            rw [← hQ]
            exact end_i hX hB hA3 rfl rfl (by obtain ⟨rfl, rfl⟩ := pr2 hR; exact ⟨rfl, ⟨rfl, rfl, rfl⟩, rfl⟩) (Nat.le_of_ble_eq_true rfl) (Nat.le_of_ble_eq_true rfl) dX10_told__119
          · replace hR := ifn c328 hR
            refine lv_iload_n hx hb dX10_told__80 rfl (lv_at hl 5 rfl) ?_
            refine lv_iconst (v := 4) hx hb dX10_told__81 (by decide) ?_
            refine lv_icmp_gt (tgt := 107) hx hb dX10_told__82 (by decide) (fun c334 => ?_) (fun c334 => ?_)
            · replace hR := ifp c334 hR
              refine lv_iconst (v := 1) hx hb dX10_told__107 (by decide) ?_
              refine lv_goto (tgt := 112) hx hb dX10_told__108 (by decide) ?_
              obtain ⟨x335, t336, hd337⟩ := ex2 (D_X10_isThrown_ ((va_up q 3 t13) 0) ((va_up q 3 t13) 1) ((va_up q 3 t13) 2) ((va_up q 3 t13) 3) 0 1)
              replace hR := bnd2_use hd337 hR
              refine call_V (n := 2) (k0 := 0) (As := [.int 0, .int 1]) (rest := []) hX hB (k_X10_isThrown_ κ l (mw κ a r f (va_up q 3 t13) (tb a) w) 0 (a 0) (a 1) ((va_up q 3 t13) 0) ((va_up q 3 t13) 1) ((va_up q 3 t13) 2) ((va_up q 3 t13) 3) 0 1 (mw0x (a := a) (r := r) (f := f) (q := (va_up q 3 t13)) (T := tb a) (w := w) rfl) x335 t336 hd337) ⟨rfl, yk_X10_isThrown_⟩ wm_5_192 wm_5_194 wp_27 wm_1_6 wm_5_195 ⟨Nat.le_of_ble_eq_true rfl, Nat.le_of_ble_eq_true rfl⟩ ⟨Nat.le_of_ble_eq_true rfl, Nat.le_of_ble_eq_true rfl⟩ (mw0x (a := a) (r := r) (f := f) (q := (va_up q 3 t13)) (T := tb a) (w := w) rfl) rfl rfl rfl hl.1 rfl (Nat.le_of_ble_eq_true rfl) dX10_told__112 (fun o w' H locs hp hB => ?_)
              obtain ⟨rfl, hf338, hw9⟩ := hp
              replace hB : Bd κ A s (mw κ a r f (va_up (va_up q 3 t13) 3 t336) (tb a) w) H locs := by exact Bd_eq (mwQ3x rfl _) (by rw [hw9] at hB; exact hB)
              obtain rfl : x335 = 1 := hf338.trans (by decide)
              refine W.eq (g2 := F0 m 115 ls [.int 1]) rfl ?_
              refine lv_if_eq (tgt := 120) hx hb dX10_told__115 (by decide) (fun c339 => False.elim (by revert c339; decide)) (fun _ => ?_)
              refine lv_iconst (v := 0) hx hb dX10_told__118 (by decide) ?_
              rw [← hQ]
              exact end_i hX hB hA3 rfl rfl (by obtain ⟨rfl, rfl⟩ := pr2 hR; exact ⟨rfl, ⟨rfl, rfl, rfl⟩, rfl⟩) (Nat.le_of_ble_eq_true rfl) (Nat.le_of_ble_eq_true rfl) dX10_told__119
            · replace hR := ifn c334 hR
              refine lv_iload_n hx hb dX10_told__85 rfl (lv_at hl 6 rfl) ?_
              refine lv_if_lt (tgt := 107) hx hb dX10_told__86 (by decide) (fun c340 => ?_) (fun c340 => ?_)
              · replace hR := ifp c340 hR
                refine lv_iconst (v := 1) hx hb dX10_told__107 (by decide) ?_
                refine lv_goto (tgt := 112) hx hb dX10_told__108 (by decide) ?_
                obtain ⟨x341, t342, hd343⟩ := ex2 (D_X10_isThrown_ ((va_up q 3 t13) 0) ((va_up q 3 t13) 1) ((va_up q 3 t13) 2) ((va_up q 3 t13) 3) 0 1)
                replace hR := bnd2_use hd343 hR
                refine call_V (n := 2) (k0 := 0) (As := [.int 0, .int 1]) (rest := []) hX hB (k_X10_isThrown_ κ l (mw κ a r f (va_up q 3 t13) (tb a) w) 0 (a 0) (a 1) ((va_up q 3 t13) 0) ((va_up q 3 t13) 1) ((va_up q 3 t13) 2) ((va_up q 3 t13) 3) 0 1 (mw0x (a := a) (r := r) (f := f) (q := (va_up q 3 t13)) (T := tb a) (w := w) rfl) x341 t342 hd343) ⟨rfl, yk_X10_isThrown_⟩ wm_5_192 wm_5_194 wp_27 wm_1_6 wm_5_195 ⟨Nat.le_of_ble_eq_true rfl, Nat.le_of_ble_eq_true rfl⟩ ⟨Nat.le_of_ble_eq_true rfl, Nat.le_of_ble_eq_true rfl⟩ (mw0x (a := a) (r := r) (f := f) (q := (va_up q 3 t13)) (T := tb a) (w := w) rfl) rfl rfl rfl hl.1 rfl (Nat.le_of_ble_eq_true rfl) dX10_told__112 (fun o w' H locs hp hB => ?_)
                obtain ⟨rfl, hf344, hw9⟩ := hp
                replace hB : Bd κ A s (mw κ a r f (va_up (va_up q 3 t13) 3 t342) (tb a) w) H locs := by exact Bd_eq (mwQ3x rfl _) (by rw [hw9] at hB; exact hB)
                obtain rfl : x341 = 1 := hf344.trans (by decide)
                refine W.eq (g2 := F0 m 115 ls [.int 1]) rfl ?_
                refine lv_if_eq (tgt := 120) hx hb dX10_told__115 (by decide) (fun c345 => False.elim (by revert c345; decide)) (fun _ => ?_)
                refine lv_iconst (v := 0) hx hb dX10_told__118 (by decide) ?_
                rw [← hQ]
                exact end_i hX hB hA3 rfl rfl (by obtain ⟨rfl, rfl⟩ := pr2 hR; exact ⟨rfl, ⟨rfl, rfl, rfl⟩, rfl⟩) (Nat.le_of_ble_eq_true rfl) (Nat.le_of_ble_eq_true rfl) dX10_told__119
              · replace hR := ifn c340 hR
                refine lv_iload_n hx hb dX10_told__89 rfl (lv_at hl 6 rfl) ?_
                refine lv_iload hx hb dX10_told__90 (lv_at hl 1 rfl) ?_
                refine lv_icmp_ge (tgt := 107) hx hb dX10_told__92 (by decide) (fun c347 => ?_) (fun c347 => ?_)
                · replace hR := ifp c347 hR
                  refine lv_iconst (v := 1) hx hb dX10_told__107 (by decide) ?_
                  refine lv_goto (tgt := 112) hx hb dX10_told__108 (by decide) ?_
                  obtain ⟨x348, t349, hd350⟩ := ex2 (D_X10_isThrown_ ((va_up q 3 t13) 0) ((va_up q 3 t13) 1) ((va_up q 3 t13) 2) ((va_up q 3 t13) 3) 0 1)
                  replace hR := bnd2_use hd350 hR
                  refine call_V (n := 2) (k0 := 0) (As := [.int 0, .int 1]) (rest := []) hX hB (k_X10_isThrown_ κ l (mw κ a r f (va_up q 3 t13) (tb a) w) 0 (a 0) (a 1) ((va_up q 3 t13) 0) ((va_up q 3 t13) 1) ((va_up q 3 t13) 2) ((va_up q 3 t13) 3) 0 1 (mw0x (a := a) (r := r) (f := f) (q := (va_up q 3 t13)) (T := tb a) (w := w) rfl) x348 t349 hd350) ⟨rfl, yk_X10_isThrown_⟩ wm_5_192 wm_5_194 wp_27 wm_1_6 wm_5_195 ⟨Nat.le_of_ble_eq_true rfl, Nat.le_of_ble_eq_true rfl⟩ ⟨Nat.le_of_ble_eq_true rfl, Nat.le_of_ble_eq_true rfl⟩ (mw0x (a := a) (r := r) (f := f) (q := (va_up q 3 t13)) (T := tb a) (w := w) rfl) rfl rfl rfl hl.1 rfl (Nat.le_of_ble_eq_true rfl) dX10_told__112 (fun o w' H locs hp hB => ?_)
                  obtain ⟨rfl, hf351, hw9⟩ := hp
                  replace hB : Bd κ A s (mw κ a r f (va_up (va_up q 3 t13) 3 t349) (tb a) w) H locs := by exact Bd_eq (mwQ3x rfl _) (by rw [hw9] at hB; exact hB)
                  obtain rfl : x348 = 1 := hf351.trans (by decide)
                  refine W.eq (g2 := F0 m 115 ls [.int 1]) rfl ?_
                  refine lv_if_eq (tgt := 120) hx hb dX10_told__115 (by decide) (fun c352 => False.elim (by revert c352; decide)) (fun _ => ?_)
                  refine lv_iconst (v := 0) hx hb dX10_told__118 (by decide) ?_
                  rw [← hQ]
                  exact end_i hX hB hA3 rfl rfl (by obtain ⟨rfl, rfl⟩ := pr2 hR; exact ⟨rfl, ⟨rfl, rfl, rfl⟩, rfl⟩) (Nat.le_of_ble_eq_true rfl) (Nat.le_of_ble_eq_true rfl) dX10_told__119
                · replace hR := ifn c347 hR
                  have hq346 := nlt_of (x := u) (n := r (2 * y.toNatClampNeg + 1)) c340 (by omega) c347
                  refine lv_iload hx hb dX10_told__95 (lv_at hl 7 rfl) ?_
                  refine lv_if_lt (tgt := 107) hx hb dX10_told__97 (by decide) (fun c353 => ?_) (fun c353 => ?_)
                  · replace hR := ifp c353 hR
                    refine lv_iconst (v := 1) hx hb dX10_told__107 (by decide) ?_
                    refine lv_goto (tgt := 112) hx hb dX10_told__108 (by decide) ?_
                    obtain ⟨x354, t355, hd356⟩ := ex2 (D_X10_isThrown_ ((va_up q 3 t13) 0) ((va_up q 3 t13) 1) ((va_up q 3 t13) 2) ((va_up q 3 t13) 3) 0 1)
                    replace hR := bnd2_use hd356 hR
                    refine call_V (n := 2) (k0 := 0) (As := [.int 0, .int 1]) (rest := []) hX hB (k_X10_isThrown_ κ l (mw κ a r f (va_up q 3 t13) (tb a) w) 0 (a 0) (a 1) ((va_up q 3 t13) 0) ((va_up q 3 t13) 1) ((va_up q 3 t13) 2) ((va_up q 3 t13) 3) 0 1 (mw0x (a := a) (r := r) (f := f) (q := (va_up q 3 t13)) (T := tb a) (w := w) rfl) x354 t355 hd356) ⟨rfl, yk_X10_isThrown_⟩ wm_5_192 wm_5_194 wp_27 wm_1_6 wm_5_195 ⟨Nat.le_of_ble_eq_true rfl, Nat.le_of_ble_eq_true rfl⟩ ⟨Nat.le_of_ble_eq_true rfl, Nat.le_of_ble_eq_true rfl⟩ (mw0x (a := a) (r := r) (f := f) (q := (va_up q 3 t13)) (T := tb a) (w := w) rfl) rfl rfl rfl hl.1 rfl (Nat.le_of_ble_eq_true rfl) dX10_told__112 (fun o w' H locs hp hB => ?_)
                    obtain ⟨rfl, hf357, hw9⟩ := hp
                    replace hB : Bd κ A s (mw κ a r f (va_up (va_up q 3 t13) 3 t355) (tb a) w) H locs := by exact Bd_eq (mwQ3x rfl _) (by rw [hw9] at hB; exact hB)
                    obtain rfl : x354 = 1 := hf357.trans (by decide)
                    refine W.eq (g2 := F0 m 115 ls [.int 1]) rfl ?_
                    refine lv_if_eq (tgt := 120) hx hb dX10_told__115 (by decide) (fun c358 => False.elim (by revert c358; decide)) (fun _ => ?_)
                    refine lv_iconst (v := 0) hx hb dX10_told__118 (by decide) ?_
                    rw [← hQ]
                    exact end_i hX hB hA3 rfl rfl (by obtain ⟨rfl, rfl⟩ := pr2 hR; exact ⟨rfl, ⟨rfl, rfl, rfl⟩, rfl⟩) (Nat.le_of_ble_eq_true rfl) (Nat.le_of_ble_eq_true rfl) dX10_told__119
                  · replace hR := ifn c353 hR
                    refine lv_iload hx hb dX10_told__100 (lv_at hl 7 rfl) ?_
                    refine lv_iload hx hb dX10_told__102 (lv_at hl 0 rfl) ?_
                    refine lv_icmp_lt (tgt := 111) hx hb dX10_told__104 (by decide) (fun c360 => ?_) (fun c360 => ?_)
                    · replace hR := ifp c360 hR
                      have hq359 := nlt_of (x := v) (n := r (2 * y.toNatClampNeg)) c353 (by omega) (Int32.not_le.mpr c360)
                      refine lv_iconst (v := 0) hx hb dX10_told__111 (by decide) ?_
                      obtain ⟨x361, t362, hd363⟩ := ex2 (D_X10_isThrown_ ((va_up q 3 t13) 0) ((va_up q 3 t13) 1) ((va_up q 3 t13) 2) ((va_up q 3 t13) 3) 0 0)
                      replace hR := bnd2_use hd363 hR
                      refine call_V (n := 2) (k0 := 0) (As := [.int 0, .int 0]) (rest := []) hX hB (k_X10_isThrown_ κ l (mw κ a r f (va_up q 3 t13) (tb a) w) 0 (a 0) (a 1) ((va_up q 3 t13) 0) ((va_up q 3 t13) 1) ((va_up q 3 t13) 2) ((va_up q 3 t13) 3) 0 0 (mw0x (a := a) (r := r) (f := f) (q := (va_up q 3 t13)) (T := tb a) (w := w) rfl) x361 t362 hd363) ⟨rfl, yk_X10_isThrown_⟩ wm_5_192 wm_5_194 wp_27 wm_1_6 wm_5_195 ⟨Nat.le_of_ble_eq_true rfl, Nat.le_of_ble_eq_true rfl⟩ ⟨Nat.le_of_ble_eq_true rfl, Nat.le_of_ble_eq_true rfl⟩ (mw0x (a := a) (r := r) (f := f) (q := (va_up q 3 t13)) (T := tb a) (w := w) rfl) rfl rfl rfl hl.1 rfl (Nat.le_of_ble_eq_true rfl) dX10_told__112 (fun o w' H locs hp hB => ?_)
                      obtain ⟨rfl, hf364, hw9⟩ := hp
                      replace hB : Bd κ A s (mw κ a r f (va_up (va_up q 3 t13) 3 t362) (tb a) w) H locs := by exact Bd_eq (mwQ3x rfl _) (by rw [hw9] at hB; exact hB)
                      obtain rfl : x361 = 0 := hf364.trans (by decide)
                      refine W.eq (g2 := F0 m 115 ls [.int 0]) rfl ?_
                      refine lv_if_eq (tgt := 120) hx hb dX10_told__115 (by decide) (fun _ => ?_) (fun c365 => False.elim (by revert c365; decide))
                      refine lv_aload hx hb dX10_told__120 (lv_at hl 2 rfl) ?_
                      refine lv_iload_n hx hb dX10_told__122 rfl (lv_at hl 5 rfl) ?_
                      obtain ⟨z366, R367, C368, F369, hd370⟩ := ex4 (D_X10_toldOf (r (2 * y.toNatClampNeg)) (r (2 * y.toNatClampNeg + 1)) (f y.toNatClampNeg) z)
                      replace hR := bnd4_use hd370 hR
                      refine call_S (n := 2) (As := [.ref (a (2 + 2 * y.toNatClampNeg)), .int z]) (rest := []) hX hB (k_X10_toldOf κ l (mw κ a r f (va_up (va_up q 3 t13) 3 t362) (tb a) w) (2 + 2 * y.toNatClampNeg) (3 + 2 * y.toNatClampNeg) (a (2 + 2 * y.toNatClampNeg)) (a (3 + 2 * y.toNatClampNeg)) (r (2 * y.toNatClampNeg)) (r (2 * y.toNatClampNeg + 1)) (f y.toNatClampNeg) z (mwG (i := y.toNatClampNeg) (a := a) (r := r) (f := f) (q := (va_up (va_up q 3 t13) 3 t362)) (T := tb a) (w := w) (by omega)) (mwA (i := y.toNatClampNeg) (a := a) (r := r) (f := f) (q := (va_up (va_up q 3 t13) 3 t362)) (T := tb a) (w := w) (by omega)) (mok_shp (i := y.toNatClampNeg) hm (by omega)) (by omega) (fun k hk => sm_ng ((hm _ (by omega)).2 k hk)) ⟨by assumption, by first | assumption | exact Int32.not_lt.mp (by assumption)⟩ z366 R367 C368 F369 hd370) yk_X10_toldOf wm_6_124 wm_6_125 wm_1_6 wm_6_126 ⟨Nat.le_of_ble_eq_true rfl, Nat.le_of_ble_eq_true rfl⟩ ⟨Nat.le_of_ble_eq_true rfl, Nat.le_of_ble_eq_true rfl⟩ rfl hl.1 rfl (Nat.le_of_ble_eq_true rfl) dX10_told__123 (fun o w' H locs hp hB => ?_)
                      rcases hp with ⟨hz0, rfl, hw9⟩ | ⟨hz0, q371, q372, rfl, ⟨⟨hd373a, hd373b, hd373c, hd373d⟩, hd373t⟩, hw9⟩
                      · replace hB : Bd κ A s (mw κ a r f (va_up (va_up q 3 t13) 3 t362) (tb a) w) H locs := by rw [hw9] at hB; exact hB
                        refine W.eq (g2 := F0 m 126 ls [.null]) rfl ?_
                        replace hR := ifp hz0 hR
                        refine lv_astoreN (lv' := [(8, .null), (7, .int (nI (r (2 * y.toNatClampNeg)))), (6, .int (nI (r (2 * y.toNatClampNeg + 1)))), (5, .ref (a (2 + 2 * y.toNatClampNeg))), (0, .ref (a 0)), (1, .int y), (2, .int z), (3, .int u), (4, .int v)]) hx hb dX10_told__126 hl (by decide) rfl (fun ls hl => ?_)
                        refine lv_aload_n hx hb dX10_told__128 rfl (lv_at hl 4 rfl) ?_
                        refine lv_iconst (v := 0) hx hb dX10_told__129 (by decide) ?_
                        refine lv_iconst (v := 0) hx hb dX10_told__130 (by decide) ?_
                        refine lv_aloadN hx hb dX10_told__131 (lv_at hl 0 rfl) ?_
                        refine lv_ifnonnullN hx hb dX10_told__133 ?_
                        refine lv_iconst (v := 1) hx hb dX10_told__136 (by decide) ?_
                        refine lv_goto (tgt := 141) hx hb dX10_told__137 (by decide) ?_
                        obtain ⟨x374, t375, hd376⟩ := ex2 (D_X10_isThrown ((va_up (va_up q 3 t13) 3 t362) 0) ((va_up (va_up q 3 t13) 3 t362) 1) ((va_up (va_up q 3 t13) 3 t362) 2) ((va_up (va_up q 3 t13) 3 t362) 3) 0 0 1)
                        replace hR := bnd2_use hd376 hR
                        refine call_V (n := 3) (k0 := 0) (As := [.int 0, .int 0, .int 1]) (rest := []) hX hB (k_X10_isThrown κ l (mw κ a r f (va_up (va_up q 3 t13) 3 t362) (tb a) w) 0 (a 0) (a 1) ((va_up (va_up q 3 t13) 3 t362) 0) ((va_up (va_up q 3 t13) 3 t362) 1) ((va_up (va_up q 3 t13) 3 t362) 2) ((va_up (va_up q 3 t13) 3 t362) 3) 0 0 1 (mw0x (a := a) (r := r) (f := f) (q := (va_up (va_up q 3 t13) 3 t362)) (T := tb a) (w := w) rfl) x374 t375 hd376) ⟨rfl, yk_X10_isThrown⟩ wm_5_196 wm_5_198 wp_28 wm_1_6 wm_5_199 ⟨Nat.le_of_ble_eq_true rfl, Nat.le_of_ble_eq_true rfl⟩ ⟨Nat.le_of_ble_eq_true rfl, Nat.le_of_ble_eq_true rfl⟩ (mw0x (a := a) (r := r) (f := f) (q := (va_up (va_up q 3 t13) 3 t362)) (T := tb a) (w := w) rfl) rfl rfl rfl hl.1 rfl (Nat.le_of_ble_eq_true rfl) dX10_told__141 (fun o w' H locs hp hB => ?_)
                        obtain ⟨rfl, hf377, hw9⟩ := hp
                        replace hB : Bd κ A s (mw κ a r f (va_up (va_up (va_up q 3 t13) 3 t362) 3 t375) (tb a) w) H locs := by exact Bd_eq (mwQ3x rfl _) (by rw [hw9] at hB; exact hB)
                        obtain rfl : x374 = 1 := hf377.trans (by decide)
                        refine W.eq (g2 := F0 m 144 ls [.int 1]) rfl ?_
                        refine lv_if_eq (tgt := 151) hx hb dX10_told__144 (by decide) (fun c378 => False.elim (by revert c378; decide)) (fun _ => ?_)
                        refine lv_iconst (v := 0) hx hb dX10_told__147 (by decide) ?_
                        refine lv_goto (tgt := 160) hx hb dX10_told__148 (by decide) ?_
                        rw [← hQ]
                        exact end_i hX hB hA3 rfl rfl (by obtain ⟨rfl, rfl⟩ := pr2 hR; exact ⟨rfl, ⟨rfl, rfl, rfl⟩, rfl⟩) (Nat.le_of_ble_eq_true rfl) (Nat.le_of_ble_eq_true rfl) dX10_told__160
                      · replace hB : Bd κ A s (lA κ q372 (R367 * 5) F369 :: gO q371 R367 C368 q372 :: mw κ a r f (va_up (va_up q 3 t13) 3 t362) (tb a) w) H locs := by rw [hw9] at hB; exact hB
                        refine W.eq (g2 := F0 m 126 ls [.ref q371]) rfl ?_
                        replace hR := ifn (by rw [hz0]; decide) hR
                        refine lv_astore (lv' := [(8, .ref q371), (7, .int (nI (r (2 * y.toNatClampNeg)))), (6, .int (nI (r (2 * y.toNatClampNeg + 1)))), (5, .ref (a (2 + 2 * y.toNatClampNeg))), (0, .ref (a 0)), (1, .int y), (2, .int z), (3, .int u), (4, .int v)]) hx hb dX10_told__126 hl (by decide) rfl (fun ls hl => ?_)
                        refine lv_aload_n hx hb dX10_told__128 rfl (lv_at hl 4 rfl) ?_
                        refine lv_iconst (v := 0) hx hb dX10_told__129 (by decide) ?_
                        refine lv_iconst (v := 0) hx hb dX10_told__130 (by decide) ?_
                        refine lv_aload hx hb dX10_told__131 (lv_at hl 0 rfl) ?_
                        refine lv_ifnonnull (tgt := 140) hx hb dX10_told__133 (by decide) ?_
                        refine lv_iconst (v := 0) hx hb dX10_told__140 (by decide) ?_
                        obtain ⟨x379, t380, hd381⟩ := ex2 (D_X10_isThrown ((va_up (va_up q 3 t13) 3 t362) 0) ((va_up (va_up q 3 t13) 3 t362) 1) ((va_up (va_up q 3 t13) 3 t362) 2) ((va_up (va_up q 3 t13) 3 t362) 3) 0 0 0)
                        replace hR := bnd2_use hd381 hR
                        refine call_V (n := 3) (k0 := 2) (As := [.int 0, .int 0, .int 0]) (rest := []) hX hB (k_X10_isThrown κ l (lA κ q372 (R367 * 5) F369 :: gO q371 R367 C368 q372 :: mw κ a r f (va_up (va_up q 3 t13) 3 t362) (tb a) w) 2 (a 0) (a 1) ((va_up (va_up q 3 t13) 3 t362) 0) ((va_up (va_up q 3 t13) 3 t362) 1) ((va_up (va_up q 3 t13) 3 t362) 2) ((va_up (va_up q 3 t13) 3 t362) 3) 0 0 0 (mw0x (a := a) (r := r) (f := f) (q := (va_up (va_up q 3 t13) 3 t362)) (T := tb a) (w := w) rfl) x379 t380 hd381) ⟨rfl, yk_X10_isThrown⟩ wm_5_196 wm_5_198 wp_28 wm_1_6 wm_5_199 ⟨Nat.le_of_ble_eq_true rfl, Nat.le_of_ble_eq_true rfl⟩ ⟨Nat.le_of_ble_eq_true rfl, Nat.le_of_ble_eq_true rfl⟩ (mw0x (a := a) (r := r) (f := f) (q := (va_up (va_up q 3 t13) 3 t362)) (T := tb a) (w := w) rfl) rfl rfl rfl hl.1 rfl (Nat.le_of_ble_eq_true rfl) dX10_told__141 (fun o w' H locs hp hB => ?_)
                        obtain ⟨rfl, hf382, hw9⟩ := hp
                        replace hB : Bd κ A s (lA κ q372 (R367 * 5) F369 :: gO q371 R367 C368 q372 :: mw κ a r f (va_up (va_up (va_up q 3 t13) 3 t362) 3 t380) (tb a) w) H locs := by exact Bd_eq (congrArg (List.cons _) (congrArg (List.cons _) (mwQ3x rfl _))) (by rw [hw9] at hB; exact hB)
                        obtain rfl : x379 = 0 := hf382.trans (by decide)
                        refine W.eq (g2 := F0 m 144 ls [.int 0]) rfl ?_
                        refine lv_if_eq (tgt := 151) hx hb dX10_told__144 (by decide) (fun _ => ?_) (fun c383 => False.elim (by revert c383; decide))
                        have hT1 : R367 = r (2 * y.toNatClampNeg + 1) := by first | exact hd373t.1 (by assumption) | exact hd373t.2.1 (by assumption)
                        have hT2 : C368 = r (2 * y.toNatClampNeg) := by first | exact hd373t.2.2.1 (by assumption) | exact hd373t.2.2.2.1 (by assumption) | exact hd373t.2.2.2.2 (by assumption) (by assumption)
                        refine lv_aload hx hb dX10_told__151 (lv_at hl 0 rfl) ?_
                        refine lv_iload_n hx hb dX10_told__153 rfl (lv_at hl 7 rfl) ?_
                        refine lv_iload hx hb dX10_told__154 (lv_at hl 8 rfl) ?_
                        refine call_V (n := 2) (k0 := 1) (As := [.int u, .int v]) (rest := []) hX hB (k_X7_at κ l (lA κ q372 (R367 * 5) F369 :: gO q371 R367 C368 q372 :: mw κ a r f (va_up (va_up (va_up q 3 t13) 3 t362) 3 t380) (tb a) w) 1 0 q371 q372 R367 C368 F369 u ((u).toNatClampNeg) v ((v).toNatClampNeg) rfl rfl ⟨by omega, by omega, by omega, by omega⟩ (nI_rep (Int32.not_lt.mp (by assumption))) (nI_rep (Int32.not_lt.mp (by assumption))) (by omega)) ⟨rfl, yk_X7_at⟩ wm_5_237 wm_5_238 wm_5_239 wm_1_7 wm_6_0 ⟨Nat.le_of_ble_eq_true rfl, Nat.le_of_ble_eq_true rfl⟩ ⟨Nat.le_of_ble_eq_true rfl, Nat.le_of_ble_eq_true rfl⟩ rfl rfl rfl rfl hl.1 rfl (Nat.le_of_ble_eq_true rfl) dX10_told__156 (fun o w' H locs hp hB => ?_)
                        obtain ⟨rfl, hw9⟩ := hp
                        replace hB : Bd κ A s (lA κ q372 (R367 * 5) F369 :: gO q371 R367 C368 q372 :: mw κ a r f (va_up (va_up (va_up q 3 t13) 3 t362) 3 t380) (tb a) w) H locs := by rw [hw9] at hB; exact hB
                        refine W.eq (g2 := F0 m 159 ls [.long (F369 (((u).toNatClampNeg) * 5 + ((v).toNatClampNeg)))]) rfl ?_
                        refine lv_l2i hx hb dX10_told__159 rfl ?_
                        replace hB : Bd κ A s (lA κ q372 (R367 * 5) F369 :: mw κ a r f (va_up (va_up (va_up q 3 t13) 3 t362) 3 t380) (tb a) w) H locs := Bd_del 1 hB
                        replace hB : Bd κ A s (mw κ a r f (va_up (va_up (va_up q 3 t13) 3 t362) 3 t380) (tb a) w) H locs := Bd_del 0 hB
                        rw [← hQ]
                        exact end_i hX hB hA3 rfl rfl (by obtain ⟨rfl, rfl⟩ := pr2 hR; exact ⟨rfl, ⟨rfl, rfl, rfl⟩, rfl⟩) (Nat.le_of_ble_eq_true rfl) (Nat.le_of_ble_eq_true rfl) dX10_told__160
                    · replace hR := ifn c360 hR
                      refine lv_iconst (v := 1) hx hb dX10_told__107 (by decide) ?_
                      refine lv_goto (tgt := 112) hx hb dX10_told__108 (by decide) ?_
                      obtain ⟨x384, t385, hd386⟩ := ex2 (D_X10_isThrown_ ((va_up q 3 t13) 0) ((va_up q 3 t13) 1) ((va_up q 3 t13) 2) ((va_up q 3 t13) 3) 0 1)
                      replace hR := bnd2_use hd386 hR
                      refine call_V (n := 2) (k0 := 0) (As := [.int 0, .int 1]) (rest := []) hX hB (k_X10_isThrown_ κ l (mw κ a r f (va_up q 3 t13) (tb a) w) 0 (a 0) (a 1) ((va_up q 3 t13) 0) ((va_up q 3 t13) 1) ((va_up q 3 t13) 2) ((va_up q 3 t13) 3) 0 1 (mw0x (a := a) (r := r) (f := f) (q := (va_up q 3 t13)) (T := tb a) (w := w) rfl) x384 t385 hd386) ⟨rfl, yk_X10_isThrown_⟩ wm_5_192 wm_5_194 wp_27 wm_1_6 wm_5_195 ⟨Nat.le_of_ble_eq_true rfl, Nat.le_of_ble_eq_true rfl⟩ ⟨Nat.le_of_ble_eq_true rfl, Nat.le_of_ble_eq_true rfl⟩ (mw0x (a := a) (r := r) (f := f) (q := (va_up q 3 t13)) (T := tb a) (w := w) rfl) rfl rfl rfl hl.1 rfl (Nat.le_of_ble_eq_true rfl) dX10_told__112 (fun o w' H locs hp hB => ?_)
                      obtain ⟨rfl, hf387, hw9⟩ := hp
                      replace hB : Bd κ A s (mw κ a r f (va_up (va_up q 3 t13) 3 t385) (tb a) w) H locs := by exact Bd_eq (mwQ3x rfl _) (by rw [hw9] at hB; exact hB)
                      obtain rfl : x384 = 1 := hf387.trans (by decide)
                      refine W.eq (g2 := F0 m 115 ls [.int 1]) rfl ?_
                      refine lv_if_eq (tgt := 120) hx hb dX10_told__115 (by decide) (fun c388 => False.elim (by revert c388; decide)) (fun _ => ?_)
                      refine lv_iconst (v := 0) hx hb dX10_told__118 (by decide) ?_
                      rw [← hQ]
                      exact end_i hX hB hA3 rfl rfl (by obtain ⟨rfl, rfl⟩ := pr2 hR; exact ⟨rfl, ⟨rfl, rfl, rfl⟩, rfl⟩) (Nat.le_of_ble_eq_true rfl) (Nat.le_of_ble_eq_true rfl) dX10_told__119
noncomputable def D_X10_change (r : Nat → Nat) (f : Nat → Nat → Int64) (q : Nat → Int32) (y : Int32) (z : Int32) : Int32 × (Nat → Int32) := bnd1 (D_X10_isTable y) (fun (z1 : Int32) => (if z1 = 0 then (if z < 0 then bnd2 (D_X10_isThrown_ (q 0) (q 1) (q 2) (q 3) 1 1) (fun (x7 : Int32) (t8 : Int32) => (0, va_up q 3 t8)) else (if z ≤ 4 then bnd2 (D_X10_isThrown_ (q 0) (q 1) (q 2) (q 3) 1 0) (fun (x13 : Int32) (t14 : Int32) => (0, va_up q 3 t14)) else bnd2 (D_X10_isThrown_ (q 0) (q 1) (q 2) (q 3) 1 1) (fun (x18 : Int32) (t19 : Int32) => (0, va_up q 3 t19)))) else (if z < 0 then bnd2 (D_X10_isThrown_ (q 0) (q 1) (q 2) (q 3) 0 1) (fun (x25 : Int32) (t26 : Int32) => (0, va_up q 3 t26)) else (if z ≤ 4 then bnd2 (D_X10_isThrown_ (q 0) (q 1) (q 2) (q 3) 0 0) (fun (x31 : Int32) (t32 : Int32) => (if z = 0 then bnd4 (D_X8_init (r (2 * y.toNatClampNeg)) (r (2 * y.toNatClampNeg + 1)) (f y.toNatClampNeg)) (fun (F43 : Nat → Int64) (F44 : Nat → Int64) (S45 : Int32) (G46 : Int32) => (if G46 = 0 then (0, va_up q 3 t32) else (1, va_up q 3 t32))) else (if z = 2 then bnd4 (D_X8_init (r (2 * y.toNatClampNeg)) (r (2 * y.toNatClampNeg + 1)) (f y.toNatClampNeg)) (fun (F85 : Nat → Int64) (F86 : Nat → Int64) (S87 : Int32) (G88 : Int32) => bnd2 (D_X10_isThrown ((va_up q 3 t32) 0) ((va_up q 3 t32) 1) ((va_up q 3 t32) 2) ((va_up q 3 t32) 3) 0 0 G88) (fun (x92 : Int32) (t93 : Int32) => (if x92 = 0 then (S87, va_up (va_up q 3 t32) 3 t93) else (0, va_up (va_up q 3 t32) 3 t93)))) else bnd7 (D_X9_init (r (2 * y.toNatClampNeg)) (r (2 * y.toNatClampNeg + 1)) (f y.toNatClampNeg)) (fun (F60 : Nat → Int64) (F61 : Nat → Int64) (F62 : Nat → Int64) (S63 : Int32) (S64 : Int32) (K65 : Nat) (G66 : Int32) => (if z = 1 then (if G66 = 0 then (0, va_up q 3 t32) else (1, va_up q 3 t32)) else bnd2 (D_X10_isThrown ((va_up q 3 t32) 0) ((va_up q 3 t32) 1) ((va_up q 3 t32) 2) ((va_up q 3 t32) 3) 0 0 G66) (fun (x70 : Int32) (t71 : Int32) => (if x70 = 0 then (if z = 3 then (S63, va_up (va_up q 3 t32) 3 t71) else (S64, va_up (va_up q 3 t32) 3 t71)) else (0, va_up (va_up q 3 t32) 3 t71)))))))) else bnd2 (D_X10_isThrown_ (q 0) (q 1) (q 2) (q 3) 0 1) (fun (x99 : Int32) (t100 : Int32) => (0, va_up q 3 t100))))))
theorem D_X10_change_s {r : Nat → Nat} {f : Nat → Nat → Int64} {q : Nat → Int32} {y : Int32} {z : Int32} : D_X10_change r f q y z = bnd1 (D_X10_isTable y) (fun (z1 : Int32) => (if z1 = 0 then (if z < 0 then bnd2 (D_X10_isThrown_ (q 0) (q 1) (q 2) (q 3) 1 1) (fun (x7 : Int32) (t8 : Int32) => (0, va_up q 3 t8)) else (if z ≤ 4 then bnd2 (D_X10_isThrown_ (q 0) (q 1) (q 2) (q 3) 1 0) (fun (x13 : Int32) (t14 : Int32) => (0, va_up q 3 t14)) else bnd2 (D_X10_isThrown_ (q 0) (q 1) (q 2) (q 3) 1 1) (fun (x18 : Int32) (t19 : Int32) => (0, va_up q 3 t19)))) else (if z < 0 then bnd2 (D_X10_isThrown_ (q 0) (q 1) (q 2) (q 3) 0 1) (fun (x25 : Int32) (t26 : Int32) => (0, va_up q 3 t26)) else (if z ≤ 4 then bnd2 (D_X10_isThrown_ (q 0) (q 1) (q 2) (q 3) 0 0) (fun (x31 : Int32) (t32 : Int32) => (if z = 0 then bnd4 (D_X8_init (r (2 * y.toNatClampNeg)) (r (2 * y.toNatClampNeg + 1)) (f y.toNatClampNeg)) (fun (F43 : Nat → Int64) (F44 : Nat → Int64) (S45 : Int32) (G46 : Int32) => (if G46 = 0 then (0, va_up q 3 t32) else (1, va_up q 3 t32))) else (if z = 2 then bnd4 (D_X8_init (r (2 * y.toNatClampNeg)) (r (2 * y.toNatClampNeg + 1)) (f y.toNatClampNeg)) (fun (F85 : Nat → Int64) (F86 : Nat → Int64) (S87 : Int32) (G88 : Int32) => bnd2 (D_X10_isThrown ((va_up q 3 t32) 0) ((va_up q 3 t32) 1) ((va_up q 3 t32) 2) ((va_up q 3 t32) 3) 0 0 G88) (fun (x92 : Int32) (t93 : Int32) => (if x92 = 0 then (S87, va_up (va_up q 3 t32) 3 t93) else (0, va_up (va_up q 3 t32) 3 t93)))) else bnd7 (D_X9_init (r (2 * y.toNatClampNeg)) (r (2 * y.toNatClampNeg + 1)) (f y.toNatClampNeg)) (fun (F60 : Nat → Int64) (F61 : Nat → Int64) (F62 : Nat → Int64) (S63 : Int32) (S64 : Int32) (K65 : Nat) (G66 : Int32) => (if z = 1 then (if G66 = 0 then (0, va_up q 3 t32) else (1, va_up q 3 t32)) else bnd2 (D_X10_isThrown ((va_up q 3 t32) 0) ((va_up q 3 t32) 1) ((va_up q 3 t32) 2) ((va_up q 3 t32) 3) 0 0 G66) (fun (x70 : Int32) (t71 : Int32) => (if x70 = 0 then (if z = 3 then (S63, va_up (va_up q 3 t32) 3 t71) else (S64, va_up (va_up q 3 t32) 3 t71)) else (0, va_up (va_up q 3 t32) 3 t71)))))))) else bnd2 (D_X10_isThrown_ (q 0) (q 1) (q 2) (q 3) 0 1) (fun (x99 : Int32) (t100 : Int32) => (0, va_up q 3 t100)))))) := rfl
set_option maxHeartbeats 4000000 in
set_option maxRecDepth 100000 in
theorem k_X10_change (κ : Kt) (l : Launch) (w : va_W) (a r : Nat → Nat) (f : Nat → Nat → Int64) (q : Nat → Int32) (y : Int32) (z : Int32) (hm : mok r f) (o_x : Int32) (o_q' : Nat → Int32) (hR : D_X10_change r f q y z = (o_x, o_q')) : CM κ l yX10_change cX10_change 4 (some .int) 5 122 7 76 [.ref (a 0), .int y, .int z] (mw κ a r f q (tb a) w) (fun o w' => o = some (.int o_x) ∧ (o_q' 2 = q 2 ∧ o_q' 0 = q 0 ∧ o_q' 1 = q 1) ∧ w' = mw κ a r f o_q' (tb a) w) := by
  refine CM_begin (plainFor_of_name pn_RX10) (Nat.le_of_ble_eq_true rfl) ?_
  intro p e s m args below meth c A Q hX hnm hA3 hQ hB ls hl
  have hx := hX.1.1
  have hb := hX.1.2.1
  have hl : lv_has ls 4 [(0, .ref (a 0)), (1, .int y), (2, .int z)] := hl
  replace hR := (D_X10_change_s).symm.trans hR
  refine lv_aload_n hx hb dX10_change_0 rfl (lv_at hl 0 rfl) ?_
  refine lv_iload_n hx hb dX10_change_1 rfl (lv_at hl 1 rfl) ?_
  obtain ⟨z1, hd2⟩ := ex1 (D_X10_isTable y)
  replace hR := bnd1_use hd2 hR
  refine call_S (n := 1) (As := [.int y]) (rest := [.ref (a 0)]) hX hB (k_X10_isTable κ l (mw κ a r f q (tb a) w) y z1 hd2) yk_X10_isTable wm_5_186 wm_5_187 wm_1_6 wm_5_188 ⟨Nat.le_of_ble_eq_true rfl, Nat.le_of_ble_eq_true rfl⟩ ⟨Nat.le_of_ble_eq_true rfl, Nat.le_of_ble_eq_true rfl⟩ rfl hl.1 rfl (Nat.le_of_ble_eq_true rfl) dX10_change_2 (fun o w' H locs hp hB => ?_)
  obtain ⟨rfl, hf3, hw9⟩ := hp
  replace hB : Bd κ A s (mw κ a r f q (tb a) w) H locs := by rw [hw9] at hB; exact hB
  rcases hf3 with rfl | ⟨rfl, hz4a, hz4b⟩
  · replace hR := ifp rfl hR
    refine W.eq (g2 := F0 m 5 ls [.int 0, .ref (a 0)]) rfl ?_
    refine lv_if_ne (tgt := 12) hx hb dX10_change_5 (by decide) (fun c5 => False.elim (by revert c5; decide)) (fun _ => ?_)
    refine lv_iconst (v := 1) hx hb dX10_change_8 (by decide) ?_
    refine lv_goto (tgt := 13) hx hb dX10_change_9 (by decide) ?_
    refine lv_iload_n hx hb dX10_change_13 rfl (lv_at hl 2 rfl) ?_
    refine lv_if_lt (tgt := 22) hx hb dX10_change_14 (by decide) (fun c6 => ?_) (fun c6 => ?_)
    · replace hR := ifp c6 hR
      refine lv_iconst (v := 1) hx hb dX10_change_22 (by decide) ?_
      refine lv_goto (tgt := 27) hx hb dX10_change_23 (by decide) ?_
      obtain ⟨x7, t8, hd9⟩ := ex2 (D_X10_isThrown_ (q 0) (q 1) (q 2) (q 3) 1 1)
      replace hR := bnd2_use hd9 hR
      refine call_V (n := 2) (k0 := 0) (As := [.int 1, .int 1]) (rest := []) hX hB (k_X10_isThrown_ κ l (mw κ a r f q (tb a) w) 0 (a 0) (a 1) (q 0) (q 1) (q 2) (q 3) 1 1 (mw0x (a := a) (r := r) (f := f) (q := q) (T := tb a) (w := w) rfl) x7 t8 hd9) ⟨rfl, yk_X10_isThrown_⟩ wm_5_192 wm_5_194 wp_27 wm_1_6 wm_5_195 ⟨Nat.le_of_ble_eq_true rfl, Nat.le_of_ble_eq_true rfl⟩ ⟨Nat.le_of_ble_eq_true rfl, Nat.le_of_ble_eq_true rfl⟩ (mw0x (a := a) (r := r) (f := f) (q := q) (T := tb a) (w := w) rfl) rfl rfl rfl hl.1 rfl (Nat.le_of_ble_eq_true rfl) dX10_change_27 (fun o w' H locs hp hB => ?_)
      obtain ⟨rfl, hf10, hw9⟩ := hp
      replace hB : Bd κ A s (mw κ a r f (va_up q 3 t8) (tb a) w) H locs := by exact Bd_eq (mwQ3x rfl _) (by rw [hw9] at hB; exact hB)
      obtain rfl : x7 = 1 := hf10.trans (by decide)
      refine W.eq (g2 := F0 m 30 ls [.int 1]) rfl ?_
      refine lv_if_eq (tgt := 35) hx hb dX10_change_30 (by decide) (fun c11 => False.elim (by revert c11; decide)) (fun _ => ?_)
      refine lv_iconst (v := 0) hx hb dX10_change_33 (by decide) ?_
      rw [← hQ]
      exact end_i hX hB hA3 rfl rfl (by obtain ⟨rfl, rfl⟩ := pr2 hR; exact ⟨rfl, ⟨rfl, rfl, rfl⟩, rfl⟩) (Nat.le_of_ble_eq_true rfl) (Nat.le_of_ble_eq_true rfl) dX10_change_34
    · replace hR := ifn c6 hR
      refine lv_iload_n hx hb dX10_change_17 rfl (lv_at hl 2 rfl) ?_
      refine lv_iconst (v := 4) hx hb dX10_change_18 (by decide) ?_
      refine lv_icmp_le (tgt := 26) hx hb dX10_change_19 (by decide) (fun c12 => ?_) (fun c12 => ?_)
      · replace hR := ifp c12 hR
        refine lv_iconst (v := 0) hx hb dX10_change_26 (by decide) ?_
        obtain ⟨x13, t14, hd15⟩ := ex2 (D_X10_isThrown_ (q 0) (q 1) (q 2) (q 3) 1 0)
        replace hR := bnd2_use hd15 hR
        refine call_V (n := 2) (k0 := 0) (As := [.int 1, .int 0]) (rest := []) hX hB (k_X10_isThrown_ κ l (mw κ a r f q (tb a) w) 0 (a 0) (a 1) (q 0) (q 1) (q 2) (q 3) 1 0 (mw0x (a := a) (r := r) (f := f) (q := q) (T := tb a) (w := w) rfl) x13 t14 hd15) ⟨rfl, yk_X10_isThrown_⟩ wm_5_192 wm_5_194 wp_27 wm_1_6 wm_5_195 ⟨Nat.le_of_ble_eq_true rfl, Nat.le_of_ble_eq_true rfl⟩ ⟨Nat.le_of_ble_eq_true rfl, Nat.le_of_ble_eq_true rfl⟩ (mw0x (a := a) (r := r) (f := f) (q := q) (T := tb a) (w := w) rfl) rfl rfl rfl hl.1 rfl (Nat.le_of_ble_eq_true rfl) dX10_change_27 (fun o w' H locs hp hB => ?_)
        obtain ⟨rfl, hf16, hw9⟩ := hp
        replace hB : Bd κ A s (mw κ a r f (va_up q 3 t14) (tb a) w) H locs := by exact Bd_eq (mwQ3x rfl _) (by rw [hw9] at hB; exact hB)
        obtain rfl : x13 = 1 := hf16.trans (by decide)
        refine W.eq (g2 := F0 m 30 ls [.int 1]) rfl ?_
        refine lv_if_eq (tgt := 35) hx hb dX10_change_30 (by decide) (fun c17 => False.elim (by revert c17; decide)) (fun _ => ?_)
        refine lv_iconst (v := 0) hx hb dX10_change_33 (by decide) ?_
        rw [← hQ]
        exact end_i hX hB hA3 rfl rfl (by obtain ⟨rfl, rfl⟩ := pr2 hR; exact ⟨rfl, ⟨rfl, rfl, rfl⟩, rfl⟩) (Nat.le_of_ble_eq_true rfl) (Nat.le_of_ble_eq_true rfl) dX10_change_34
      · replace hR := ifn c12 hR
        refine lv_iconst (v := 1) hx hb dX10_change_22 (by decide) ?_
        refine lv_goto (tgt := 27) hx hb dX10_change_23 (by decide) ?_
        obtain ⟨x18, t19, hd20⟩ := ex2 (D_X10_isThrown_ (q 0) (q 1) (q 2) (q 3) 1 1)
        replace hR := bnd2_use hd20 hR
        refine call_V (n := 2) (k0 := 0) (As := [.int 1, .int 1]) (rest := []) hX hB (k_X10_isThrown_ κ l (mw κ a r f q (tb a) w) 0 (a 0) (a 1) (q 0) (q 1) (q 2) (q 3) 1 1 (mw0x (a := a) (r := r) (f := f) (q := q) (T := tb a) (w := w) rfl) x18 t19 hd20) ⟨rfl, yk_X10_isThrown_⟩ wm_5_192 wm_5_194 wp_27 wm_1_6 wm_5_195 ⟨Nat.le_of_ble_eq_true rfl, Nat.le_of_ble_eq_true rfl⟩ ⟨Nat.le_of_ble_eq_true rfl, Nat.le_of_ble_eq_true rfl⟩ (mw0x (a := a) (r := r) (f := f) (q := q) (T := tb a) (w := w) rfl) rfl rfl rfl hl.1 rfl (Nat.le_of_ble_eq_true rfl) dX10_change_27 (fun o w' H locs hp hB => ?_)
        obtain ⟨rfl, hf21, hw9⟩ := hp
        replace hB : Bd κ A s (mw κ a r f (va_up q 3 t19) (tb a) w) H locs := by exact Bd_eq (mwQ3x rfl _) (by rw [hw9] at hB; exact hB)
        obtain rfl : x18 = 1 := hf21.trans (by decide)
        refine W.eq (g2 := F0 m 30 ls [.int 1]) rfl ?_
        refine lv_if_eq (tgt := 35) hx hb dX10_change_30 (by decide) (fun c22 => False.elim (by revert c22; decide)) (fun _ => ?_)
        refine lv_iconst (v := 0) hx hb dX10_change_33 (by decide) ?_
        rw [← hQ]
        exact end_i hX hB hA3 rfl rfl (by obtain ⟨rfl, rfl⟩ := pr2 hR; exact ⟨rfl, ⟨rfl, rfl, rfl⟩, rfl⟩) (Nat.le_of_ble_eq_true rfl) (Nat.le_of_ble_eq_true rfl) dX10_change_34
  · replace hR := ifn (by decide) hR
    refine W.eq (g2 := F0 m 5 ls [.int 1, .ref (a 0)]) rfl ?_
    refine lv_if_ne (tgt := 12) hx hb dX10_change_5 (by decide) (fun _ => ?_) (fun c23 => False.elim (by revert c23; decide))
    refine lv_iconst (v := 0) hx hb dX10_change_12 (by decide) ?_
    refine lv_iload_n hx hb dX10_change_13 rfl (lv_at hl 2 rfl) ?_
    refine lv_if_lt (tgt := 22) hx hb dX10_change_14 (by decide) (fun c24 => ?_) (fun c24 => ?_)
    · replace hR := ifp c24 hR
      refine lv_iconst (v := 1) hx hb dX10_change_22 (by decide) ?_
      refine lv_goto (tgt := 27) hx hb dX10_change_23 (by decide) ?_
      obtain ⟨x25, t26, hd27⟩ := ex2 (D_X10_isThrown_ (q 0) (q 1) (q 2) (q 3) 0 1)
      replace hR := bnd2_use hd27 hR
      refine call_V (n := 2) (k0 := 0) (As := [.int 0, .int 1]) (rest := []) hX hB (k_X10_isThrown_ κ l (mw κ a r f q (tb a) w) 0 (a 0) (a 1) (q 0) (q 1) (q 2) (q 3) 0 1 (mw0x (a := a) (r := r) (f := f) (q := q) (T := tb a) (w := w) rfl) x25 t26 hd27) ⟨rfl, yk_X10_isThrown_⟩ wm_5_192 wm_5_194 wp_27 wm_1_6 wm_5_195 ⟨Nat.le_of_ble_eq_true rfl, Nat.le_of_ble_eq_true rfl⟩ ⟨Nat.le_of_ble_eq_true rfl, Nat.le_of_ble_eq_true rfl⟩ (mw0x (a := a) (r := r) (f := f) (q := q) (T := tb a) (w := w) rfl) rfl rfl rfl hl.1 rfl (Nat.le_of_ble_eq_true rfl) dX10_change_27 (fun o w' H locs hp hB => ?_)
      obtain ⟨rfl, hf28, hw9⟩ := hp
      replace hB : Bd κ A s (mw κ a r f (va_up q 3 t26) (tb a) w) H locs := by exact Bd_eq (mwQ3x rfl _) (by rw [hw9] at hB; exact hB)
      obtain rfl : x25 = 1 := hf28.trans (by decide)
      refine W.eq (g2 := F0 m 30 ls [.int 1]) rfl ?_
      refine lv_if_eq (tgt := 35) hx hb dX10_change_30 (by decide) (fun c29 => False.elim (by revert c29; decide)) (fun _ => ?_)
      refine lv_iconst (v := 0) hx hb dX10_change_33 (by decide) ?_
      rw [← hQ]
      exact end_i hX hB hA3 rfl rfl (by obtain ⟨rfl, rfl⟩ := pr2 hR; exact ⟨rfl, ⟨rfl, rfl, rfl⟩, rfl⟩) (Nat.le_of_ble_eq_true rfl) (Nat.le_of_ble_eq_true rfl) dX10_change_34
    · replace hR := ifn c24 hR
      refine lv_iload_n hx hb dX10_change_17 rfl (lv_at hl 2 rfl) ?_
      refine lv_iconst (v := 4) hx hb dX10_change_18 (by decide) ?_
      refine lv_icmp_le (tgt := 26) hx hb dX10_change_19 (by decide) (fun c30 => ?_) (fun c30 => ?_)
      · replace hR := ifp c30 hR
        refine lv_iconst (v := 0) hx hb dX10_change_26 (by decide) ?_
        obtain ⟨x31, t32, hd33⟩ := ex2 (D_X10_isThrown_ (q 0) (q 1) (q 2) (q 3) 0 0)
        replace hR := bnd2_use hd33 hR
        refine call_V (n := 2) (k0 := 0) (As := [.int 0, .int 0]) (rest := []) hX hB (k_X10_isThrown_ κ l (mw κ a r f q (tb a) w) 0 (a 0) (a 1) (q 0) (q 1) (q 2) (q 3) 0 0 (mw0x (a := a) (r := r) (f := f) (q := q) (T := tb a) (w := w) rfl) x31 t32 hd33) ⟨rfl, yk_X10_isThrown_⟩ wm_5_192 wm_5_194 wp_27 wm_1_6 wm_5_195 ⟨Nat.le_of_ble_eq_true rfl, Nat.le_of_ble_eq_true rfl⟩ ⟨Nat.le_of_ble_eq_true rfl, Nat.le_of_ble_eq_true rfl⟩ (mw0x (a := a) (r := r) (f := f) (q := q) (T := tb a) (w := w) rfl) rfl rfl rfl hl.1 rfl (Nat.le_of_ble_eq_true rfl) dX10_change_27 (fun o w' H locs hp hB => ?_)
        obtain ⟨rfl, hf34, hw9⟩ := hp
        replace hB : Bd κ A s (mw κ a r f (va_up q 3 t32) (tb a) w) H locs := by exact Bd_eq (mwQ3x rfl _) (by rw [hw9] at hB; exact hB)
        obtain rfl : x31 = 0 := hf34.trans (by decide)
        refine W.eq (g2 := F0 m 30 ls [.int 0]) rfl ?_
        refine lv_if_eq (tgt := 35) hx hb dX10_change_30 (by decide) (fun _ => ?_) (fun c35 => False.elim (by revert c35; decide))
        refine lv_iload_n hx hb dX10_change_35 rfl (lv_at hl 2 rfl) ?_
        refine lv_if_eq (tgt := 44) hx hb dX10_change_36 (by decide) (fun c36 => ?_) (fun c36 => ?_)
        · replace hR := ifp c36 hR
          refine newO (fs := [.null, .null, .int 0, .int 0]) hX hB (ci := 9) rfl in8 tyX8_ok wm_6_127 wm_6_128 wm_1_15 df9 (Nat.le_of_ble_eq_true rfl) (Nat.le_of_ble_eq_true rfl) dX10_change_44 (fun q37 H hB => ?_)
          refine lv_dup hx hb dX10_change_47 rfl ?_
          refine lv_aload_n hx hb dX10_change_48 rfl (lv_at hl 0 rfl) ?_
          refine gf (k0 := 1) hX hB (mw0x (a := a) (r := r) (f := f) (q := (va_up q 3 t32)) (T := tb a) (w := w) rfl) rfl in10 0 (by decide) wm_5_162 rfl rfl dX10_change_49 ?_
          refine lv_iload_n hx hb dX10_change_52 rfl (lv_at hl 1 rfl) ?_
          refine aaldM (k0 := 2) hX hB (mw1 (a := a) (r := r) (f := f) (q := (va_up q 3 t32)) (T := tb a) (w := w)) (vp_in_mk (by assumption) (by assumption)) rfl dX10_change_53 ?_
          have hb38 := mok_r hm y.toNatClampNeg (by omega)
          obtain ⟨F43, F44, S45, G46, hd47⟩ := ex4 (D_X8_init (r (2 * y.toNatClampNeg)) (r (2 * y.toNatClampNeg + 1)) (f y.toNatClampNeg))
          replace hR := bnd4_use hd47 hR
          refine call_I (n := 1) (As := [.ref (a (2 + 2 * y.toNatClampNeg))]) (rest := [.ref q37]) hX hB (k_X8_init κ l (mw κ a r f (va_up q 3 t32) (tb a) w) q37 (2 + 2 * y.toNatClampNeg) (3 + 2 * y.toNatClampNeg) (a (2 + 2 * y.toNatClampNeg)) (a (3 + 2 * y.toNatClampNeg)) (r (2 * y.toNatClampNeg)) (r (2 * y.toNatClampNeg + 1)) (f y.toNatClampNeg) (mwG (i := y.toNatClampNeg) (a := a) (r := r) (f := f) (q := (va_up q 3 t32)) (T := tb a) (w := w) (by omega)) (mwA (i := y.toNatClampNeg) (a := a) (r := r) (f := f) (q := (va_up q 3 t32)) (T := tb a) (w := w) (by omega)) (mok_shp (i := y.toNatClampNeg) hm (by omega)) (fun k hk => sm_ng ((hm _ (by omega)).2 k hk)) F43 F44 S45 G46 hd47) yk_X8_init rfl wm_6_129 wm_6_130 wm_1_15 wm_6_131 ⟨Nat.le_of_ble_eq_true rfl, Nat.le_of_ble_eq_true rfl⟩ ⟨Nat.le_of_ble_eq_true rfl, Nat.le_of_ble_eq_true rfl⟩ rfl hl.1 rfl (Nat.le_of_ble_eq_true rfl) dX10_change_54 (fun o w' H locs hp hB => ?_)
          obtain ⟨g39, b40, g41, b42, rfl, hf48, hw9⟩ := hp
          replace hB : Bd κ A s (lA κ b40 ((r (2 * y.toNatClampNeg)) * 5) F43 :: gO g39 (r (2 * y.toNatClampNeg)) (r (2 * y.toNatClampNeg)) b40 :: lA κ b42 ((r (2 * y.toNatClampNeg)) * 5) F44 :: gO g41 (r (2 * y.toNatClampNeg)) (r (2 * y.toNatClampNeg + 1)) b42 :: (q37, .inr (9, [.ref g41, .ref g39, .int S45, .int G46])) :: mw κ a r f (va_up q 3 t32) (tb a) w) H locs := by rw [hw9] at hB; exact hB
          refine W.eq (g2 := F0 m 57 ls [.ref q37]) rfl ?_
          refine lv_astore_n (lv' := [(3, .ref q37), (0, .ref (a 0)), (1, .int y), (2, .int z)]) hx hb dX10_change_57 rfl hl (by decide) rfl (fun ls hl => ?_)
          refine lv_iload_n hx hb dX10_change_58 rfl (lv_at hl 3 rfl) ?_
          refine lv_if_ne (tgt := 75) hx hb dX10_change_59 (by decide) (fun c49 => False.elim (c49 c36)) (fun _ => ?_)
          refine lv_aload_n hx hb dX10_change_62 rfl (lv_at hl 0 rfl) ?_
          refine gf (k0 := 4) hX hB rfl rfl in8 3 (by decide) wm_6_166 rfl rfl dX10_change_63 ?_
          refine lv_if_eq (tgt := 73) hx hb dX10_change_66 (by decide) (fun c50 => ?_) (fun c50 => ?_)
          · replace hR := ifp c50 hR
            refine lv_iconst (v := 0) hx hb dX10_change_73 (by decide) ?_
            replace hB : Bd κ A s (lA κ b40 ((r (2 * y.toNatClampNeg)) * 5) F43 :: gO g39 (r (2 * y.toNatClampNeg)) (r (2 * y.toNatClampNeg)) b40 :: lA κ b42 ((r (2 * y.toNatClampNeg)) * 5) F44 :: gO g41 (r (2 * y.toNatClampNeg)) (r (2 * y.toNatClampNeg + 1)) b42 :: mw κ a r f (va_up q 3 t32) (tb a) w) H locs := Bd_del 4 hB
            replace hB : Bd κ A s (lA κ b40 ((r (2 * y.toNatClampNeg)) * 5) F43 :: gO g39 (r (2 * y.toNatClampNeg)) (r (2 * y.toNatClampNeg)) b40 :: lA κ b42 ((r (2 * y.toNatClampNeg)) * 5) F44 :: mw κ a r f (va_up q 3 t32) (tb a) w) H locs := Bd_del 3 hB
            replace hB : Bd κ A s (lA κ b40 ((r (2 * y.toNatClampNeg)) * 5) F43 :: gO g39 (r (2 * y.toNatClampNeg)) (r (2 * y.toNatClampNeg)) b40 :: mw κ a r f (va_up q 3 t32) (tb a) w) H locs := Bd_del 2 hB
            replace hB : Bd κ A s (lA κ b40 ((r (2 * y.toNatClampNeg)) * 5) F43 :: mw κ a r f (va_up q 3 t32) (tb a) w) H locs := Bd_del 1 hB
            replace hB : Bd κ A s (mw κ a r f (va_up q 3 t32) (tb a) w) H locs := Bd_del 0 hB
            rw [← hQ]
            exact end_i hX hB hA3 rfl rfl (by obtain ⟨rfl, rfl⟩ := pr2 hR; exact ⟨rfl, ⟨rfl, rfl, rfl⟩, rfl⟩) (Nat.le_of_ble_eq_true rfl) (Nat.le_of_ble_eq_true rfl) dX10_change_74
          · replace hR := ifn c50 hR
            refine lv_iconst (v := 1) hx hb dX10_change_69 (by decide) ?_
            refine lv_goto (tgt := 74) hx hb dX10_change_70 (by decide) ?_
            replace hB : Bd κ A s (lA κ b40 ((r (2 * y.toNatClampNeg)) * 5) F43 :: gO g39 (r (2 * y.toNatClampNeg)) (r (2 * y.toNatClampNeg)) b40 :: lA κ b42 ((r (2 * y.toNatClampNeg)) * 5) F44 :: gO g41 (r (2 * y.toNatClampNeg)) (r (2 * y.toNatClampNeg + 1)) b42 :: mw κ a r f (va_up q 3 t32) (tb a) w) H locs := Bd_del 4 hB
            replace hB : Bd κ A s (lA κ b40 ((r (2 * y.toNatClampNeg)) * 5) F43 :: gO g39 (r (2 * y.toNatClampNeg)) (r (2 * y.toNatClampNeg)) b40 :: lA κ b42 ((r (2 * y.toNatClampNeg)) * 5) F44 :: mw κ a r f (va_up q 3 t32) (tb a) w) H locs := Bd_del 3 hB
            replace hB : Bd κ A s (lA κ b40 ((r (2 * y.toNatClampNeg)) * 5) F43 :: gO g39 (r (2 * y.toNatClampNeg)) (r (2 * y.toNatClampNeg)) b40 :: mw κ a r f (va_up q 3 t32) (tb a) w) H locs := Bd_del 2 hB
            replace hB : Bd κ A s (lA κ b40 ((r (2 * y.toNatClampNeg)) * 5) F43 :: mw κ a r f (va_up q 3 t32) (tb a) w) H locs := Bd_del 1 hB
            replace hB : Bd κ A s (mw κ a r f (va_up q 3 t32) (tb a) w) H locs := Bd_del 0 hB
            rw [← hQ]
            exact end_i hX hB hA3 rfl rfl (by obtain ⟨rfl, rfl⟩ := pr2 hR; exact ⟨rfl, ⟨rfl, rfl, rfl⟩, rfl⟩) (Nat.le_of_ble_eq_true rfl) (Nat.le_of_ble_eq_true rfl) dX10_change_74
        · replace hR := ifn c36 hR
          refine lv_iload_n hx hb dX10_change_39 rfl (lv_at hl 2 rfl) ?_
          refine lv_iconst (v := 2) hx hb dX10_change_40 (by decide) ?_
          refine lv_icmp_ne (tgt := 97) hx hb dX10_change_41 (by decide) (fun c51 => ?_) (fun c51 => ?_)
          · replace hR := ifn c51 hR
            refine newO (fs := [.null, .null, .null, .int 0, .int 0, .int 0, .int 0]) hX hB (ci := 10) rfl in9 tyX9_ok wm_6_176 wm_6_177 wm_1_16 df10 (Nat.le_of_ble_eq_true rfl) (Nat.le_of_ble_eq_true rfl) dX10_change_97 (fun q52 H hB => ?_)
            refine lv_dup hx hb dX10_change_100 rfl ?_
            refine lv_aload_n hx hb dX10_change_101 rfl (lv_at hl 0 rfl) ?_
            refine gf (k0 := 1) hX hB (mw0x (a := a) (r := r) (f := f) (q := (va_up q 3 t32)) (T := tb a) (w := w) rfl) rfl in10 0 (by decide) wm_5_162 rfl rfl dX10_change_102 ?_
            refine lv_iload_n hx hb dX10_change_105 rfl (lv_at hl 1 rfl) ?_
            refine aaldM (k0 := 2) hX hB (mw1 (a := a) (r := r) (f := f) (q := (va_up q 3 t32)) (T := tb a) (w := w)) (vp_in_mk (by assumption) (by assumption)) rfl dX10_change_106 ?_
            have hb53 := mok_r hm y.toNatClampNeg (by omega)
            obtain ⟨F60, F61, F62, S63, S64, K65, G66, hd67⟩ := ex7 (D_X9_init (r (2 * y.toNatClampNeg)) (r (2 * y.toNatClampNeg + 1)) (f y.toNatClampNeg))
            replace hR := bnd7_use hd67 hR
            refine call_I (n := 1) (As := [.ref (a (2 + 2 * y.toNatClampNeg))]) (rest := [.ref q52]) hX hB (k_X9_init κ l (mw κ a r f (va_up q 3 t32) (tb a) w) q52 (2 + 2 * y.toNatClampNeg) (3 + 2 * y.toNatClampNeg) (a (2 + 2 * y.toNatClampNeg)) (a (3 + 2 * y.toNatClampNeg)) (r (2 * y.toNatClampNeg)) (r (2 * y.toNatClampNeg + 1)) (f y.toNatClampNeg) (mwG (i := y.toNatClampNeg) (a := a) (r := r) (f := f) (q := (va_up q 3 t32)) (T := tb a) (w := w) (by omega)) (mwA (i := y.toNatClampNeg) (a := a) (r := r) (f := f) (q := (va_up q 3 t32)) (T := tb a) (w := w) (by omega)) (mok_shp (i := y.toNatClampNeg) hm (by omega)) (by omega) (fun k hk => sm_ng ((hm _ (by omega)).2 k hk)) F60 F61 F62 S63 S64 K65 G66 hd67) yk_X9_init rfl wm_6_178 wm_6_179 wm_1_16 wm_6_180 ⟨Nat.le_of_ble_eq_true rfl, Nat.le_of_ble_eq_true rfl⟩ ⟨Nat.le_of_ble_eq_true rfl, Nat.le_of_ble_eq_true rfl⟩ rfl hl.1 rfl (Nat.le_of_ble_eq_true rfl) dX10_change_107 (fun o w' H locs hp hB => ?_)
            obtain ⟨g54, b55, g56, b57, g58, b59, rfl, hf68, hw9⟩ := hp
            replace hB : Bd κ A s (lA κ b55 ((r (2 * y.toNatClampNeg + 1)) * 5) F60 :: gO g54 (r (2 * y.toNatClampNeg + 1)) (r (2 * y.toNatClampNeg + 1)) b55 :: lA κ b57 ((r (2 * y.toNatClampNeg)) * 5) F61 :: gO g56 (r (2 * y.toNatClampNeg)) (r (2 * y.toNatClampNeg)) b57 :: lA κ b59 ((r (2 * y.toNatClampNeg)) * 5) F62 :: gO g58 (r (2 * y.toNatClampNeg)) (r (2 * y.toNatClampNeg + 1)) b59 :: (q52, .inr (10, [.ref g58, .ref g56, .ref g54, .int S63, .int S64, .int (nI K65), .int G66])) :: mw κ a r f (va_up q 3 t32) (tb a) w) H locs := by rw [hw9] at hB; exact hB
            refine W.eq (g2 := F0 m 110 ls [.ref q52]) rfl ?_
            refine lv_astore_n (lv' := [(3, .ref q52), (0, .ref (a 0)), (1, .int y), (2, .int z)]) hx hb dX10_change_110 rfl hl (by decide) rfl (fun ls hl => ?_)
            refine lv_iload_n hx hb dX10_change_111 rfl (lv_at hl 3 rfl) ?_
            refine lv_iconst (v := 1) hx hb dX10_change_112 (by decide) ?_
            refine lv_icmp_ne (tgt := 129) hx hb dX10_change_113 (by decide) (fun c69 => ?_) (fun c69 => ?_)
            · replace hR := ifn c69 hR
              refine lv_aload_n hx hb dX10_change_129 rfl (lv_at hl 1 rfl) ?_
              refine lv_iconst (v := 0) hx hb dX10_change_130 (by decide) ?_
              refine lv_iconst (v := 0) hx hb dX10_change_131 (by decide) ?_
              refine lv_aload_n hx hb dX10_change_132 rfl (lv_at hl 0 rfl) ?_
              refine gf (k0 := 6) hX hB rfl rfl in9 6 (by decide) wm_6_234 rfl rfl dX10_change_133 ?_
              obtain ⟨x70, t71, hd72⟩ := ex2 (D_X10_isThrown ((va_up q 3 t32) 0) ((va_up q 3 t32) 1) ((va_up q 3 t32) 2) ((va_up q 3 t32) 3) 0 0 G66)
              replace hR := bnd2_use hd72 hR
              refine call_V (n := 3) (k0 := 7) (As := [.int 0, .int 0, .int G66]) (rest := []) hX hB (k_X10_isThrown κ l (lA κ b55 ((r (2 * y.toNatClampNeg + 1)) * 5) F60 :: gO g54 (r (2 * y.toNatClampNeg + 1)) (r (2 * y.toNatClampNeg + 1)) b55 :: lA κ b57 ((r (2 * y.toNatClampNeg)) * 5) F61 :: gO g56 (r (2 * y.toNatClampNeg)) (r (2 * y.toNatClampNeg)) b57 :: lA κ b59 ((r (2 * y.toNatClampNeg)) * 5) F62 :: gO g58 (r (2 * y.toNatClampNeg)) (r (2 * y.toNatClampNeg + 1)) b59 :: (q52, .inr (10, [.ref g58, .ref g56, .ref g54, .int S63, .int S64, .int (nI K65), .int G66])) :: mw κ a r f (va_up q 3 t32) (tb a) w) 7 (a 0) (a 1) ((va_up q 3 t32) 0) ((va_up q 3 t32) 1) ((va_up q 3 t32) 2) ((va_up q 3 t32) 3) 0 0 G66 (mw0x (a := a) (r := r) (f := f) (q := (va_up q 3 t32)) (T := tb a) (w := w) rfl) x70 t71 hd72) ⟨rfl, yk_X10_isThrown⟩ wm_5_196 wm_5_198 wp_28 wm_1_6 wm_5_199 ⟨Nat.le_of_ble_eq_true rfl, Nat.le_of_ble_eq_true rfl⟩ ⟨Nat.le_of_ble_eq_true rfl, Nat.le_of_ble_eq_true rfl⟩ (mw0x (a := a) (r := r) (f := f) (q := (va_up q 3 t32)) (T := tb a) (w := w) rfl) rfl rfl rfl hl.1 rfl (Nat.le_of_ble_eq_true rfl) dX10_change_136 (fun o w' H locs hp hB => ?_)
              obtain ⟨rfl, hf73, hw9⟩ := hp
              replace hB : Bd κ A s (lA κ b55 ((r (2 * y.toNatClampNeg + 1)) * 5) F60 :: gO g54 (r (2 * y.toNatClampNeg + 1)) (r (2 * y.toNatClampNeg + 1)) b55 :: lA κ b57 ((r (2 * y.toNatClampNeg)) * 5) F61 :: gO g56 (r (2 * y.toNatClampNeg)) (r (2 * y.toNatClampNeg)) b57 :: lA κ b59 ((r (2 * y.toNatClampNeg)) * 5) F62 :: gO g58 (r (2 * y.toNatClampNeg)) (r (2 * y.toNatClampNeg + 1)) b59 :: (q52, .inr (10, [.ref g58, .ref g56, .ref g54, .int S63, .int S64, .int (nI K65), .int G66])) :: mw κ a r f (va_up (va_up q 3 t32) 3 t71) (tb a) w) H locs := by exact Bd_eq (congrArg (List.cons _) (congrArg (List.cons _) (congrArg (List.cons _) (congrArg (List.cons _) (congrArg (List.cons _) (congrArg (List.cons _) (congrArg (List.cons _) (mwQ3x rfl _)))))))) (by rw [hw9] at hB; exact hB)
              rcases thr_cases hf73 with ⟨rfl, hz74a, hz74b, hz74c⟩ | ⟨rfl, hz74⟩
              · replace hR := ifp rfl hR
                refine W.eq (g2 := F0 m 139 ls [.int 0]) rfl ?_
                refine lv_if_eq (tgt := 146) hx hb dX10_change_139 (by decide) (fun _ => ?_) (fun c75 => False.elim (by revert c75; decide))
                refine lv_iload_n hx hb dX10_change_146 rfl (lv_at hl 3 rfl) ?_
                refine lv_iconst (v := 3) hx hb dX10_change_147 (by decide) ?_
                refine lv_icmp_ne (tgt := 158) hx hb dX10_change_148 (by decide) (fun c76 => ?_) (fun c76 => ?_)
                · replace hR := ifn c76 hR
                  refine lv_aload_n hx hb dX10_change_158 rfl (lv_at hl 0 rfl) ?_
                  refine gf (k0 := 6) hX hB rfl rfl in9 4 (by decide) wm_6_230 rfl rfl dX10_change_159 ?_
                  replace hB : Bd κ A s (lA κ b55 ((r (2 * y.toNatClampNeg + 1)) * 5) F60 :: gO g54 (r (2 * y.toNatClampNeg + 1)) (r (2 * y.toNatClampNeg + 1)) b55 :: lA κ b57 ((r (2 * y.toNatClampNeg)) * 5) F61 :: gO g56 (r (2 * y.toNatClampNeg)) (r (2 * y.toNatClampNeg)) b57 :: lA κ b59 ((r (2 * y.toNatClampNeg)) * 5) F62 :: gO g58 (r (2 * y.toNatClampNeg)) (r (2 * y.toNatClampNeg + 1)) b59 :: mw κ a r f (va_up (va_up q 3 t32) 3 t71) (tb a) w) H locs := Bd_del 6 hB
                  replace hB : Bd κ A s (lA κ b55 ((r (2 * y.toNatClampNeg + 1)) * 5) F60 :: gO g54 (r (2 * y.toNatClampNeg + 1)) (r (2 * y.toNatClampNeg + 1)) b55 :: lA κ b57 ((r (2 * y.toNatClampNeg)) * 5) F61 :: gO g56 (r (2 * y.toNatClampNeg)) (r (2 * y.toNatClampNeg)) b57 :: lA κ b59 ((r (2 * y.toNatClampNeg)) * 5) F62 :: mw κ a r f (va_up (va_up q 3 t32) 3 t71) (tb a) w) H locs := Bd_del 5 hB
                  replace hB : Bd κ A s (lA κ b55 ((r (2 * y.toNatClampNeg + 1)) * 5) F60 :: gO g54 (r (2 * y.toNatClampNeg + 1)) (r (2 * y.toNatClampNeg + 1)) b55 :: lA κ b57 ((r (2 * y.toNatClampNeg)) * 5) F61 :: gO g56 (r (2 * y.toNatClampNeg)) (r (2 * y.toNatClampNeg)) b57 :: mw κ a r f (va_up (va_up q 3 t32) 3 t71) (tb a) w) H locs := Bd_del 4 hB
                  replace hB : Bd κ A s (lA κ b55 ((r (2 * y.toNatClampNeg + 1)) * 5) F60 :: gO g54 (r (2 * y.toNatClampNeg + 1)) (r (2 * y.toNatClampNeg + 1)) b55 :: lA κ b57 ((r (2 * y.toNatClampNeg)) * 5) F61 :: mw κ a r f (va_up (va_up q 3 t32) 3 t71) (tb a) w) H locs := Bd_del 3 hB
                  replace hB : Bd κ A s (lA κ b55 ((r (2 * y.toNatClampNeg + 1)) * 5) F60 :: gO g54 (r (2 * y.toNatClampNeg + 1)) (r (2 * y.toNatClampNeg + 1)) b55 :: mw κ a r f (va_up (va_up q 3 t32) 3 t71) (tb a) w) H locs := Bd_del 2 hB
                  replace hB : Bd κ A s (lA κ b55 ((r (2 * y.toNatClampNeg + 1)) * 5) F60 :: mw κ a r f (va_up (va_up q 3 t32) 3 t71) (tb a) w) H locs := Bd_del 1 hB
                  replace hB : Bd κ A s (mw κ a r f (va_up (va_up q 3 t32) 3 t71) (tb a) w) H locs := Bd_del 0 hB
                  rw [← hQ]
                  exact end_i hX hB hA3 rfl rfl (by obtain ⟨rfl, rfl⟩ := pr2 hR; exact ⟨rfl, ⟨rfl, rfl, rfl⟩, rfl⟩) (Nat.le_of_ble_eq_true rfl) (Nat.le_of_ble_eq_true rfl) dX10_change_162
                · replace hR := ifp c76 hR
                  refine lv_aload_n hx hb dX10_change_151 rfl (lv_at hl 0 rfl) ?_
                  refine gf (k0 := 6) hX hB rfl rfl in9 3 (by decide) wm_6_228 rfl rfl dX10_change_152 ?_
                  refine lv_goto (tgt := 162) hx hb dX10_change_155 (by decide) ?_
                  replace hB : Bd κ A s (lA κ b55 ((r (2 * y.toNatClampNeg + 1)) * 5) F60 :: gO g54 (r (2 * y.toNatClampNeg + 1)) (r (2 * y.toNatClampNeg + 1)) b55 :: lA κ b57 ((r (2 * y.toNatClampNeg)) * 5) F61 :: gO g56 (r (2 * y.toNatClampNeg)) (r (2 * y.toNatClampNeg)) b57 :: lA κ b59 ((r (2 * y.toNatClampNeg)) * 5) F62 :: gO g58 (r (2 * y.toNatClampNeg)) (r (2 * y.toNatClampNeg + 1)) b59 :: mw κ a r f (va_up (va_up q 3 t32) 3 t71) (tb a) w) H locs := Bd_del 6 hB
                  replace hB : Bd κ A s (lA κ b55 ((r (2 * y.toNatClampNeg + 1)) * 5) F60 :: gO g54 (r (2 * y.toNatClampNeg + 1)) (r (2 * y.toNatClampNeg + 1)) b55 :: lA κ b57 ((r (2 * y.toNatClampNeg)) * 5) F61 :: gO g56 (r (2 * y.toNatClampNeg)) (r (2 * y.toNatClampNeg)) b57 :: lA κ b59 ((r (2 * y.toNatClampNeg)) * 5) F62 :: mw κ a r f (va_up (va_up q 3 t32) 3 t71) (tb a) w) H locs := Bd_del 5 hB
                  replace hB : Bd κ A s (lA κ b55 ((r (2 * y.toNatClampNeg + 1)) * 5) F60 :: gO g54 (r (2 * y.toNatClampNeg + 1)) (r (2 * y.toNatClampNeg + 1)) b55 :: lA κ b57 ((r (2 * y.toNatClampNeg)) * 5) F61 :: gO g56 (r (2 * y.toNatClampNeg)) (r (2 * y.toNatClampNeg)) b57 :: mw κ a r f (va_up (va_up q 3 t32) 3 t71) (tb a) w) H locs := Bd_del 4 hB
                  replace hB : Bd κ A s (lA κ b55 ((r (2 * y.toNatClampNeg + 1)) * 5) F60 :: gO g54 (r (2 * y.toNatClampNeg + 1)) (r (2 * y.toNatClampNeg + 1)) b55 :: lA κ b57 ((r (2 * y.toNatClampNeg)) * 5) F61 :: mw κ a r f (va_up (va_up q 3 t32) 3 t71) (tb a) w) H locs := Bd_del 3 hB
                  replace hB : Bd κ A s (lA κ b55 ((r (2 * y.toNatClampNeg + 1)) * 5) F60 :: gO g54 (r (2 * y.toNatClampNeg + 1)) (r (2 * y.toNatClampNeg + 1)) b55 :: mw κ a r f (va_up (va_up q 3 t32) 3 t71) (tb a) w) H locs := Bd_del 2 hB
                  replace hB : Bd κ A s (lA κ b55 ((r (2 * y.toNatClampNeg + 1)) * 5) F60 :: mw κ a r f (va_up (va_up q 3 t32) 3 t71) (tb a) w) H locs := Bd_del 1 hB
                  replace hB : Bd κ A s (mw κ a r f (va_up (va_up q 3 t32) 3 t71) (tb a) w) H locs := Bd_del 0 hB
                  rw [← hQ]
                  exact end_i hX hB hA3 rfl rfl (by obtain ⟨rfl, rfl⟩ := pr2 hR; exact ⟨rfl, ⟨rfl, rfl, rfl⟩, rfl⟩) (Nat.le_of_ble_eq_true rfl) (Nat.le_of_ble_eq_true rfl) dX10_change_162
              · replace hR := ifn (by decide) hR
                refine W.eq (g2 := F0 m 139 ls [.int 1]) rfl ?_
                refine lv_if_eq (tgt := 146) hx hb dX10_change_139 (by decide) (fun c77 => False.elim (by revert c77; decide)) (fun _ => ?_)
                refine lv_iconst (v := 0) hx hb dX10_change_142 (by decide) ?_
                refine lv_goto (tgt := 162) hx hb dX10_change_143 (by decide) ?_
                replace hB : Bd κ A s (lA κ b55 ((r (2 * y.toNatClampNeg + 1)) * 5) F60 :: gO g54 (r (2 * y.toNatClampNeg + 1)) (r (2 * y.toNatClampNeg + 1)) b55 :: lA κ b57 ((r (2 * y.toNatClampNeg)) * 5) F61 :: gO g56 (r (2 * y.toNatClampNeg)) (r (2 * y.toNatClampNeg)) b57 :: lA κ b59 ((r (2 * y.toNatClampNeg)) * 5) F62 :: gO g58 (r (2 * y.toNatClampNeg)) (r (2 * y.toNatClampNeg + 1)) b59 :: mw κ a r f (va_up (va_up q 3 t32) 3 t71) (tb a) w) H locs := Bd_del 6 hB
                replace hB : Bd κ A s (lA κ b55 ((r (2 * y.toNatClampNeg + 1)) * 5) F60 :: gO g54 (r (2 * y.toNatClampNeg + 1)) (r (2 * y.toNatClampNeg + 1)) b55 :: lA κ b57 ((r (2 * y.toNatClampNeg)) * 5) F61 :: gO g56 (r (2 * y.toNatClampNeg)) (r (2 * y.toNatClampNeg)) b57 :: lA κ b59 ((r (2 * y.toNatClampNeg)) * 5) F62 :: mw κ a r f (va_up (va_up q 3 t32) 3 t71) (tb a) w) H locs := Bd_del 5 hB
                replace hB : Bd κ A s (lA κ b55 ((r (2 * y.toNatClampNeg + 1)) * 5) F60 :: gO g54 (r (2 * y.toNatClampNeg + 1)) (r (2 * y.toNatClampNeg + 1)) b55 :: lA κ b57 ((r (2 * y.toNatClampNeg)) * 5) F61 :: gO g56 (r (2 * y.toNatClampNeg)) (r (2 * y.toNatClampNeg)) b57 :: mw κ a r f (va_up (va_up q 3 t32) 3 t71) (tb a) w) H locs := Bd_del 4 hB
                replace hB : Bd κ A s (lA κ b55 ((r (2 * y.toNatClampNeg + 1)) * 5) F60 :: gO g54 (r (2 * y.toNatClampNeg + 1)) (r (2 * y.toNatClampNeg + 1)) b55 :: lA κ b57 ((r (2 * y.toNatClampNeg)) * 5) F61 :: mw κ a r f (va_up (va_up q 3 t32) 3 t71) (tb a) w) H locs := Bd_del 3 hB
                replace hB : Bd κ A s (lA κ b55 ((r (2 * y.toNatClampNeg + 1)) * 5) F60 :: gO g54 (r (2 * y.toNatClampNeg + 1)) (r (2 * y.toNatClampNeg + 1)) b55 :: mw κ a r f (va_up (va_up q 3 t32) 3 t71) (tb a) w) H locs := Bd_del 2 hB
                replace hB : Bd κ A s (lA κ b55 ((r (2 * y.toNatClampNeg + 1)) * 5) F60 :: mw κ a r f (va_up (va_up q 3 t32) 3 t71) (tb a) w) H locs := Bd_del 1 hB
                replace hB : Bd κ A s (mw κ a r f (va_up (va_up q 3 t32) 3 t71) (tb a) w) H locs := Bd_del 0 hB
                rw [← hQ]
                exact end_i hX hB hA3 rfl rfl (by obtain ⟨rfl, rfl⟩ := pr2 hR; exact ⟨rfl, ⟨rfl, rfl, rfl⟩, rfl⟩) (Nat.le_of_ble_eq_true rfl) (Nat.le_of_ble_eq_true rfl) dX10_change_162
            · replace hR := ifp c69 hR
              refine lv_aload_n hx hb dX10_change_116 rfl (lv_at hl 0 rfl) ?_
              refine gf (k0 := 6) hX hB rfl rfl in9 6 (by decide) wm_6_234 rfl rfl dX10_change_117 ?_
              refine lv_if_eq (tgt := 127) hx hb dX10_change_120 (by decide) (fun c78 => ?_) (fun c78 => ?_)
              · replace hR := ifp c78 hR
                refine lv_iconst (v := 0) hx hb dX10_change_127 (by decide) ?_
                replace hB : Bd κ A s (lA κ b55 ((r (2 * y.toNatClampNeg + 1)) * 5) F60 :: gO g54 (r (2 * y.toNatClampNeg + 1)) (r (2 * y.toNatClampNeg + 1)) b55 :: lA κ b57 ((r (2 * y.toNatClampNeg)) * 5) F61 :: gO g56 (r (2 * y.toNatClampNeg)) (r (2 * y.toNatClampNeg)) b57 :: lA κ b59 ((r (2 * y.toNatClampNeg)) * 5) F62 :: gO g58 (r (2 * y.toNatClampNeg)) (r (2 * y.toNatClampNeg + 1)) b59 :: mw κ a r f (va_up q 3 t32) (tb a) w) H locs := Bd_del 6 hB
                replace hB : Bd κ A s (lA κ b55 ((r (2 * y.toNatClampNeg + 1)) * 5) F60 :: gO g54 (r (2 * y.toNatClampNeg + 1)) (r (2 * y.toNatClampNeg + 1)) b55 :: lA κ b57 ((r (2 * y.toNatClampNeg)) * 5) F61 :: gO g56 (r (2 * y.toNatClampNeg)) (r (2 * y.toNatClampNeg)) b57 :: lA κ b59 ((r (2 * y.toNatClampNeg)) * 5) F62 :: mw κ a r f (va_up q 3 t32) (tb a) w) H locs := Bd_del 5 hB
                replace hB : Bd κ A s (lA κ b55 ((r (2 * y.toNatClampNeg + 1)) * 5) F60 :: gO g54 (r (2 * y.toNatClampNeg + 1)) (r (2 * y.toNatClampNeg + 1)) b55 :: lA κ b57 ((r (2 * y.toNatClampNeg)) * 5) F61 :: gO g56 (r (2 * y.toNatClampNeg)) (r (2 * y.toNatClampNeg)) b57 :: mw κ a r f (va_up q 3 t32) (tb a) w) H locs := Bd_del 4 hB
                replace hB : Bd κ A s (lA κ b55 ((r (2 * y.toNatClampNeg + 1)) * 5) F60 :: gO g54 (r (2 * y.toNatClampNeg + 1)) (r (2 * y.toNatClampNeg + 1)) b55 :: lA κ b57 ((r (2 * y.toNatClampNeg)) * 5) F61 :: mw κ a r f (va_up q 3 t32) (tb a) w) H locs := Bd_del 3 hB
                replace hB : Bd κ A s (lA κ b55 ((r (2 * y.toNatClampNeg + 1)) * 5) F60 :: gO g54 (r (2 * y.toNatClampNeg + 1)) (r (2 * y.toNatClampNeg + 1)) b55 :: mw κ a r f (va_up q 3 t32) (tb a) w) H locs := Bd_del 2 hB
                replace hB : Bd κ A s (lA κ b55 ((r (2 * y.toNatClampNeg + 1)) * 5) F60 :: mw κ a r f (va_up q 3 t32) (tb a) w) H locs := Bd_del 1 hB
                replace hB : Bd κ A s (mw κ a r f (va_up q 3 t32) (tb a) w) H locs := Bd_del 0 hB
                rw [← hQ]
                exact end_i hX hB hA3 rfl rfl (by obtain ⟨rfl, rfl⟩ := pr2 hR; exact ⟨rfl, ⟨rfl, rfl, rfl⟩, rfl⟩) (Nat.le_of_ble_eq_true rfl) (Nat.le_of_ble_eq_true rfl) dX10_change_128
              · replace hR := ifn c78 hR
                refine lv_iconst (v := 1) hx hb dX10_change_123 (by decide) ?_
                refine lv_goto (tgt := 128) hx hb dX10_change_124 (by decide) ?_
                replace hB : Bd κ A s (lA κ b55 ((r (2 * y.toNatClampNeg + 1)) * 5) F60 :: gO g54 (r (2 * y.toNatClampNeg + 1)) (r (2 * y.toNatClampNeg + 1)) b55 :: lA κ b57 ((r (2 * y.toNatClampNeg)) * 5) F61 :: gO g56 (r (2 * y.toNatClampNeg)) (r (2 * y.toNatClampNeg)) b57 :: lA κ b59 ((r (2 * y.toNatClampNeg)) * 5) F62 :: gO g58 (r (2 * y.toNatClampNeg)) (r (2 * y.toNatClampNeg + 1)) b59 :: mw κ a r f (va_up q 3 t32) (tb a) w) H locs := Bd_del 6 hB
                replace hB : Bd κ A s (lA κ b55 ((r (2 * y.toNatClampNeg + 1)) * 5) F60 :: gO g54 (r (2 * y.toNatClampNeg + 1)) (r (2 * y.toNatClampNeg + 1)) b55 :: lA κ b57 ((r (2 * y.toNatClampNeg)) * 5) F61 :: gO g56 (r (2 * y.toNatClampNeg)) (r (2 * y.toNatClampNeg)) b57 :: lA κ b59 ((r (2 * y.toNatClampNeg)) * 5) F62 :: mw κ a r f (va_up q 3 t32) (tb a) w) H locs := Bd_del 5 hB
                replace hB : Bd κ A s (lA κ b55 ((r (2 * y.toNatClampNeg + 1)) * 5) F60 :: gO g54 (r (2 * y.toNatClampNeg + 1)) (r (2 * y.toNatClampNeg + 1)) b55 :: lA κ b57 ((r (2 * y.toNatClampNeg)) * 5) F61 :: gO g56 (r (2 * y.toNatClampNeg)) (r (2 * y.toNatClampNeg)) b57 :: mw κ a r f (va_up q 3 t32) (tb a) w) H locs := Bd_del 4 hB
                replace hB : Bd κ A s (lA κ b55 ((r (2 * y.toNatClampNeg + 1)) * 5) F60 :: gO g54 (r (2 * y.toNatClampNeg + 1)) (r (2 * y.toNatClampNeg + 1)) b55 :: lA κ b57 ((r (2 * y.toNatClampNeg)) * 5) F61 :: mw κ a r f (va_up q 3 t32) (tb a) w) H locs := Bd_del 3 hB
                replace hB : Bd κ A s (lA κ b55 ((r (2 * y.toNatClampNeg + 1)) * 5) F60 :: gO g54 (r (2 * y.toNatClampNeg + 1)) (r (2 * y.toNatClampNeg + 1)) b55 :: mw κ a r f (va_up q 3 t32) (tb a) w) H locs := Bd_del 2 hB
                replace hB : Bd κ A s (lA κ b55 ((r (2 * y.toNatClampNeg + 1)) * 5) F60 :: mw κ a r f (va_up q 3 t32) (tb a) w) H locs := Bd_del 1 hB
                replace hB : Bd κ A s (mw κ a r f (va_up q 3 t32) (tb a) w) H locs := Bd_del 0 hB
                rw [← hQ]
                exact end_i hX hB hA3 rfl rfl (by obtain ⟨rfl, rfl⟩ := pr2 hR; exact ⟨rfl, ⟨rfl, rfl, rfl⟩, rfl⟩) (Nat.le_of_ble_eq_true rfl) (Nat.le_of_ble_eq_true rfl) dX10_change_128
          · replace hR := ifp c51 hR
            refine newO (fs := [.null, .null, .int 0, .int 0]) hX hB (ci := 9) rfl in8 tyX8_ok wm_6_127 wm_6_128 wm_1_15 df9 (Nat.le_of_ble_eq_true rfl) (Nat.le_of_ble_eq_true rfl) dX10_change_44 (fun q79 H hB => ?_)
            refine lv_dup hx hb dX10_change_47 rfl ?_
            refine lv_aload_n hx hb dX10_change_48 rfl (lv_at hl 0 rfl) ?_
            refine gf (k0 := 1) hX hB (mw0x (a := a) (r := r) (f := f) (q := (va_up q 3 t32)) (T := tb a) (w := w) rfl) rfl in10 0 (by decide) wm_5_162 rfl rfl dX10_change_49 ?_
            refine lv_iload_n hx hb dX10_change_52 rfl (lv_at hl 1 rfl) ?_
            refine aaldM (k0 := 2) hX hB (mw1 (a := a) (r := r) (f := f) (q := (va_up q 3 t32)) (T := tb a) (w := w)) (vp_in_mk (by assumption) (by assumption)) rfl dX10_change_53 ?_
            have hb80 := mok_r hm y.toNatClampNeg (by omega)
            obtain ⟨F85, F86, S87, G88, hd89⟩ := ex4 (D_X8_init (r (2 * y.toNatClampNeg)) (r (2 * y.toNatClampNeg + 1)) (f y.toNatClampNeg))
            replace hR := bnd4_use hd89 hR
            refine call_I (n := 1) (As := [.ref (a (2 + 2 * y.toNatClampNeg))]) (rest := [.ref q79]) hX hB (k_X8_init κ l (mw κ a r f (va_up q 3 t32) (tb a) w) q79 (2 + 2 * y.toNatClampNeg) (3 + 2 * y.toNatClampNeg) (a (2 + 2 * y.toNatClampNeg)) (a (3 + 2 * y.toNatClampNeg)) (r (2 * y.toNatClampNeg)) (r (2 * y.toNatClampNeg + 1)) (f y.toNatClampNeg) (mwG (i := y.toNatClampNeg) (a := a) (r := r) (f := f) (q := (va_up q 3 t32)) (T := tb a) (w := w) (by omega)) (mwA (i := y.toNatClampNeg) (a := a) (r := r) (f := f) (q := (va_up q 3 t32)) (T := tb a) (w := w) (by omega)) (mok_shp (i := y.toNatClampNeg) hm (by omega)) (fun k hk => sm_ng ((hm _ (by omega)).2 k hk)) F85 F86 S87 G88 hd89) yk_X8_init rfl wm_6_129 wm_6_130 wm_1_15 wm_6_131 ⟨Nat.le_of_ble_eq_true rfl, Nat.le_of_ble_eq_true rfl⟩ ⟨Nat.le_of_ble_eq_true rfl, Nat.le_of_ble_eq_true rfl⟩ rfl hl.1 rfl (Nat.le_of_ble_eq_true rfl) dX10_change_54 (fun o w' H locs hp hB => ?_)
            obtain ⟨g81, b82, g83, b84, rfl, hf90, hw9⟩ := hp
            replace hB : Bd κ A s (lA κ b82 ((r (2 * y.toNatClampNeg)) * 5) F85 :: gO g81 (r (2 * y.toNatClampNeg)) (r (2 * y.toNatClampNeg)) b82 :: lA κ b84 ((r (2 * y.toNatClampNeg)) * 5) F86 :: gO g83 (r (2 * y.toNatClampNeg)) (r (2 * y.toNatClampNeg + 1)) b84 :: (q79, .inr (9, [.ref g83, .ref g81, .int S87, .int G88])) :: mw κ a r f (va_up q 3 t32) (tb a) w) H locs := by rw [hw9] at hB; exact hB
            refine W.eq (g2 := F0 m 57 ls [.ref q79]) rfl ?_
            refine lv_astore_n (lv' := [(3, .ref q79), (0, .ref (a 0)), (1, .int y), (2, .int z)]) hx hb dX10_change_57 rfl hl (by decide) rfl (fun ls hl => ?_)
            refine lv_iload_n hx hb dX10_change_58 rfl (lv_at hl 3 rfl) ?_
            refine lv_if_ne (tgt := 75) hx hb dX10_change_59 (by decide) (fun _ => ?_) (fun c91 => False.elim (c36 c91))
            refine lv_aload_n hx hb dX10_change_75 rfl (lv_at hl 1 rfl) ?_
            refine lv_iconst (v := 0) hx hb dX10_change_76 (by decide) ?_
            refine lv_iconst (v := 0) hx hb dX10_change_77 (by decide) ?_
            refine lv_aload_n hx hb dX10_change_78 rfl (lv_at hl 0 rfl) ?_
            refine gf (k0 := 4) hX hB rfl rfl in8 3 (by decide) wm_6_166 rfl rfl dX10_change_79 ?_
            obtain ⟨x92, t93, hd94⟩ := ex2 (D_X10_isThrown ((va_up q 3 t32) 0) ((va_up q 3 t32) 1) ((va_up q 3 t32) 2) ((va_up q 3 t32) 3) 0 0 G88)
            replace hR := bnd2_use hd94 hR
            refine call_V (n := 3) (k0 := 5) (As := [.int 0, .int 0, .int G88]) (rest := []) hX hB (k_X10_isThrown κ l (lA κ b82 ((r (2 * y.toNatClampNeg)) * 5) F85 :: gO g81 (r (2 * y.toNatClampNeg)) (r (2 * y.toNatClampNeg)) b82 :: lA κ b84 ((r (2 * y.toNatClampNeg)) * 5) F86 :: gO g83 (r (2 * y.toNatClampNeg)) (r (2 * y.toNatClampNeg + 1)) b84 :: (q79, .inr (9, [.ref g83, .ref g81, .int S87, .int G88])) :: mw κ a r f (va_up q 3 t32) (tb a) w) 5 (a 0) (a 1) ((va_up q 3 t32) 0) ((va_up q 3 t32) 1) ((va_up q 3 t32) 2) ((va_up q 3 t32) 3) 0 0 G88 (mw0x (a := a) (r := r) (f := f) (q := (va_up q 3 t32)) (T := tb a) (w := w) rfl) x92 t93 hd94) ⟨rfl, yk_X10_isThrown⟩ wm_5_196 wm_5_198 wp_28 wm_1_6 wm_5_199 ⟨Nat.le_of_ble_eq_true rfl, Nat.le_of_ble_eq_true rfl⟩ ⟨Nat.le_of_ble_eq_true rfl, Nat.le_of_ble_eq_true rfl⟩ (mw0x (a := a) (r := r) (f := f) (q := (va_up q 3 t32)) (T := tb a) (w := w) rfl) rfl rfl rfl hl.1 rfl (Nat.le_of_ble_eq_true rfl) dX10_change_82 (fun o w' H locs hp hB => ?_)
            obtain ⟨rfl, hf95, hw9⟩ := hp
            replace hB : Bd κ A s (lA κ b82 ((r (2 * y.toNatClampNeg)) * 5) F85 :: gO g81 (r (2 * y.toNatClampNeg)) (r (2 * y.toNatClampNeg)) b82 :: lA κ b84 ((r (2 * y.toNatClampNeg)) * 5) F86 :: gO g83 (r (2 * y.toNatClampNeg)) (r (2 * y.toNatClampNeg + 1)) b84 :: (q79, .inr (9, [.ref g83, .ref g81, .int S87, .int G88])) :: mw κ a r f (va_up (va_up q 3 t32) 3 t93) (tb a) w) H locs := by exact Bd_eq (congrArg (List.cons _) (congrArg (List.cons _) (congrArg (List.cons _) (congrArg (List.cons _) (congrArg (List.cons _) (mwQ3x rfl _)))))) (by rw [hw9] at hB; exact hB)
            rcases thr_cases hf95 with ⟨rfl, hz96a, hz96b, hz96c⟩ | ⟨rfl, hz96⟩
            · replace hR := ifp rfl hR
              refine W.eq (g2 := F0 m 85 ls [.int 0]) rfl ?_
              refine lv_if_eq (tgt := 92) hx hb dX10_change_85 (by decide) (fun _ => ?_) (fun c97 => False.elim (by revert c97; decide))
              refine lv_aload_n hx hb dX10_change_92 rfl (lv_at hl 0 rfl) ?_
              refine gf (k0 := 4) hX hB rfl rfl in8 2 (by decide) wm_6_164 rfl rfl dX10_change_93 ?_
              replace hB : Bd κ A s (lA κ b82 ((r (2 * y.toNatClampNeg)) * 5) F85 :: gO g81 (r (2 * y.toNatClampNeg)) (r (2 * y.toNatClampNeg)) b82 :: lA κ b84 ((r (2 * y.toNatClampNeg)) * 5) F86 :: gO g83 (r (2 * y.toNatClampNeg)) (r (2 * y.toNatClampNeg + 1)) b84 :: mw κ a r f (va_up (va_up q 3 t32) 3 t93) (tb a) w) H locs := Bd_del 4 hB
              replace hB : Bd κ A s (lA κ b82 ((r (2 * y.toNatClampNeg)) * 5) F85 :: gO g81 (r (2 * y.toNatClampNeg)) (r (2 * y.toNatClampNeg)) b82 :: lA κ b84 ((r (2 * y.toNatClampNeg)) * 5) F86 :: mw κ a r f (va_up (va_up q 3 t32) 3 t93) (tb a) w) H locs := Bd_del 3 hB
              replace hB : Bd κ A s (lA κ b82 ((r (2 * y.toNatClampNeg)) * 5) F85 :: gO g81 (r (2 * y.toNatClampNeg)) (r (2 * y.toNatClampNeg)) b82 :: mw κ a r f (va_up (va_up q 3 t32) 3 t93) (tb a) w) H locs := Bd_del 2 hB
              replace hB : Bd κ A s (lA κ b82 ((r (2 * y.toNatClampNeg)) * 5) F85 :: mw κ a r f (va_up (va_up q 3 t32) 3 t93) (tb a) w) H locs := Bd_del 1 hB
              replace hB : Bd κ A s (mw κ a r f (va_up (va_up q 3 t32) 3 t93) (tb a) w) H locs := Bd_del 0 hB
              rw [← hQ]
              exact end_i hX hB hA3 rfl rfl (by obtain ⟨rfl, rfl⟩ := pr2 hR; exact ⟨rfl, ⟨rfl, rfl, rfl⟩, rfl⟩) (Nat.le_of_ble_eq_true rfl) (Nat.le_of_ble_eq_true rfl) dX10_change_96
            · replace hR := ifn (by decide) hR
              refine W.eq (g2 := F0 m 85 ls [.int 1]) rfl ?_
              refine lv_if_eq (tgt := 92) hx hb dX10_change_85 (by decide) (fun c98 => False.elim (by revert c98; decide)) (fun _ => ?_)
              refine lv_iconst (v := 0) hx hb dX10_change_88 (by decide) ?_
              refine lv_goto (tgt := 96) hx hb dX10_change_89 (by decide) ?_
              replace hB : Bd κ A s (lA κ b82 ((r (2 * y.toNatClampNeg)) * 5) F85 :: gO g81 (r (2 * y.toNatClampNeg)) (r (2 * y.toNatClampNeg)) b82 :: lA κ b84 ((r (2 * y.toNatClampNeg)) * 5) F86 :: gO g83 (r (2 * y.toNatClampNeg)) (r (2 * y.toNatClampNeg + 1)) b84 :: mw κ a r f (va_up (va_up q 3 t32) 3 t93) (tb a) w) H locs := Bd_del 4 hB
              replace hB : Bd κ A s (lA κ b82 ((r (2 * y.toNatClampNeg)) * 5) F85 :: gO g81 (r (2 * y.toNatClampNeg)) (r (2 * y.toNatClampNeg)) b82 :: lA κ b84 ((r (2 * y.toNatClampNeg)) * 5) F86 :: mw κ a r f (va_up (va_up q 3 t32) 3 t93) (tb a) w) H locs := Bd_del 3 hB
              replace hB : Bd κ A s (lA κ b82 ((r (2 * y.toNatClampNeg)) * 5) F85 :: gO g81 (r (2 * y.toNatClampNeg)) (r (2 * y.toNatClampNeg)) b82 :: mw κ a r f (va_up (va_up q 3 t32) 3 t93) (tb a) w) H locs := Bd_del 2 hB
              replace hB : Bd κ A s (lA κ b82 ((r (2 * y.toNatClampNeg)) * 5) F85 :: mw κ a r f (va_up (va_up q 3 t32) 3 t93) (tb a) w) H locs := Bd_del 1 hB
              replace hB : Bd κ A s (mw κ a r f (va_up (va_up q 3 t32) 3 t93) (tb a) w) H locs := Bd_del 0 hB
              rw [← hQ]
              exact end_i hX hB hA3 rfl rfl (by obtain ⟨rfl, rfl⟩ := pr2 hR; exact ⟨rfl, ⟨rfl, rfl, rfl⟩, rfl⟩) (Nat.le_of_ble_eq_true rfl) (Nat.le_of_ble_eq_true rfl) dX10_change_96
      · replace hR := ifn c30 hR
        refine lv_iconst (v := 1) hx hb dX10_change_22 (by decide) ?_
        refine lv_goto (tgt := 27) hx hb dX10_change_23 (by decide) ?_
        obtain ⟨x99, t100, hd101⟩ := ex2 (D_X10_isThrown_ (q 0) (q 1) (q 2) (q 3) 0 1)
        replace hR := bnd2_use hd101 hR
        refine call_V (n := 2) (k0 := 0) (As := [.int 0, .int 1]) (rest := []) hX hB (k_X10_isThrown_ κ l (mw κ a r f q (tb a) w) 0 (a 0) (a 1) (q 0) (q 1) (q 2) (q 3) 0 1 (mw0x (a := a) (r := r) (f := f) (q := q) (T := tb a) (w := w) rfl) x99 t100 hd101) ⟨rfl, yk_X10_isThrown_⟩ wm_5_192 wm_5_194 wp_27 wm_1_6 wm_5_195 ⟨Nat.le_of_ble_eq_true rfl, Nat.le_of_ble_eq_true rfl⟩ ⟨Nat.le_of_ble_eq_true rfl, Nat.le_of_ble_eq_true rfl⟩ (mw0x (a := a) (r := r) (f := f) (q := q) (T := tb a) (w := w) rfl) rfl rfl rfl hl.1 rfl (Nat.le_of_ble_eq_true rfl) dX10_change_27 (fun o w' H locs hp hB => ?_)
        obtain ⟨rfl, hf102, hw9⟩ := hp
        replace hB : Bd κ A s (mw κ a r f (va_up q 3 t100) (tb a) w) H locs := by exact Bd_eq (mwQ3x rfl _) (by rw [hw9] at hB; exact hB)
        obtain rfl : x99 = 1 := hf102.trans (by decide)
        refine W.eq (g2 := F0 m 30 ls [.int 1]) rfl ?_
        refine lv_if_eq (tgt := 35) hx hb dX10_change_30 (by decide) (fun c103 => False.elim (by revert c103; decide)) (fun _ => ?_)
        refine lv_iconst (v := 0) hx hb dX10_change_33 (by decide) ?_
        rw [← hQ]
        exact end_i hX hB hA3 rfl rfl (by obtain ⟨rfl, rfl⟩ := pr2 hR; exact ⟨rfl, ⟨rfl, rfl, rfl⟩, rfl⟩) (Nat.le_of_ble_eq_true rfl) (Nat.le_of_ble_eq_true rfl) dX10_change_34
noncomputable def D_X10_isSolvable (r : Nat → Nat) (f : Nat → Nat → Int64) (q : Nat → Int32) (y : Int32) (z : Int32) (u : Int32) (v : Int32) : Int32 × (Nat → Int32) := bnd1 (D_X10_isTable y) (fun (z1 : Int32) => (if z1 = 0 then bnd2 (D_X10_isThrown__ (q 0) (q 1) (q 2) (q 3) 1) (fun (x6 : Int32) (t7 : Int32) => (0, va_up q 3 t7)) else bnd1 (D_X10_isColumn r f q z u) (fun (x12 : Int32) => (if x12 = 0 then bnd2 (D_X10_isThrown__ (q 0) (q 1) (q 2) (q 3) 1) (fun (x17 : Int32) (t18 : Int32) => (0, va_up q 3 t18)) else bnd2 (D_X10_isThrown__ (q 0) (q 1) (q 2) (q 3) 0) (fun (x23 : Int32) (t24 : Int32) => (if (r (2 * y.toNatClampNeg)) = (r (2 * z.toNatClampNeg)) then (if v < 0 then bnd2 (D_X10_isThrown_ ((va_up q 3 t24) 0) ((va_up q 3 t24) 1) ((va_up q 3 t24) 2) ((va_up q 3 t24) 3) 0 1) (fun (x37 : Int32) (t38 : Int32) => (0, va_up (va_up q 3 t24) 3 t38)) else (if v ≤ 1 then bnd2 (D_X10_isThrown_ ((va_up q 3 t24) 0) ((va_up q 3 t24) 1) ((va_up q 3 t24) 2) ((va_up q 3 t24) 3) 0 0) (fun (x43 : Int32) (t44 : Int32) => (if v = 1 then bnd1 (D_X10_column ((va_up (va_up q 3 t24) 3 t44) 0) ((va_up (va_up q 3 t24) 3 t44) 1) ((va_up (va_up q 3 t24) 3 t44) 2) ((va_up (va_up q 3 t24) 3 t44) 3) (r (2 * z.toNatClampNeg)) (r (2 * z.toNatClampNeg + 1)) (f z.toNatClampNeg) z ((u).toNatClampNeg)) (fun (F87 : Nat → Int64) => bnd1 (D_X10_isByDivisors (r (2 * y.toNatClampNeg)) (r (2 * y.toNatClampNeg + 1)) (f y.toNatClampNeg) (r (2 * z.toNatClampNeg)) 1 F87) (fun (x89 : Int32) => (if x89 = 0 then (0, va_up (va_up q 3 t24) 3 t44) else (1, va_up (va_up q 3 t24) 3 t44)))) else bnd7 (D_X9_init (r (2 * y.toNatClampNeg)) (r (2 * y.toNatClampNeg + 1)) (f y.toNatClampNeg)) (fun (F56 : Nat → Int64) (F57 : Nat → Int64) (F58 : Nat → Int64) (S59 : Int32) (S60 : Int32) (K61 : Nat) (G62 : Int32) => bnd2 (D_X10_isThrown ((va_up (va_up q 3 t24) 3 t44) 0) ((va_up (va_up q 3 t24) 3 t44) 1) ((va_up (va_up q 3 t24) 3 t44) 2) ((va_up (va_up q 3 t24) 3 t44) 3) 0 0 G62) (fun (x65 : Int32) (t66 : Int32) => (if x65 = 0 then bnd1 (D_X10_column ((va_up (va_up (va_up q 3 t24) 3 t44) 3 t66) 0) ((va_up (va_up (va_up q 3 t24) 3 t44) 3 t66) 1) ((va_up (va_up (va_up q 3 t24) 3 t44) 3 t66) 2) ((va_up (va_up (va_up q 3 t24) 3 t44) 3 t66) 3) (r (2 * z.toNatClampNeg)) (r (2 * z.toNatClampNeg + 1)) (f z.toNatClampNeg) z ((u).toNatClampNeg)) (fun (F73 : Nat → Int64) => bnd1 (D_X7_product (r (2 * y.toNatClampNeg)) (r (2 * y.toNatClampNeg)) F57 (r (2 * z.toNatClampNeg)) 1 F73) (fun (F77 : Nat → Int64) => bnd1 (D_X10_goes (r (2 * y.toNatClampNeg)) (r (2 * y.toNatClampNeg + 1)) F58 K61 S59 S60 G62 (r (2 * y.toNatClampNeg)) 1 F77) (fun (x79 : Int32) => (if x79 = 0 then (0, va_up (va_up (va_up q 3 t24) 3 t44) 3 t66) else (1, va_up (va_up (va_up q 3 t24) 3 t44) 3 t66))))) else (0, va_up (va_up (va_up q 3 t24) 3 t44) 3 t66)))))) else bnd2 (D_X10_isThrown_ ((va_up q 3 t24) 0) ((va_up q 3 t24) 1) ((va_up q 3 t24) 2) ((va_up q 3 t24) 3) 0 1) (fun (x92 : Int32) (t93 : Int32) => (0, va_up (va_up q 3 t24) 3 t93)))) else bnd2 (D_X10_isThrown_ ((va_up q 3 t24) 0) ((va_up q 3 t24) 1) ((va_up q 3 t24) 2) ((va_up q 3 t24) 3) 0 1) (fun (x31 : Int32) (t32 : Int32) => (0, va_up (va_up q 3 t24) 3 t32))))))))
theorem D_X10_isSolvable_s {r : Nat → Nat} {f : Nat → Nat → Int64} {q : Nat → Int32} {y : Int32} {z : Int32} {u : Int32} {v : Int32} : D_X10_isSolvable r f q y z u v = bnd1 (D_X10_isTable y) (fun (z1 : Int32) => (if z1 = 0 then bnd2 (D_X10_isThrown__ (q 0) (q 1) (q 2) (q 3) 1) (fun (x6 : Int32) (t7 : Int32) => (0, va_up q 3 t7)) else bnd1 (D_X10_isColumn r f q z u) (fun (x12 : Int32) => (if x12 = 0 then bnd2 (D_X10_isThrown__ (q 0) (q 1) (q 2) (q 3) 1) (fun (x17 : Int32) (t18 : Int32) => (0, va_up q 3 t18)) else bnd2 (D_X10_isThrown__ (q 0) (q 1) (q 2) (q 3) 0) (fun (x23 : Int32) (t24 : Int32) => (if (r (2 * y.toNatClampNeg)) = (r (2 * z.toNatClampNeg)) then (if v < 0 then bnd2 (D_X10_isThrown_ ((va_up q 3 t24) 0) ((va_up q 3 t24) 1) ((va_up q 3 t24) 2) ((va_up q 3 t24) 3) 0 1) (fun (x37 : Int32) (t38 : Int32) => (0, va_up (va_up q 3 t24) 3 t38)) else (if v ≤ 1 then bnd2 (D_X10_isThrown_ ((va_up q 3 t24) 0) ((va_up q 3 t24) 1) ((va_up q 3 t24) 2) ((va_up q 3 t24) 3) 0 0) (fun (x43 : Int32) (t44 : Int32) => (if v = 1 then bnd1 (D_X10_column ((va_up (va_up q 3 t24) 3 t44) 0) ((va_up (va_up q 3 t24) 3 t44) 1) ((va_up (va_up q 3 t24) 3 t44) 2) ((va_up (va_up q 3 t24) 3 t44) 3) (r (2 * z.toNatClampNeg)) (r (2 * z.toNatClampNeg + 1)) (f z.toNatClampNeg) z ((u).toNatClampNeg)) (fun (F87 : Nat → Int64) => bnd1 (D_X10_isByDivisors (r (2 * y.toNatClampNeg)) (r (2 * y.toNatClampNeg + 1)) (f y.toNatClampNeg) (r (2 * z.toNatClampNeg)) 1 F87) (fun (x89 : Int32) => (if x89 = 0 then (0, va_up (va_up q 3 t24) 3 t44) else (1, va_up (va_up q 3 t24) 3 t44)))) else bnd7 (D_X9_init (r (2 * y.toNatClampNeg)) (r (2 * y.toNatClampNeg + 1)) (f y.toNatClampNeg)) (fun (F56 : Nat → Int64) (F57 : Nat → Int64) (F58 : Nat → Int64) (S59 : Int32) (S60 : Int32) (K61 : Nat) (G62 : Int32) => bnd2 (D_X10_isThrown ((va_up (va_up q 3 t24) 3 t44) 0) ((va_up (va_up q 3 t24) 3 t44) 1) ((va_up (va_up q 3 t24) 3 t44) 2) ((va_up (va_up q 3 t24) 3 t44) 3) 0 0 G62) (fun (x65 : Int32) (t66 : Int32) => (if x65 = 0 then bnd1 (D_X10_column ((va_up (va_up (va_up q 3 t24) 3 t44) 3 t66) 0) ((va_up (va_up (va_up q 3 t24) 3 t44) 3 t66) 1) ((va_up (va_up (va_up q 3 t24) 3 t44) 3 t66) 2) ((va_up (va_up (va_up q 3 t24) 3 t44) 3 t66) 3) (r (2 * z.toNatClampNeg)) (r (2 * z.toNatClampNeg + 1)) (f z.toNatClampNeg) z ((u).toNatClampNeg)) (fun (F73 : Nat → Int64) => bnd1 (D_X7_product (r (2 * y.toNatClampNeg)) (r (2 * y.toNatClampNeg)) F57 (r (2 * z.toNatClampNeg)) 1 F73) (fun (F77 : Nat → Int64) => bnd1 (D_X10_goes (r (2 * y.toNatClampNeg)) (r (2 * y.toNatClampNeg + 1)) F58 K61 S59 S60 G62 (r (2 * y.toNatClampNeg)) 1 F77) (fun (x79 : Int32) => (if x79 = 0 then (0, va_up (va_up (va_up q 3 t24) 3 t44) 3 t66) else (1, va_up (va_up (va_up q 3 t24) 3 t44) 3 t66))))) else (0, va_up (va_up (va_up q 3 t24) 3 t44) 3 t66)))))) else bnd2 (D_X10_isThrown_ ((va_up q 3 t24) 0) ((va_up q 3 t24) 1) ((va_up q 3 t24) 2) ((va_up q 3 t24) 3) 0 1) (fun (x92 : Int32) (t93 : Int32) => (0, va_up (va_up q 3 t24) 3 t93)))) else bnd2 (D_X10_isThrown_ ((va_up q 3 t24) 0) ((va_up q 3 t24) 1) ((va_up q 3 t24) 2) ((va_up q 3 t24) 3) 0 1) (fun (x31 : Int32) (t32 : Int32) => (0, va_up (va_up q 3 t24) 3 t32)))))))) := rfl
set_option maxHeartbeats 4000000 in
set_option maxRecDepth 100000 in
theorem k_X10_isSolvable (κ : Kt) (l : Launch) (w : va_W) (a r : Nat → Nat) (f : Nat → Nat → Int64) (q : Nat → Int32) (y : Int32) (z : Int32) (u : Int32) (v : Int32) (hm : mok r f) (o_x : Int32) (o_q' : Nat → Int32) (hR : D_X10_isSolvable r f q y z u v = (o_x, o_q')) : CM κ l yX10_isSolvable cX10_isSolvable 7 (some .boolean) 133 3061 11 122 [.ref (a 0), .int y, .int z, .int u, .int v] (mw κ a r f q (tb a) w) (fun o w' => o = some (.int o_x) ∧ (o_x = 0 ∨ o_x = 1) ∧ (o_q' 2 = q 2 ∧ o_q' 0 = q 0 ∧ o_q' 1 = q 1) ∧ w' = mw κ a r f o_q' (tb a) w) := by
  refine CM_begin (plainFor_of_name pn_RX10) (Nat.le_of_ble_eq_true rfl) ?_
  intro p e s m args below meth c A Q hX hnm hA3 hQ hB ls hl
  have hx := hX.1.1
  have hb := hX.1.2.1
  have hl : lv_has ls 7 [(0, .ref (a 0)), (1, .int y), (2, .int z), (3, .int u), (4, .int v)] := hl
  replace hR := (D_X10_isSolvable_s).symm.trans hR
  refine lv_aload_n hx hb dX10_isSolvable_0 rfl (lv_at hl 0 rfl) ?_
  refine lv_iload_n hx hb dX10_isSolvable_1 rfl (lv_at hl 1 rfl) ?_
  obtain ⟨z1, hd2⟩ := ex1 (D_X10_isTable y)
  replace hR := bnd1_use hd2 hR
  refine call_S (n := 1) (As := [.int y]) (rest := [.ref (a 0)]) hX hB (k_X10_isTable κ l (mw κ a r f q (tb a) w) y z1 hd2) yk_X10_isTable wm_5_186 wm_5_187 wm_1_6 wm_5_188 ⟨Nat.le_of_ble_eq_true rfl, Nat.le_of_ble_eq_true rfl⟩ ⟨Nat.le_of_ble_eq_true rfl, Nat.le_of_ble_eq_true rfl⟩ rfl hl.1 rfl (Nat.le_of_ble_eq_true rfl) dX10_isSolvable_2 (fun o w' H locs hp hB => ?_)
  obtain ⟨rfl, hf3, hw9⟩ := hp
  replace hB : Bd κ A s (mw κ a r f q (tb a) w) H locs := by rw [hw9] at hB; exact hB
  rcases hf3 with rfl | ⟨rfl, hz4a, hz4b⟩
  · replace hR := ifp rfl hR
    refine W.eq (g2 := F0 m 5 ls [.int 0, .ref (a 0)]) rfl ?_
    refine lv_if_eq (tgt := 17) hx hb dX10_isSolvable_5 (by decide) (fun _ => ?_) (fun c5 => False.elim (by revert c5; decide))
    refine lv_iconst (v := 1) hx hb dX10_isSolvable_17 (by decide) ?_
    refine lv_goto (tgt := 22) hx hb dX10_isSolvable_18 (by decide) ?_
    obtain ⟨x6, t7, hd8⟩ := ex2 (D_X10_isThrown__ (q 0) (q 1) (q 2) (q 3) 1)
    replace hR := bnd2_use hd8 hR
    refine call_V (n := 1) (k0 := 0) (As := [.int 1]) (rest := []) hX hB (k_X10_isThrown__ κ l (mw κ a r f q (tb a) w) 0 (a 0) (a 1) (q 0) (q 1) (q 2) (q 3) 1 (mw0x (a := a) (r := r) (f := f) (q := q) (T := tb a) (w := w) rfl) x6 t7 hd8) ⟨rfl, yk_X10_isThrown__⟩ wm_6_15 wm_6_17 wp_33 wm_1_6 wm_6_18 ⟨Nat.le_of_ble_eq_true rfl, Nat.le_of_ble_eq_true rfl⟩ ⟨Nat.le_of_ble_eq_true rfl, Nat.le_of_ble_eq_true rfl⟩ (mw0x (a := a) (r := r) (f := f) (q := q) (T := tb a) (w := w) rfl) rfl rfl rfl hl.1 rfl (Nat.le_of_ble_eq_true rfl) dX10_isSolvable_22 (fun o w' H locs hp hB => ?_)
    obtain ⟨rfl, hf9, hw9⟩ := hp
    replace hB : Bd κ A s (mw κ a r f (va_up q 3 t7) (tb a) w) H locs := by exact Bd_eq (mwQ3x rfl _) (by rw [hw9] at hB; exact hB)
    obtain rfl : x6 = 1 := hf9.trans (by decide)
    refine W.eq (g2 := F0 m 25 ls [.int 1]) rfl ?_
    refine lv_if_eq (tgt := 30) hx hb dX10_isSolvable_25 (by decide) (fun c10 => False.elim (by revert c10; decide)) (fun _ => ?_)
    refine lv_iconst (v := 0) hx hb dX10_isSolvable_28 (by decide) ?_
    rw [← hQ]
    exact end_i hX hB hA3 rfl rfl (by obtain ⟨rfl, rfl⟩ := pr2 hR; exact ⟨rfl, (Or.inl rfl), ⟨rfl, rfl, rfl⟩, rfl⟩) (Nat.le_of_ble_eq_true rfl) (Nat.le_of_ble_eq_true rfl) dX10_isSolvable_29
  · replace hR := ifn (by decide) hR
    refine W.eq (g2 := F0 m 5 ls [.int 1, .ref (a 0)]) rfl ?_
    refine lv_if_eq (tgt := 17) hx hb dX10_isSolvable_5 (by decide) (fun c11 => False.elim (by revert c11; decide)) (fun _ => ?_)
    refine lv_aload_n hx hb dX10_isSolvable_8 rfl (lv_at hl 0 rfl) ?_
    refine lv_iload_n hx hb dX10_isSolvable_9 rfl (lv_at hl 2 rfl) ?_
    refine lv_iload_n hx hb dX10_isSolvable_10 rfl (lv_at hl 3 rfl) ?_
    obtain ⟨x12, hd13⟩ := ex1 (D_X10_isColumn r f q z u)
    replace hR := bnd1_use hd13 hR
    refine call_V (n := 2) (k0 := 0) (As := [.int z, .int u]) (rest := [.ref (a 0)]) hX hB (k_X10_isColumn κ l w a r f q z u hm x12 hd13) ⟨rfl, yk_X10_isColumn⟩ wm_5_233 wm_5_235 wp_32 wm_1_6 wm_5_236 ⟨Nat.le_of_ble_eq_true rfl, Nat.le_of_ble_eq_true rfl⟩ ⟨Nat.le_of_ble_eq_true rfl, Nat.le_of_ble_eq_true rfl⟩ (mw0x (a := a) (r := r) (f := f) (q := q) (T := tb a) (w := w) rfl) rfl rfl rfl hl.1 rfl (Nat.le_of_ble_eq_true rfl) dX10_isSolvable_11 (fun o w' H locs hp hB => ?_)
    obtain ⟨rfl, hf14, hw9⟩ := hp
    replace hB : Bd κ A s (mw κ a r f q (tb a) w) H locs := by rw [hw9] at hB; exact hB
    rcases hf14 with rfl | ⟨rfl, hz15a, hz15b, hz15c, hz15d⟩
    · replace hR := ifp rfl hR
      refine W.eq (g2 := F0 m 14 ls [.int 0, .ref (a 0)]) rfl ?_
      refine lv_if_ne (tgt := 21) hx hb dX10_isSolvable_14 (by decide) (fun c16 => False.elim (by revert c16; decide)) (fun _ => ?_)
      refine lv_iconst (v := 1) hx hb dX10_isSolvable_17 (by decide) ?_
      refine lv_goto (tgt := 22) hx hb dX10_isSolvable_18 (by decide) ?_
      obtain ⟨x17, t18, hd19⟩ := ex2 (D_X10_isThrown__ (q 0) (q 1) (q 2) (q 3) 1)
      replace hR := bnd2_use hd19 hR
      refine call_V (n := 1) (k0 := 0) (As := [.int 1]) (rest := []) hX hB (k_X10_isThrown__ κ l (mw κ a r f q (tb a) w) 0 (a 0) (a 1) (q 0) (q 1) (q 2) (q 3) 1 (mw0x (a := a) (r := r) (f := f) (q := q) (T := tb a) (w := w) rfl) x17 t18 hd19) ⟨rfl, yk_X10_isThrown__⟩ wm_6_15 wm_6_17 wp_33 wm_1_6 wm_6_18 ⟨Nat.le_of_ble_eq_true rfl, Nat.le_of_ble_eq_true rfl⟩ ⟨Nat.le_of_ble_eq_true rfl, Nat.le_of_ble_eq_true rfl⟩ (mw0x (a := a) (r := r) (f := f) (q := q) (T := tb a) (w := w) rfl) rfl rfl rfl hl.1 rfl (Nat.le_of_ble_eq_true rfl) dX10_isSolvable_22 (fun o w' H locs hp hB => ?_)
      obtain ⟨rfl, hf20, hw9⟩ := hp
      replace hB : Bd κ A s (mw κ a r f (va_up q 3 t18) (tb a) w) H locs := by exact Bd_eq (mwQ3x rfl _) (by rw [hw9] at hB; exact hB)
      obtain rfl : x17 = 1 := hf20.trans (by decide)
      refine W.eq (g2 := F0 m 25 ls [.int 1]) rfl ?_
      refine lv_if_eq (tgt := 30) hx hb dX10_isSolvable_25 (by decide) (fun c21 => False.elim (by revert c21; decide)) (fun _ => ?_)
      refine lv_iconst (v := 0) hx hb dX10_isSolvable_28 (by decide) ?_
      rw [← hQ]
      exact end_i hX hB hA3 rfl rfl (by obtain ⟨rfl, rfl⟩ := pr2 hR; exact ⟨rfl, (Or.inl rfl), ⟨rfl, rfl, rfl⟩, rfl⟩) (Nat.le_of_ble_eq_true rfl) (Nat.le_of_ble_eq_true rfl) dX10_isSolvable_29
    · replace hR := ifn (by decide) hR
      refine W.eq (g2 := F0 m 14 ls [.int 1, .ref (a 0)]) rfl ?_
      refine lv_if_ne (tgt := 21) hx hb dX10_isSolvable_14 (by decide) (fun _ => ?_) (fun c22 => False.elim (by revert c22; decide))
      refine lv_iconst (v := 0) hx hb dX10_isSolvable_21 (by decide) ?_
      obtain ⟨x23, t24, hd25⟩ := ex2 (D_X10_isThrown__ (q 0) (q 1) (q 2) (q 3) 0)
      replace hR := bnd2_use hd25 hR
      refine call_V (n := 1) (k0 := 0) (As := [.int 0]) (rest := []) hX hB (k_X10_isThrown__ κ l (mw κ a r f q (tb a) w) 0 (a 0) (a 1) (q 0) (q 1) (q 2) (q 3) 0 (mw0x (a := a) (r := r) (f := f) (q := q) (T := tb a) (w := w) rfl) x23 t24 hd25) ⟨rfl, yk_X10_isThrown__⟩ wm_6_15 wm_6_17 wp_33 wm_1_6 wm_6_18 ⟨Nat.le_of_ble_eq_true rfl, Nat.le_of_ble_eq_true rfl⟩ ⟨Nat.le_of_ble_eq_true rfl, Nat.le_of_ble_eq_true rfl⟩ (mw0x (a := a) (r := r) (f := f) (q := q) (T := tb a) (w := w) rfl) rfl rfl rfl hl.1 rfl (Nat.le_of_ble_eq_true rfl) dX10_isSolvable_22 (fun o w' H locs hp hB => ?_)
      obtain ⟨rfl, hf26, hw9⟩ := hp
      replace hB : Bd κ A s (mw κ a r f (va_up q 3 t24) (tb a) w) H locs := by exact Bd_eq (mwQ3x rfl _) (by rw [hw9] at hB; exact hB)
      obtain rfl : x23 = 0 := hf26.trans (by decide)
      refine W.eq (g2 := F0 m 25 ls [.int 0]) rfl ?_
      refine lv_if_eq (tgt := 30) hx hb dX10_isSolvable_25 (by decide) (fun _ => ?_) (fun c27 => False.elim (by revert c27; decide))
      refine lv_aload_n hx hb dX10_isSolvable_30 rfl (lv_at hl 0 rfl) ?_
      refine gf (k0 := 0) hX hB (mw0x (a := a) (r := r) (f := f) (q := (va_up q 3 t24)) (T := tb a) (w := w) rfl) rfl in10 0 (by decide) wm_5_162 rfl rfl dX10_isSolvable_31 ?_
      refine lv_iload_n hx hb dX10_isSolvable_34 rfl (lv_at hl 1 rfl) ?_
      refine aaldM (k0 := 1) hX hB (mw1 (a := a) (r := r) (f := f) (q := (va_up q 3 t24)) (T := tb a) (w := w)) (vp_in_mk (by assumption) (by assumption)) rfl dX10_isSolvable_35 ?_
      have hb28 := mok_r hm y.toNatClampNeg (by omega)
      refine lv_astore (lv' := [(5, .ref (a (2 + 2 * y.toNatClampNeg))), (0, .ref (a 0)), (1, .int y), (2, .int z), (3, .int u), (4, .int v)]) hx hb dX10_isSolvable_36 hl (by decide) rfl (fun ls hl => ?_)
      refine lv_aload_n hx hb dX10_isSolvable_38 rfl (lv_at hl 1 rfl) ?_
      refine lv_iconst (v := 0) hx hb dX10_isSolvable_39 (by decide) ?_
      refine lv_aload hx hb dX10_isSolvable_40 (lv_at hl 0 rfl) ?_
      refine gf (k0 := 2 + 2 * y.toNatClampNeg) hX hB (mwG (i := y.toNatClampNeg) (a := a) (r := r) (f := f) (q := (va_up q 3 t24)) (T := tb a) (w := w) (by omega)) rfl in7 0 (by decide) wm_5_148 rfl rfl dX10_isSolvable_42 ?_
      refine lv_aload_n hx hb dX10_isSolvable_45 rfl (lv_at hl 1 rfl) ?_
      refine gf (k0 := 0) hX hB (mw0x (a := a) (r := r) (f := f) (q := (va_up q 3 t24)) (T := tb a) (w := w) rfl) rfl in10 0 (by decide) wm_5_162 rfl rfl dX10_isSolvable_46 ?_
      refine lv_iload_n hx hb dX10_isSolvable_49 rfl (lv_at hl 3 rfl) ?_
      refine aaldM (k0 := 1) hX hB (mw1 (a := a) (r := r) (f := f) (q := (va_up q 3 t24)) (T := tb a) (w := w)) (vp_in_mk (by assumption) (by assumption)) rfl dX10_isSolvable_50 ?_
      have hb29 := mok_r hm z.toNatClampNeg (by omega)
      refine gf (k0 := 2 + 2 * z.toNatClampNeg) hX hB (mwG (i := z.toNatClampNeg) (a := a) (r := r) (f := f) (q := (va_up q 3 t24)) (T := tb a) (w := w) (by omega)) rfl in7 0 (by decide) wm_5_148 rfl rfl dX10_isSolvable_51 ?_
      refine lv_icmp_ne (tgt := 68) hx hb dX10_isSolvable_54 (by decide) (fun c30 => ?_) (fun c30 => ?_)
      · rw [neqP (a := r (2 * y.toNatClampNeg)) (b := r (2 * z.toNatClampNeg)) (by omega) (by omega)] at c30
        replace hR := ifn c30 hR
        refine lv_iconst (v := 1) hx hb dX10_isSolvable_68 (by decide) ?_
        refine lv_goto (tgt := 73) hx hb dX10_isSolvable_69 (by decide) ?_
        obtain ⟨x31, t32, hd33⟩ := ex2 (D_X10_isThrown_ ((va_up q 3 t24) 0) ((va_up q 3 t24) 1) ((va_up q 3 t24) 2) ((va_up q 3 t24) 3) 0 1)
        replace hR := bnd2_use hd33 hR
        refine call_V (n := 2) (k0 := 0) (As := [.int 0, .int 1]) (rest := []) hX hB (k_X10_isThrown_ κ l (mw κ a r f (va_up q 3 t24) (tb a) w) 0 (a 0) (a 1) ((va_up q 3 t24) 0) ((va_up q 3 t24) 1) ((va_up q 3 t24) 2) ((va_up q 3 t24) 3) 0 1 (mw0x (a := a) (r := r) (f := f) (q := (va_up q 3 t24)) (T := tb a) (w := w) rfl) x31 t32 hd33) ⟨rfl, yk_X10_isThrown_⟩ wm_5_192 wm_5_194 wp_27 wm_1_6 wm_5_195 ⟨Nat.le_of_ble_eq_true rfl, Nat.le_of_ble_eq_true rfl⟩ ⟨Nat.le_of_ble_eq_true rfl, Nat.le_of_ble_eq_true rfl⟩ (mw0x (a := a) (r := r) (f := f) (q := (va_up q 3 t24)) (T := tb a) (w := w) rfl) rfl rfl rfl hl.1 rfl (Nat.le_of_ble_eq_true rfl) dX10_isSolvable_73 (fun o w' H locs hp hB => ?_)
        obtain ⟨rfl, hf34, hw9⟩ := hp
        replace hB : Bd κ A s (mw κ a r f (va_up (va_up q 3 t24) 3 t32) (tb a) w) H locs := by exact Bd_eq (mwQ3x rfl _) (by rw [hw9] at hB; exact hB)
        obtain rfl : x31 = 1 := hf34.trans (by decide)
        refine W.eq (g2 := F0 m 76 ls [.int 1]) rfl ?_
        refine lv_if_eq (tgt := 81) hx hb dX10_isSolvable_76 (by decide) (fun c35 => False.elim (by revert c35; decide)) (fun _ => ?_)
        refine lv_iconst (v := 0) hx hb dX10_isSolvable_79 (by decide) ?_
        rw [← hQ]
        exact end_i hX hB hA3 rfl rfl (by obtain ⟨rfl, rfl⟩ := pr2 hR; exact ⟨rfl, (Or.inl rfl), ⟨rfl, rfl, rfl⟩, rfl⟩) (Nat.le_of_ble_eq_true rfl) (Nat.le_of_ble_eq_true rfl) dX10_isSolvable_80
      · rw [neqP (a := r (2 * y.toNatClampNeg)) (b := r (2 * z.toNatClampNeg)) (by omega) (by omega)] at c30
        replace hR := ifp c30 hR
        refine lv_iload hx hb dX10_isSolvable_57 (lv_at hl 5 rfl) ?_
        refine lv_if_lt (tgt := 68) hx hb dX10_isSolvable_59 (by decide) (fun c36 => ?_) (fun c36 => ?_)
        · replace hR := ifp c36 hR
          refine lv_iconst (v := 1) hx hb dX10_isSolvable_68 (by decide) ?_
          refine lv_goto (tgt := 73) hx hb dX10_isSolvable_69 (by decide) ?_
          obtain ⟨x37, t38, hd39⟩ := ex2 (D_X10_isThrown_ ((va_up q 3 t24) 0) ((va_up q 3 t24) 1) ((va_up q 3 t24) 2) ((va_up q 3 t24) 3) 0 1)
          replace hR := bnd2_use hd39 hR
          refine call_V (n := 2) (k0 := 0) (As := [.int 0, .int 1]) (rest := []) hX hB (k_X10_isThrown_ κ l (mw κ a r f (va_up q 3 t24) (tb a) w) 0 (a 0) (a 1) ((va_up q 3 t24) 0) ((va_up q 3 t24) 1) ((va_up q 3 t24) 2) ((va_up q 3 t24) 3) 0 1 (mw0x (a := a) (r := r) (f := f) (q := (va_up q 3 t24)) (T := tb a) (w := w) rfl) x37 t38 hd39) ⟨rfl, yk_X10_isThrown_⟩ wm_5_192 wm_5_194 wp_27 wm_1_6 wm_5_195 ⟨Nat.le_of_ble_eq_true rfl, Nat.le_of_ble_eq_true rfl⟩ ⟨Nat.le_of_ble_eq_true rfl, Nat.le_of_ble_eq_true rfl⟩ (mw0x (a := a) (r := r) (f := f) (q := (va_up q 3 t24)) (T := tb a) (w := w) rfl) rfl rfl rfl hl.1 rfl (Nat.le_of_ble_eq_true rfl) dX10_isSolvable_73 (fun o w' H locs hp hB => ?_)
          obtain ⟨rfl, hf40, hw9⟩ := hp
          replace hB : Bd κ A s (mw κ a r f (va_up (va_up q 3 t24) 3 t38) (tb a) w) H locs := by exact Bd_eq (mwQ3x rfl _) (by rw [hw9] at hB; exact hB)
          obtain rfl : x37 = 1 := hf40.trans (by decide)
          refine W.eq (g2 := F0 m 76 ls [.int 1]) rfl ?_
          refine lv_if_eq (tgt := 81) hx hb dX10_isSolvable_76 (by decide) (fun c41 => False.elim (by revert c41; decide)) (fun _ => ?_)
          refine lv_iconst (v := 0) hx hb dX10_isSolvable_79 (by decide) ?_
          rw [← hQ]
          exact end_i hX hB hA3 rfl rfl (by obtain ⟨rfl, rfl⟩ := pr2 hR; exact ⟨rfl, (Or.inl rfl), ⟨rfl, rfl, rfl⟩, rfl⟩) (Nat.le_of_ble_eq_true rfl) (Nat.le_of_ble_eq_true rfl) dX10_isSolvable_80
        · replace hR := ifn c36 hR
          refine lv_iload hx hb dX10_isSolvable_62 (lv_at hl 5 rfl) ?_
          refine lv_iconst (v := 1) hx hb dX10_isSolvable_64 (by decide) ?_
          refine lv_icmp_le (tgt := 72) hx hb dX10_isSolvable_65 (by decide) (fun c42 => ?_) (fun c42 => ?_)
          · replace hR := ifp c42 hR
            refine lv_iconst (v := 0) hx hb dX10_isSolvable_72 (by decide) ?_
            obtain ⟨x43, t44, hd45⟩ := ex2 (D_X10_isThrown_ ((va_up q 3 t24) 0) ((va_up q 3 t24) 1) ((va_up q 3 t24) 2) ((va_up q 3 t24) 3) 0 0)
            replace hR := bnd2_use hd45 hR
            refine call_V (n := 2) (k0 := 0) (As := [.int 0, .int 0]) (rest := []) hX hB (k_X10_isThrown_ κ l (mw κ a r f (va_up q 3 t24) (tb a) w) 0 (a 0) (a 1) ((va_up q 3 t24) 0) ((va_up q 3 t24) 1) ((va_up q 3 t24) 2) ((va_up q 3 t24) 3) 0 0 (mw0x (a := a) (r := r) (f := f) (q := (va_up q 3 t24)) (T := tb a) (w := w) rfl) x43 t44 hd45) ⟨rfl, yk_X10_isThrown_⟩ wm_5_192 wm_5_194 wp_27 wm_1_6 wm_5_195 ⟨Nat.le_of_ble_eq_true rfl, Nat.le_of_ble_eq_true rfl⟩ ⟨Nat.le_of_ble_eq_true rfl, Nat.le_of_ble_eq_true rfl⟩ (mw0x (a := a) (r := r) (f := f) (q := (va_up q 3 t24)) (T := tb a) (w := w) rfl) rfl rfl rfl hl.1 rfl (Nat.le_of_ble_eq_true rfl) dX10_isSolvable_73 (fun o w' H locs hp hB => ?_)
            obtain ⟨rfl, hf46, hw9⟩ := hp
            replace hB : Bd κ A s (mw κ a r f (va_up (va_up q 3 t24) 3 t44) (tb a) w) H locs := by exact Bd_eq (mwQ3x rfl _) (by rw [hw9] at hB; exact hB)
            obtain rfl : x43 = 0 := hf46.trans (by decide)
            refine W.eq (g2 := F0 m 76 ls [.int 0]) rfl ?_
            refine lv_if_eq (tgt := 81) hx hb dX10_isSolvable_76 (by decide) (fun _ => ?_) (fun c47 => False.elim (by revert c47; decide))
            refine lv_iload hx hb dX10_isSolvable_81 (lv_at hl 5 rfl) ?_
            refine lv_iconst (v := 1) hx hb dX10_isSolvable_83 (by decide) ?_
            refine lv_icmp_ne (tgt := 99) hx hb dX10_isSolvable_84 (by decide) (fun c48 => ?_) (fun c48 => ?_)
            · replace hR := ifn c48 hR
              refine newO (fs := [.null, .null, .null, .int 0, .int 0, .int 0, .int 0]) hX hB (ci := 10) rfl in9 tyX9_ok wm_6_176 wm_6_177 wm_1_16 df10 (Nat.le_of_ble_eq_true rfl) (Nat.le_of_ble_eq_true rfl) dX10_isSolvable_99 (fun q49 H hB => ?_)
              refine lv_dup hx hb dX10_isSolvable_102 rfl ?_
              refine lv_aload hx hb dX10_isSolvable_103 (lv_at hl 0 rfl) ?_
              obtain ⟨F56, F57, F58, S59, S60, K61, G62, hd63⟩ := ex7 (D_X9_init (r (2 * y.toNatClampNeg)) (r (2 * y.toNatClampNeg + 1)) (f y.toNatClampNeg))
              replace hR := bnd7_use hd63 hR
              refine call_I (n := 1) (As := [.ref (a (2 + 2 * y.toNatClampNeg))]) (rest := [.ref q49]) hX hB (k_X9_init κ l (mw κ a r f (va_up (va_up q 3 t24) 3 t44) (tb a) w) q49 (2 + 2 * y.toNatClampNeg) (3 + 2 * y.toNatClampNeg) (a (2 + 2 * y.toNatClampNeg)) (a (3 + 2 * y.toNatClampNeg)) (r (2 * y.toNatClampNeg)) (r (2 * y.toNatClampNeg + 1)) (f y.toNatClampNeg) (mwG (i := y.toNatClampNeg) (a := a) (r := r) (f := f) (q := (va_up (va_up q 3 t24) 3 t44)) (T := tb a) (w := w) (by omega)) (mwA (i := y.toNatClampNeg) (a := a) (r := r) (f := f) (q := (va_up (va_up q 3 t24) 3 t44)) (T := tb a) (w := w) (by omega)) (mok_shp (i := y.toNatClampNeg) hm (by omega)) (by omega) (fun k hk => sm_ng ((hm _ (by omega)).2 k hk)) F56 F57 F58 S59 S60 K61 G62 hd63) yk_X9_init rfl wm_6_178 wm_6_179 wm_1_16 wm_6_180 ⟨Nat.le_of_ble_eq_true rfl, Nat.le_of_ble_eq_true rfl⟩ ⟨Nat.le_of_ble_eq_true rfl, Nat.le_of_ble_eq_true rfl⟩ rfl hl.1 rfl (Nat.le_of_ble_eq_true rfl) dX10_isSolvable_105 (fun o w' H locs hp hB => ?_)
              obtain ⟨g50, b51, g52, b53, g54, b55, rfl, hf64, hw9⟩ := hp
              replace hB : Bd κ A s (lA κ b51 ((r (2 * y.toNatClampNeg + 1)) * 5) F56 :: gO g50 (r (2 * y.toNatClampNeg + 1)) (r (2 * y.toNatClampNeg + 1)) b51 :: lA κ b53 ((r (2 * y.toNatClampNeg)) * 5) F57 :: gO g52 (r (2 * y.toNatClampNeg)) (r (2 * y.toNatClampNeg)) b53 :: lA κ b55 ((r (2 * y.toNatClampNeg)) * 5) F58 :: gO g54 (r (2 * y.toNatClampNeg)) (r (2 * y.toNatClampNeg + 1)) b55 :: (q49, .inr (10, [.ref g54, .ref g52, .ref g50, .int S59, .int S60, .int (nI K61), .int G62])) :: mw κ a r f (va_up (va_up q 3 t24) 3 t44) (tb a) w) H locs := by rw [hw9] at hB; exact hB
              refine W.eq (g2 := F0 m 108 ls [.ref q49]) rfl ?_
              refine lv_astore (lv' := [(6, .ref q49), (5, .ref (a (2 + 2 * y.toNatClampNeg))), (0, .ref (a 0)), (1, .int y), (2, .int z), (3, .int u), (4, .int v)]) hx hb dX10_isSolvable_108 hl (by decide) rfl (fun ls hl => ?_)
              refine lv_aload_n hx hb dX10_isSolvable_110 rfl (lv_at hl 2 rfl) ?_
              refine lv_iconst (v := 0) hx hb dX10_isSolvable_111 (by decide) ?_
              refine lv_iconst (v := 0) hx hb dX10_isSolvable_112 (by decide) ?_
              refine lv_aload hx hb dX10_isSolvable_113 (lv_at hl 0 rfl) ?_
              refine gf (k0 := 6) hX hB rfl rfl in9 6 (by decide) wm_6_234 rfl rfl dX10_isSolvable_115 ?_
              obtain ⟨x65, t66, hd67⟩ := ex2 (D_X10_isThrown ((va_up (va_up q 3 t24) 3 t44) 0) ((va_up (va_up q 3 t24) 3 t44) 1) ((va_up (va_up q 3 t24) 3 t44) 2) ((va_up (va_up q 3 t24) 3 t44) 3) 0 0 G62)
              replace hR := bnd2_use hd67 hR
              refine call_V (n := 3) (k0 := 7) (As := [.int 0, .int 0, .int G62]) (rest := []) hX hB (k_X10_isThrown κ l (lA κ b51 ((r (2 * y.toNatClampNeg + 1)) * 5) F56 :: gO g50 (r (2 * y.toNatClampNeg + 1)) (r (2 * y.toNatClampNeg + 1)) b51 :: lA κ b53 ((r (2 * y.toNatClampNeg)) * 5) F57 :: gO g52 (r (2 * y.toNatClampNeg)) (r (2 * y.toNatClampNeg)) b53 :: lA κ b55 ((r (2 * y.toNatClampNeg)) * 5) F58 :: gO g54 (r (2 * y.toNatClampNeg)) (r (2 * y.toNatClampNeg + 1)) b55 :: (q49, .inr (10, [.ref g54, .ref g52, .ref g50, .int S59, .int S60, .int (nI K61), .int G62])) :: mw κ a r f (va_up (va_up q 3 t24) 3 t44) (tb a) w) 7 (a 0) (a 1) ((va_up (va_up q 3 t24) 3 t44) 0) ((va_up (va_up q 3 t24) 3 t44) 1) ((va_up (va_up q 3 t24) 3 t44) 2) ((va_up (va_up q 3 t24) 3 t44) 3) 0 0 G62 (mw0x (a := a) (r := r) (f := f) (q := (va_up (va_up q 3 t24) 3 t44)) (T := tb a) (w := w) rfl) x65 t66 hd67) ⟨rfl, yk_X10_isThrown⟩ wm_5_196 wm_5_198 wp_28 wm_1_6 wm_5_199 ⟨Nat.le_of_ble_eq_true rfl, Nat.le_of_ble_eq_true rfl⟩ ⟨Nat.le_of_ble_eq_true rfl, Nat.le_of_ble_eq_true rfl⟩ (mw0x (a := a) (r := r) (f := f) (q := (va_up (va_up q 3 t24) 3 t44)) (T := tb a) (w := w) rfl) rfl rfl rfl hl.1 rfl (Nat.le_of_ble_eq_true rfl) dX10_isSolvable_118 (fun o w' H locs hp hB => ?_)
              obtain ⟨rfl, hf68, hw9⟩ := hp
              replace hB : Bd κ A s (lA κ b51 ((r (2 * y.toNatClampNeg + 1)) * 5) F56 :: gO g50 (r (2 * y.toNatClampNeg + 1)) (r (2 * y.toNatClampNeg + 1)) b51 :: lA κ b53 ((r (2 * y.toNatClampNeg)) * 5) F57 :: gO g52 (r (2 * y.toNatClampNeg)) (r (2 * y.toNatClampNeg)) b53 :: lA κ b55 ((r (2 * y.toNatClampNeg)) * 5) F58 :: gO g54 (r (2 * y.toNatClampNeg)) (r (2 * y.toNatClampNeg + 1)) b55 :: (q49, .inr (10, [.ref g54, .ref g52, .ref g50, .int S59, .int S60, .int (nI K61), .int G62])) :: mw κ a r f (va_up (va_up (va_up q 3 t24) 3 t44) 3 t66) (tb a) w) H locs := by exact Bd_eq (congrArg (List.cons _) (congrArg (List.cons _) (congrArg (List.cons _) (congrArg (List.cons _) (congrArg (List.cons _) (congrArg (List.cons _) (congrArg (List.cons _) (mwQ3x rfl _)))))))) (by rw [hw9] at hB; exact hB)
              rcases thr_cases hf68 with ⟨rfl, hz69a, hz69b, hz69c⟩ | ⟨rfl, hz69⟩
              · replace hR := ifp rfl hR
                refine W.eq (g2 := F0 m 121 ls [.int 0]) rfl ?_
                refine lv_if_ne (tgt := 150) hx hb dX10_isSolvable_121 (by decide) (fun c70 => False.elim (by revert c70; decide)) (fun _ => ?_)
                refine lv_aload hx hb dX10_isSolvable_124 (lv_at hl 0 rfl) ?_
                refine lv_aload hx hb dX10_isSolvable_126 (lv_at hl 0 rfl) ?_
                refine gf (k0 := 6) hX hB rfl rfl in9 1 (by decide) wm_6_224 rfl rfl dX10_isSolvable_128 ?_
                refine lv_aload_n hx hb dX10_isSolvable_131 rfl (lv_at hl 2 rfl) ?_
                refine lv_iload_n hx hb dX10_isSolvable_132 rfl (lv_at hl 4 rfl) ?_
                refine lv_iload_n hx hb dX10_isSolvable_133 rfl (lv_at hl 5 rfl) ?_
                obtain ⟨F73, hd74⟩ := ex1 (D_X10_column ((va_up (va_up (va_up q 3 t24) 3 t44) 3 t66) 0) ((va_up (va_up (va_up q 3 t24) 3 t44) 3 t66) 1) ((va_up (va_up (va_up q 3 t24) 3 t44) 3 t66) 2) ((va_up (va_up (va_up q 3 t24) 3 t44) 3 t66) 3) (r (2 * z.toNatClampNeg)) (r (2 * z.toNatClampNeg + 1)) (f z.toNatClampNeg) z ((u).toNatClampNeg))
                replace hR := bnd1_use hd74 hR
                refine call_V (n := 2) (k0 := 7) (As := [.int z, .int u]) (rest := [.ref g52, .ref q49]) hX hB (k_X10_column κ l (lA κ b51 ((r (2 * y.toNatClampNeg + 1)) * 5) F56 :: gO g50 (r (2 * y.toNatClampNeg + 1)) (r (2 * y.toNatClampNeg + 1)) b51 :: lA κ b53 ((r (2 * y.toNatClampNeg)) * 5) F57 :: gO g52 (r (2 * y.toNatClampNeg)) (r (2 * y.toNatClampNeg)) b53 :: lA κ b55 ((r (2 * y.toNatClampNeg)) * 5) F58 :: gO g54 (r (2 * y.toNatClampNeg)) (r (2 * y.toNatClampNeg + 1)) b55 :: (q49, .inr (10, [.ref g54, .ref g52, .ref g50, .int S59, .int S60, .int (nI K61), .int G62])) :: mw κ a r f (va_up (va_up (va_up q 3 t24) 3 t44) 3 t66) (tb a) w) 7 (a 0) (a 1) 8 ((va_up (va_up (va_up q 3 t24) 3 t44) 3 t66) 0) ((va_up (va_up (va_up q 3 t24) 3 t44) 3 t66) 1) ((va_up (va_up (va_up q 3 t24) 3 t44) 3 t66) 2) ((va_up (va_up (va_up q 3 t24) 3 t44) 3 t66) 3) (tb a) (2 + 2 * z.toNatClampNeg + 7) (3 + 2 * z.toNatClampNeg + 7) (a (2 + 2 * z.toNatClampNeg)) (a (3 + 2 * z.toNatClampNeg)) (r (2 * z.toNatClampNeg)) (r (2 * z.toNatClampNeg + 1)) (f z.toNatClampNeg) z u ((u).toNatClampNeg) (mw0x (a := a) (r := r) (f := f) (q := (va_up (va_up (va_up q 3 t24) 3 t44) 3 t66)) (T := tb a) (w := w) rfl) (mw1 (a := a) (r := r) (f := f) (q := (va_up (va_up (va_up q 3 t24) 3 t44) 3 t66)) (T := tb a) (w := w)) (mwG (i := z.toNatClampNeg) (a := a) (r := r) (f := f) (q := (va_up (va_up (va_up q 3 t24) 3 t44) 3 t66)) (T := tb a) (w := w) (by omega)) (mwA (i := z.toNatClampNeg) (a := a) (r := r) (f := f) (q := (va_up (va_up (va_up q 3 t24) 3 t44) 3 t66)) (T := tb a) (w := w) (by omega)) (mok_shp (i := z.toNatClampNeg) hm (by omega)) (nI_rep (by assumption)) (vp_in_mk (by assumption) (by assumption)) rfl (by omega) F73 hd74) ⟨rfl, yk_X10_column⟩ wm_7_14 wm_7_16 wp_48 wm_1_6 wm_7_17 ⟨Nat.le_of_ble_eq_true rfl, Nat.le_of_ble_eq_true rfl⟩ ⟨Nat.le_of_ble_eq_true rfl, Nat.le_of_ble_eq_true rfl⟩ (mw0x (a := a) (r := r) (f := f) (q := (va_up (va_up (va_up q 3 t24) 3 t44) 3 t66)) (T := tb a) (w := w) rfl) rfl rfl rfl hl.1 rfl (Nat.le_of_ble_eq_true rfl) dX10_isSolvable_134 (fun o w' H locs hp hB => ?_)
                obtain ⟨q71, q72, rfl, hw9⟩ := hp
                replace hB : Bd κ A s (lA κ q72 ((r (2 * z.toNatClampNeg)) * 5) F73 :: gO q71 (r (2 * z.toNatClampNeg)) 1 q72 :: lA κ b51 ((r (2 * y.toNatClampNeg + 1)) * 5) F56 :: gO g50 (r (2 * y.toNatClampNeg + 1)) (r (2 * y.toNatClampNeg + 1)) b51 :: lA κ b53 ((r (2 * y.toNatClampNeg)) * 5) F57 :: gO g52 (r (2 * y.toNatClampNeg)) (r (2 * y.toNatClampNeg)) b53 :: lA κ b55 ((r (2 * y.toNatClampNeg)) * 5) F58 :: gO g54 (r (2 * y.toNatClampNeg)) (r (2 * y.toNatClampNeg + 1)) b55 :: (q49, .inr (10, [.ref g54, .ref g52, .ref g50, .int S59, .int S60, .int (nI K61), .int G62])) :: mw κ a r f (va_up (va_up (va_up q 3 t24) 3 t44) 3 t66) (tb a) w) H locs := by rw [hw9] at hB; exact hB
                refine W.eq (g2 := F0 m 137 ls [.ref q71, .ref g52, .ref q49]) rfl ?_
                obtain ⟨F77, hd78⟩ := ex1 (D_X7_product (r (2 * y.toNatClampNeg)) (r (2 * y.toNatClampNeg)) F57 (r (2 * z.toNatClampNeg)) 1 F73)
                replace hR := bnd1_use hd78 hR
                refine call_V (n := 1) (k0 := 5) (As := [.ref q71]) (rest := [.ref q49]) hX hB (k_X7_product κ l (lA κ q72 ((r (2 * z.toNatClampNeg)) * 5) F73 :: gO q71 (r (2 * z.toNatClampNeg)) 1 q72 :: lA κ b51 ((r (2 * y.toNatClampNeg + 1)) * 5) F56 :: gO g50 (r (2 * y.toNatClampNeg + 1)) (r (2 * y.toNatClampNeg + 1)) b51 :: lA κ b53 ((r (2 * y.toNatClampNeg)) * 5) F57 :: gO g52 (r (2 * y.toNatClampNeg)) (r (2 * y.toNatClampNeg)) b53 :: lA κ b55 ((r (2 * y.toNatClampNeg)) * 5) F58 :: gO g54 (r (2 * y.toNatClampNeg)) (r (2 * y.toNatClampNeg + 1)) b55 :: (q49, .inr (10, [.ref g54, .ref g52, .ref g50, .int S59, .int S60, .int (nI K61), .int G62])) :: mw κ a r f (va_up (va_up (va_up q 3 t24) 3 t44) 3 t66) (tb a) w) 5 4 g52 b53 (r (2 * y.toNatClampNeg)) (r (2 * y.toNatClampNeg)) F57 1 0 q71 q72 (r (2 * z.toNatClampNeg)) 1 F73 rfl rfl ⟨by omega, by omega, by omega, by omega⟩ rfl rfl ⟨by omega, by omega, by omega, by omega⟩ (by omega) F77 hd78) ⟨rfl, yk_X7_product⟩ wm_6_116 wm_6_117 wm_6_118 wm_1_7 wm_6_119 ⟨Nat.le_of_ble_eq_true rfl, Nat.le_of_ble_eq_true rfl⟩ ⟨Nat.le_of_ble_eq_true rfl, Nat.le_of_ble_eq_true rfl⟩ rfl rfl rfl rfl hl.1 rfl (Nat.le_of_ble_eq_true rfl) dX10_isSolvable_137 (fun o w' H locs hp hB => ?_)
                obtain ⟨q75, q76, rfl, hw9⟩ := hp
                replace hB : Bd κ A s (lA κ q76 ((r (2 * y.toNatClampNeg)) * 5) F77 :: gO q75 (r (2 * y.toNatClampNeg)) 1 q76 :: lA κ q72 ((r (2 * z.toNatClampNeg)) * 5) F73 :: gO q71 (r (2 * z.toNatClampNeg)) 1 q72 :: lA κ b51 ((r (2 * y.toNatClampNeg + 1)) * 5) F56 :: gO g50 (r (2 * y.toNatClampNeg + 1)) (r (2 * y.toNatClampNeg + 1)) b51 :: lA κ b53 ((r (2 * y.toNatClampNeg)) * 5) F57 :: gO g52 (r (2 * y.toNatClampNeg)) (r (2 * y.toNatClampNeg)) b53 :: lA κ b55 ((r (2 * y.toNatClampNeg)) * 5) F58 :: gO g54 (r (2 * y.toNatClampNeg)) (r (2 * y.toNatClampNeg + 1)) b55 :: (q49, .inr (10, [.ref g54, .ref g52, .ref g50, .int S59, .int S60, .int (nI K61), .int G62])) :: mw κ a r f (va_up (va_up (va_up q 3 t24) 3 t44) 3 t66) (tb a) w) H locs := by rw [hw9] at hB; exact hB
                refine W.eq (g2 := F0 m 140 ls [.ref q75, .ref q49]) rfl ?_
                obtain ⟨x79, hd80⟩ := ex1 (D_X10_goes (r (2 * y.toNatClampNeg)) (r (2 * y.toNatClampNeg + 1)) F58 K61 S59 S60 G62 (r (2 * y.toNatClampNeg)) 1 F77)
                replace hR := bnd1_use hd80 hR
                refine call_S (n := 2) (As := [.ref q49, .ref q75]) (rest := []) hX hB (k_X10_goes κ l (lA κ q76 ((r (2 * y.toNatClampNeg)) * 5) F77 :: gO q75 (r (2 * y.toNatClampNeg)) 1 q76 :: lA κ q72 ((r (2 * z.toNatClampNeg)) * 5) F73 :: gO q71 (r (2 * z.toNatClampNeg)) 1 q72 :: lA κ b51 ((r (2 * y.toNatClampNeg + 1)) * 5) F56 :: gO g50 (r (2 * y.toNatClampNeg + 1)) (r (2 * y.toNatClampNeg + 1)) b51 :: lA κ b53 ((r (2 * y.toNatClampNeg)) * 5) F57 :: gO g52 (r (2 * y.toNatClampNeg)) (r (2 * y.toNatClampNeg)) b53 :: lA κ b55 ((r (2 * y.toNatClampNeg)) * 5) F58 :: gO g54 (r (2 * y.toNatClampNeg)) (r (2 * y.toNatClampNeg + 1)) b55 :: (q49, .inr (10, [.ref g54, .ref g52, .ref g50, .int S59, .int S60, .int (nI K61), .int G62])) :: mw κ a r f (va_up (va_up (va_up q 3 t24) 3 t44) 3 t66) (tb a) w) 9 8 g54 b55 (r (2 * y.toNatClampNeg)) (r (2 * y.toNatClampNeg + 1)) F58 10 q49 g52 g50 K61 S59 S60 G62 1 0 q75 q76 (r (2 * y.toNatClampNeg)) 1 F77 rfl rfl (mok_shp (i := y.toNatClampNeg) hm (by omega)) rfl rfl rfl ⟨by omega, by omega, by omega, by omega⟩ hf64 x79 hd80) yk_X10_goes wm_7_18 wm_7_19 wm_1_6 wm_7_20 ⟨Nat.le_of_ble_eq_true rfl, Nat.le_of_ble_eq_true rfl⟩ ⟨Nat.le_of_ble_eq_true rfl, Nat.le_of_ble_eq_true rfl⟩ rfl hl.1 rfl (Nat.le_of_ble_eq_true rfl) dX10_isSolvable_140 (fun o w' H locs hp hB => ?_)
                obtain ⟨rfl, hf81, hw9⟩ := hp
                replace hB : Bd κ A s (lA κ q76 ((r (2 * y.toNatClampNeg)) * 5) F77 :: gO q75 (r (2 * y.toNatClampNeg)) 1 q76 :: lA κ q72 ((r (2 * z.toNatClampNeg)) * 5) F73 :: gO q71 (r (2 * z.toNatClampNeg)) 1 q72 :: lA κ b51 ((r (2 * y.toNatClampNeg + 1)) * 5) F56 :: gO g50 (r (2 * y.toNatClampNeg + 1)) (r (2 * y.toNatClampNeg + 1)) b51 :: lA κ b53 ((r (2 * y.toNatClampNeg)) * 5) F57 :: gO g52 (r (2 * y.toNatClampNeg)) (r (2 * y.toNatClampNeg)) b53 :: lA κ b55 ((r (2 * y.toNatClampNeg)) * 5) F58 :: gO g54 (r (2 * y.toNatClampNeg)) (r (2 * y.toNatClampNeg + 1)) b55 :: (q49, .inr (10, [.ref g54, .ref g52, .ref g50, .int S59, .int S60, .int (nI K61), .int G62])) :: mw κ a r f (va_up (va_up (va_up q 3 t24) 3 t44) 3 t66) (tb a) w) H locs := by rw [hw9] at hB; exact hB
                rcases hf81 with rfl | rfl
                · replace hR := ifp rfl hR
                  refine W.eq (g2 := F0 m 143 ls [.int 0]) rfl ?_
                  refine lv_if_eq (tgt := 150) hx hb dX10_isSolvable_143 (by decide) (fun _ => ?_) (fun c82 => False.elim (by revert c82; decide))
                  refine lv_iconst (v := 0) hx hb dX10_isSolvable_150 (by decide) ?_
                  replace hB : Bd κ A s (lA κ q76 ((r (2 * y.toNatClampNeg)) * 5) F77 :: gO q75 (r (2 * y.toNatClampNeg)) 1 q76 :: lA κ q72 ((r (2 * z.toNatClampNeg)) * 5) F73 :: gO q71 (r (2 * z.toNatClampNeg)) 1 q72 :: lA κ b51 ((r (2 * y.toNatClampNeg + 1)) * 5) F56 :: gO g50 (r (2 * y.toNatClampNeg + 1)) (r (2 * y.toNatClampNeg + 1)) b51 :: lA κ b53 ((r (2 * y.toNatClampNeg)) * 5) F57 :: gO g52 (r (2 * y.toNatClampNeg)) (r (2 * y.toNatClampNeg)) b53 :: lA κ b55 ((r (2 * y.toNatClampNeg)) * 5) F58 :: gO g54 (r (2 * y.toNatClampNeg)) (r (2 * y.toNatClampNeg + 1)) b55 :: mw κ a r f (va_up (va_up (va_up q 3 t24) 3 t44) 3 t66) (tb a) w) H locs := Bd_del 10 hB
                  replace hB : Bd κ A s (lA κ q76 ((r (2 * y.toNatClampNeg)) * 5) F77 :: gO q75 (r (2 * y.toNatClampNeg)) 1 q76 :: lA κ q72 ((r (2 * z.toNatClampNeg)) * 5) F73 :: gO q71 (r (2 * z.toNatClampNeg)) 1 q72 :: lA κ b51 ((r (2 * y.toNatClampNeg + 1)) * 5) F56 :: gO g50 (r (2 * y.toNatClampNeg + 1)) (r (2 * y.toNatClampNeg + 1)) b51 :: lA κ b53 ((r (2 * y.toNatClampNeg)) * 5) F57 :: gO g52 (r (2 * y.toNatClampNeg)) (r (2 * y.toNatClampNeg)) b53 :: lA κ b55 ((r (2 * y.toNatClampNeg)) * 5) F58 :: mw κ a r f (va_up (va_up (va_up q 3 t24) 3 t44) 3 t66) (tb a) w) H locs := Bd_del 9 hB
                  replace hB : Bd κ A s (lA κ q76 ((r (2 * y.toNatClampNeg)) * 5) F77 :: gO q75 (r (2 * y.toNatClampNeg)) 1 q76 :: lA κ q72 ((r (2 * z.toNatClampNeg)) * 5) F73 :: gO q71 (r (2 * z.toNatClampNeg)) 1 q72 :: lA κ b51 ((r (2 * y.toNatClampNeg + 1)) * 5) F56 :: gO g50 (r (2 * y.toNatClampNeg + 1)) (r (2 * y.toNatClampNeg + 1)) b51 :: lA κ b53 ((r (2 * y.toNatClampNeg)) * 5) F57 :: gO g52 (r (2 * y.toNatClampNeg)) (r (2 * y.toNatClampNeg)) b53 :: mw κ a r f (va_up (va_up (va_up q 3 t24) 3 t44) 3 t66) (tb a) w) H locs := Bd_del 8 hB
                  replace hB : Bd κ A s (lA κ q76 ((r (2 * y.toNatClampNeg)) * 5) F77 :: gO q75 (r (2 * y.toNatClampNeg)) 1 q76 :: lA κ q72 ((r (2 * z.toNatClampNeg)) * 5) F73 :: gO q71 (r (2 * z.toNatClampNeg)) 1 q72 :: lA κ b51 ((r (2 * y.toNatClampNeg + 1)) * 5) F56 :: gO g50 (r (2 * y.toNatClampNeg + 1)) (r (2 * y.toNatClampNeg + 1)) b51 :: lA κ b53 ((r (2 * y.toNatClampNeg)) * 5) F57 :: mw κ a r f (va_up (va_up (va_up q 3 t24) 3 t44) 3 t66) (tb a) w) H locs := Bd_del 7 hB
                  replace hB : Bd κ A s (lA κ q76 ((r (2 * y.toNatClampNeg)) * 5) F77 :: gO q75 (r (2 * y.toNatClampNeg)) 1 q76 :: lA κ q72 ((r (2 * z.toNatClampNeg)) * 5) F73 :: gO q71 (r (2 * z.toNatClampNeg)) 1 q72 :: lA κ b51 ((r (2 * y.toNatClampNeg + 1)) * 5) F56 :: gO g50 (r (2 * y.toNatClampNeg + 1)) (r (2 * y.toNatClampNeg + 1)) b51 :: mw κ a r f (va_up (va_up (va_up q 3 t24) 3 t44) 3 t66) (tb a) w) H locs := Bd_del 6 hB
                  replace hB : Bd κ A s (lA κ q76 ((r (2 * y.toNatClampNeg)) * 5) F77 :: gO q75 (r (2 * y.toNatClampNeg)) 1 q76 :: lA κ q72 ((r (2 * z.toNatClampNeg)) * 5) F73 :: gO q71 (r (2 * z.toNatClampNeg)) 1 q72 :: lA κ b51 ((r (2 * y.toNatClampNeg + 1)) * 5) F56 :: mw κ a r f (va_up (va_up (va_up q 3 t24) 3 t44) 3 t66) (tb a) w) H locs := Bd_del 5 hB
                  replace hB : Bd κ A s (lA κ q76 ((r (2 * y.toNatClampNeg)) * 5) F77 :: gO q75 (r (2 * y.toNatClampNeg)) 1 q76 :: lA κ q72 ((r (2 * z.toNatClampNeg)) * 5) F73 :: gO q71 (r (2 * z.toNatClampNeg)) 1 q72 :: mw κ a r f (va_up (va_up (va_up q 3 t24) 3 t44) 3 t66) (tb a) w) H locs := Bd_del 4 hB
                  replace hB : Bd κ A s (lA κ q76 ((r (2 * y.toNatClampNeg)) * 5) F77 :: gO q75 (r (2 * y.toNatClampNeg)) 1 q76 :: lA κ q72 ((r (2 * z.toNatClampNeg)) * 5) F73 :: mw κ a r f (va_up (va_up (va_up q 3 t24) 3 t44) 3 t66) (tb a) w) H locs := Bd_del 3 hB
                  replace hB : Bd κ A s (lA κ q76 ((r (2 * y.toNatClampNeg)) * 5) F77 :: gO q75 (r (2 * y.toNatClampNeg)) 1 q76 :: mw κ a r f (va_up (va_up (va_up q 3 t24) 3 t44) 3 t66) (tb a) w) H locs := Bd_del 2 hB
                  replace hB : Bd κ A s (lA κ q76 ((r (2 * y.toNatClampNeg)) * 5) F77 :: mw κ a r f (va_up (va_up (va_up q 3 t24) 3 t44) 3 t66) (tb a) w) H locs := Bd_del 1 hB
                  replace hB : Bd κ A s (mw κ a r f (va_up (va_up (va_up q 3 t24) 3 t44) 3 t66) (tb a) w) H locs := Bd_del 0 hB
                  rw [← hQ]
                  exact end_i hX hB hA3 rfl rfl (by obtain ⟨rfl, rfl⟩ := pr2 hR; exact ⟨rfl, (Or.inl rfl), ⟨rfl, rfl, rfl⟩, rfl⟩) (Nat.le_of_ble_eq_true rfl) (Nat.le_of_ble_eq_true rfl) dX10_isSolvable_151
                · replace hR := ifn (by decide) hR
                  refine W.eq (g2 := F0 m 143 ls [.int 1]) rfl ?_
                  refine lv_if_eq (tgt := 150) hx hb dX10_isSolvable_143 (by decide) (fun c83 => False.elim (by revert c83; decide)) (fun _ => ?_)
                  refine lv_iconst (v := 1) hx hb dX10_isSolvable_146 (by decide) ?_
                  refine lv_goto (tgt := 151) hx hb dX10_isSolvable_147 (by decide) ?_
                  replace hB : Bd κ A s (lA κ q76 ((r (2 * y.toNatClampNeg)) * 5) F77 :: gO q75 (r (2 * y.toNatClampNeg)) 1 q76 :: lA κ q72 ((r (2 * z.toNatClampNeg)) * 5) F73 :: gO q71 (r (2 * z.toNatClampNeg)) 1 q72 :: lA κ b51 ((r (2 * y.toNatClampNeg + 1)) * 5) F56 :: gO g50 (r (2 * y.toNatClampNeg + 1)) (r (2 * y.toNatClampNeg + 1)) b51 :: lA κ b53 ((r (2 * y.toNatClampNeg)) * 5) F57 :: gO g52 (r (2 * y.toNatClampNeg)) (r (2 * y.toNatClampNeg)) b53 :: lA κ b55 ((r (2 * y.toNatClampNeg)) * 5) F58 :: gO g54 (r (2 * y.toNatClampNeg)) (r (2 * y.toNatClampNeg + 1)) b55 :: mw κ a r f (va_up (va_up (va_up q 3 t24) 3 t44) 3 t66) (tb a) w) H locs := Bd_del 10 hB
                  replace hB : Bd κ A s (lA κ q76 ((r (2 * y.toNatClampNeg)) * 5) F77 :: gO q75 (r (2 * y.toNatClampNeg)) 1 q76 :: lA κ q72 ((r (2 * z.toNatClampNeg)) * 5) F73 :: gO q71 (r (2 * z.toNatClampNeg)) 1 q72 :: lA κ b51 ((r (2 * y.toNatClampNeg + 1)) * 5) F56 :: gO g50 (r (2 * y.toNatClampNeg + 1)) (r (2 * y.toNatClampNeg + 1)) b51 :: lA κ b53 ((r (2 * y.toNatClampNeg)) * 5) F57 :: gO g52 (r (2 * y.toNatClampNeg)) (r (2 * y.toNatClampNeg)) b53 :: lA κ b55 ((r (2 * y.toNatClampNeg)) * 5) F58 :: mw κ a r f (va_up (va_up (va_up q 3 t24) 3 t44) 3 t66) (tb a) w) H locs := Bd_del 9 hB
                  replace hB : Bd κ A s (lA κ q76 ((r (2 * y.toNatClampNeg)) * 5) F77 :: gO q75 (r (2 * y.toNatClampNeg)) 1 q76 :: lA κ q72 ((r (2 * z.toNatClampNeg)) * 5) F73 :: gO q71 (r (2 * z.toNatClampNeg)) 1 q72 :: lA κ b51 ((r (2 * y.toNatClampNeg + 1)) * 5) F56 :: gO g50 (r (2 * y.toNatClampNeg + 1)) (r (2 * y.toNatClampNeg + 1)) b51 :: lA κ b53 ((r (2 * y.toNatClampNeg)) * 5) F57 :: gO g52 (r (2 * y.toNatClampNeg)) (r (2 * y.toNatClampNeg)) b53 :: mw κ a r f (va_up (va_up (va_up q 3 t24) 3 t44) 3 t66) (tb a) w) H locs := Bd_del 8 hB
                  replace hB : Bd κ A s (lA κ q76 ((r (2 * y.toNatClampNeg)) * 5) F77 :: gO q75 (r (2 * y.toNatClampNeg)) 1 q76 :: lA κ q72 ((r (2 * z.toNatClampNeg)) * 5) F73 :: gO q71 (r (2 * z.toNatClampNeg)) 1 q72 :: lA κ b51 ((r (2 * y.toNatClampNeg + 1)) * 5) F56 :: gO g50 (r (2 * y.toNatClampNeg + 1)) (r (2 * y.toNatClampNeg + 1)) b51 :: lA κ b53 ((r (2 * y.toNatClampNeg)) * 5) F57 :: mw κ a r f (va_up (va_up (va_up q 3 t24) 3 t44) 3 t66) (tb a) w) H locs := Bd_del 7 hB
                  replace hB : Bd κ A s (lA κ q76 ((r (2 * y.toNatClampNeg)) * 5) F77 :: gO q75 (r (2 * y.toNatClampNeg)) 1 q76 :: lA κ q72 ((r (2 * z.toNatClampNeg)) * 5) F73 :: gO q71 (r (2 * z.toNatClampNeg)) 1 q72 :: lA κ b51 ((r (2 * y.toNatClampNeg + 1)) * 5) F56 :: gO g50 (r (2 * y.toNatClampNeg + 1)) (r (2 * y.toNatClampNeg + 1)) b51 :: mw κ a r f (va_up (va_up (va_up q 3 t24) 3 t44) 3 t66) (tb a) w) H locs := Bd_del 6 hB
                  replace hB : Bd κ A s (lA κ q76 ((r (2 * y.toNatClampNeg)) * 5) F77 :: gO q75 (r (2 * y.toNatClampNeg)) 1 q76 :: lA κ q72 ((r (2 * z.toNatClampNeg)) * 5) F73 :: gO q71 (r (2 * z.toNatClampNeg)) 1 q72 :: lA κ b51 ((r (2 * y.toNatClampNeg + 1)) * 5) F56 :: mw κ a r f (va_up (va_up (va_up q 3 t24) 3 t44) 3 t66) (tb a) w) H locs := Bd_del 5 hB
                  replace hB : Bd κ A s (lA κ q76 ((r (2 * y.toNatClampNeg)) * 5) F77 :: gO q75 (r (2 * y.toNatClampNeg)) 1 q76 :: lA κ q72 ((r (2 * z.toNatClampNeg)) * 5) F73 :: gO q71 (r (2 * z.toNatClampNeg)) 1 q72 :: mw κ a r f (va_up (va_up (va_up q 3 t24) 3 t44) 3 t66) (tb a) w) H locs := Bd_del 4 hB
                  replace hB : Bd κ A s (lA κ q76 ((r (2 * y.toNatClampNeg)) * 5) F77 :: gO q75 (r (2 * y.toNatClampNeg)) 1 q76 :: lA κ q72 ((r (2 * z.toNatClampNeg)) * 5) F73 :: mw κ a r f (va_up (va_up (va_up q 3 t24) 3 t44) 3 t66) (tb a) w) H locs := Bd_del 3 hB
                  replace hB : Bd κ A s (lA κ q76 ((r (2 * y.toNatClampNeg)) * 5) F77 :: gO q75 (r (2 * y.toNatClampNeg)) 1 q76 :: mw κ a r f (va_up (va_up (va_up q 3 t24) 3 t44) 3 t66) (tb a) w) H locs := Bd_del 2 hB
                  replace hB : Bd κ A s (lA κ q76 ((r (2 * y.toNatClampNeg)) * 5) F77 :: mw κ a r f (va_up (va_up (va_up q 3 t24) 3 t44) 3 t66) (tb a) w) H locs := Bd_del 1 hB
                  replace hB : Bd κ A s (mw κ a r f (va_up (va_up (va_up q 3 t24) 3 t44) 3 t66) (tb a) w) H locs := Bd_del 0 hB
                  rw [← hQ]
                  exact end_i hX hB hA3 rfl rfl (by obtain ⟨rfl, rfl⟩ := pr2 hR; exact ⟨rfl, (Or.inr rfl), ⟨rfl, rfl, rfl⟩, rfl⟩) (Nat.le_of_ble_eq_true rfl) (Nat.le_of_ble_eq_true rfl) dX10_isSolvable_151
              · replace hR := ifn (by decide) hR
                refine W.eq (g2 := F0 m 121 ls [.int 1]) rfl ?_
                refine lv_if_ne (tgt := 150) hx hb dX10_isSolvable_121 (by decide) (fun _ => ?_) (fun c84 => False.elim (by revert c84; decide))
                refine lv_iconst (v := 0) hx hb dX10_isSolvable_150 (by decide) ?_
                replace hB : Bd κ A s (lA κ b51 ((r (2 * y.toNatClampNeg + 1)) * 5) F56 :: gO g50 (r (2 * y.toNatClampNeg + 1)) (r (2 * y.toNatClampNeg + 1)) b51 :: lA κ b53 ((r (2 * y.toNatClampNeg)) * 5) F57 :: gO g52 (r (2 * y.toNatClampNeg)) (r (2 * y.toNatClampNeg)) b53 :: lA κ b55 ((r (2 * y.toNatClampNeg)) * 5) F58 :: gO g54 (r (2 * y.toNatClampNeg)) (r (2 * y.toNatClampNeg + 1)) b55 :: mw κ a r f (va_up (va_up (va_up q 3 t24) 3 t44) 3 t66) (tb a) w) H locs := Bd_del 6 hB
                replace hB : Bd κ A s (lA κ b51 ((r (2 * y.toNatClampNeg + 1)) * 5) F56 :: gO g50 (r (2 * y.toNatClampNeg + 1)) (r (2 * y.toNatClampNeg + 1)) b51 :: lA κ b53 ((r (2 * y.toNatClampNeg)) * 5) F57 :: gO g52 (r (2 * y.toNatClampNeg)) (r (2 * y.toNatClampNeg)) b53 :: lA κ b55 ((r (2 * y.toNatClampNeg)) * 5) F58 :: mw κ a r f (va_up (va_up (va_up q 3 t24) 3 t44) 3 t66) (tb a) w) H locs := Bd_del 5 hB
                replace hB : Bd κ A s (lA κ b51 ((r (2 * y.toNatClampNeg + 1)) * 5) F56 :: gO g50 (r (2 * y.toNatClampNeg + 1)) (r (2 * y.toNatClampNeg + 1)) b51 :: lA κ b53 ((r (2 * y.toNatClampNeg)) * 5) F57 :: gO g52 (r (2 * y.toNatClampNeg)) (r (2 * y.toNatClampNeg)) b53 :: mw κ a r f (va_up (va_up (va_up q 3 t24) 3 t44) 3 t66) (tb a) w) H locs := Bd_del 4 hB
                replace hB : Bd κ A s (lA κ b51 ((r (2 * y.toNatClampNeg + 1)) * 5) F56 :: gO g50 (r (2 * y.toNatClampNeg + 1)) (r (2 * y.toNatClampNeg + 1)) b51 :: lA κ b53 ((r (2 * y.toNatClampNeg)) * 5) F57 :: mw κ a r f (va_up (va_up (va_up q 3 t24) 3 t44) 3 t66) (tb a) w) H locs := Bd_del 3 hB
                replace hB : Bd κ A s (lA κ b51 ((r (2 * y.toNatClampNeg + 1)) * 5) F56 :: gO g50 (r (2 * y.toNatClampNeg + 1)) (r (2 * y.toNatClampNeg + 1)) b51 :: mw κ a r f (va_up (va_up (va_up q 3 t24) 3 t44) 3 t66) (tb a) w) H locs := Bd_del 2 hB
                replace hB : Bd κ A s (lA κ b51 ((r (2 * y.toNatClampNeg + 1)) * 5) F56 :: mw κ a r f (va_up (va_up (va_up q 3 t24) 3 t44) 3 t66) (tb a) w) H locs := Bd_del 1 hB
                replace hB : Bd κ A s (mw κ a r f (va_up (va_up (va_up q 3 t24) 3 t44) 3 t66) (tb a) w) H locs := Bd_del 0 hB
                rw [← hQ]
                exact end_i hX hB hA3 rfl rfl (by obtain ⟨rfl, rfl⟩ := pr2 hR; exact ⟨rfl, (Or.inl rfl), ⟨rfl, rfl, rfl⟩, rfl⟩) (Nat.le_of_ble_eq_true rfl) (Nat.le_of_ble_eq_true rfl) dX10_isSolvable_151
            · replace hR := ifp c48 hR
              refine lv_aload hx hb dX10_isSolvable_87 (lv_at hl 0 rfl) ?_
              refine lv_aload_n hx hb dX10_isSolvable_89 rfl (lv_at hl 1 rfl) ?_
              refine lv_iload_n hx hb dX10_isSolvable_90 rfl (lv_at hl 3 rfl) ?_
              refine lv_iload_n hx hb dX10_isSolvable_91 rfl (lv_at hl 4 rfl) ?_
              obtain ⟨F87, hd88⟩ := ex1 (D_X10_column ((va_up (va_up q 3 t24) 3 t44) 0) ((va_up (va_up q 3 t24) 3 t44) 1) ((va_up (va_up q 3 t24) 3 t44) 2) ((va_up (va_up q 3 t24) 3 t44) 3) (r (2 * z.toNatClampNeg)) (r (2 * z.toNatClampNeg + 1)) (f z.toNatClampNeg) z ((u).toNatClampNeg))
              replace hR := bnd1_use hd88 hR
              refine call_V (n := 2) (k0 := 0) (As := [.int z, .int u]) (rest := [.ref (a (2 + 2 * y.toNatClampNeg))]) hX hB (k_X10_column κ l (mw κ a r f (va_up (va_up q 3 t24) 3 t44) (tb a) w) 0 (a 0) (a 1) 1 ((va_up (va_up q 3 t24) 3 t44) 0) ((va_up (va_up q 3 t24) 3 t44) 1) ((va_up (va_up q 3 t24) 3 t44) 2) ((va_up (va_up q 3 t24) 3 t44) 3) (tb a) (2 + 2 * z.toNatClampNeg) (3 + 2 * z.toNatClampNeg) (a (2 + 2 * z.toNatClampNeg)) (a (3 + 2 * z.toNatClampNeg)) (r (2 * z.toNatClampNeg)) (r (2 * z.toNatClampNeg + 1)) (f z.toNatClampNeg) z u ((u).toNatClampNeg) (mw0x (a := a) (r := r) (f := f) (q := (va_up (va_up q 3 t24) 3 t44)) (T := tb a) (w := w) rfl) (mw1 (a := a) (r := r) (f := f) (q := (va_up (va_up q 3 t24) 3 t44)) (T := tb a) (w := w)) (mwG (i := z.toNatClampNeg) (a := a) (r := r) (f := f) (q := (va_up (va_up q 3 t24) 3 t44)) (T := tb a) (w := w) (by omega)) (mwA (i := z.toNatClampNeg) (a := a) (r := r) (f := f) (q := (va_up (va_up q 3 t24) 3 t44)) (T := tb a) (w := w) (by omega)) (mok_shp (i := z.toNatClampNeg) hm (by omega)) (nI_rep (by assumption)) (vp_in_mk (by assumption) (by assumption)) rfl (by omega) F87 hd88) ⟨rfl, yk_X10_column⟩ wm_7_14 wm_7_16 wp_48 wm_1_6 wm_7_17 ⟨Nat.le_of_ble_eq_true rfl, Nat.le_of_ble_eq_true rfl⟩ ⟨Nat.le_of_ble_eq_true rfl, Nat.le_of_ble_eq_true rfl⟩ (mw0x (a := a) (r := r) (f := f) (q := (va_up (va_up q 3 t24) 3 t44)) (T := tb a) (w := w) rfl) rfl rfl rfl hl.1 rfl (Nat.le_of_ble_eq_true rfl) dX10_isSolvable_92 (fun o w' H locs hp hB => ?_)
              obtain ⟨q85, q86, rfl, hw9⟩ := hp
              replace hB : Bd κ A s (lA κ q86 ((r (2 * z.toNatClampNeg)) * 5) F87 :: gO q85 (r (2 * z.toNatClampNeg)) 1 q86 :: mw κ a r f (va_up (va_up q 3 t24) 3 t44) (tb a) w) H locs := by rw [hw9] at hB; exact hB
              refine W.eq (g2 := F0 m 95 ls [.ref q85, .ref (a (2 + 2 * y.toNatClampNeg))]) rfl ?_
              obtain ⟨x89, hd90⟩ := ex1 (D_X10_isByDivisors (r (2 * y.toNatClampNeg)) (r (2 * y.toNatClampNeg + 1)) (f y.toNatClampNeg) (r (2 * z.toNatClampNeg)) 1 F87)
              replace hR := bnd1_use hd90 hR
              refine call_S (n := 2) (As := [.ref (a (2 + 2 * y.toNatClampNeg)), .ref q85]) (rest := []) hX hB (k_X10_isByDivisors κ l (lA κ q86 ((r (2 * z.toNatClampNeg)) * 5) F87 :: gO q85 (r (2 * z.toNatClampNeg)) 1 q86 :: mw κ a r f (va_up (va_up q 3 t24) 3 t44) (tb a) w) (2 + 2 * y.toNatClampNeg + 2) (3 + 2 * y.toNatClampNeg + 2) (a (2 + 2 * y.toNatClampNeg)) (a (3 + 2 * y.toNatClampNeg)) (r (2 * y.toNatClampNeg)) (r (2 * y.toNatClampNeg + 1)) (f y.toNatClampNeg) 1 0 q85 q86 (r (2 * z.toNatClampNeg)) 1 F87 (mwG (i := y.toNatClampNeg) (a := a) (r := r) (f := f) (q := (va_up (va_up q 3 t24) 3 t44)) (T := tb a) (w := w) (by omega)) (mwA (i := y.toNatClampNeg) (a := a) (r := r) (f := f) (q := (va_up (va_up q 3 t24) 3 t44)) (T := tb a) (w := w) (by omega)) (mok_shp (i := y.toNatClampNeg) hm (by omega)) rfl rfl ⟨by omega, by omega, by omega, by omega⟩ (by omega) (by omega) x89 hd90) yk_X10_isByDivisors wm_7_137 wm_7_138 wm_1_6 wm_7_139 ⟨Nat.le_of_ble_eq_true rfl, Nat.le_of_ble_eq_true rfl⟩ ⟨Nat.le_of_ble_eq_true rfl, Nat.le_of_ble_eq_true rfl⟩ rfl hl.1 rfl (Nat.le_of_ble_eq_true rfl) dX10_isSolvable_95 (fun o w' H locs hp hB => ?_)
              obtain ⟨rfl, hf91, hw9⟩ := hp
              replace hB : Bd κ A s (lA κ q86 ((r (2 * z.toNatClampNeg)) * 5) F87 :: gO q85 (r (2 * z.toNatClampNeg)) 1 q86 :: mw κ a r f (va_up (va_up q 3 t24) 3 t44) (tb a) w) H locs := by rw [hw9] at hB; exact hB
              rcases hf91 with rfl | rfl
              · replace hR := ifp rfl hR
                refine W.eq (g2 := F0 m 98 ls [.int 0]) rfl ?_
                replace hB : Bd κ A s (lA κ q86 ((r (2 * z.toNatClampNeg)) * 5) F87 :: mw κ a r f (va_up (va_up q 3 t24) 3 t44) (tb a) w) H locs := Bd_del 1 hB
                replace hB : Bd κ A s (mw κ a r f (va_up (va_up q 3 t24) 3 t44) (tb a) w) H locs := Bd_del 0 hB
                rw [← hQ]
                exact end_i hX hB hA3 rfl rfl (by obtain ⟨rfl, rfl⟩ := pr2 hR; exact ⟨rfl, (Or.inl rfl), ⟨rfl, rfl, rfl⟩, rfl⟩) (Nat.le_of_ble_eq_true rfl) (Nat.le_of_ble_eq_true rfl) dX10_isSolvable_98
              · replace hR := ifn (by decide) hR
                refine W.eq (g2 := F0 m 98 ls [.int 1]) rfl ?_
                replace hB : Bd κ A s (lA κ q86 ((r (2 * z.toNatClampNeg)) * 5) F87 :: mw κ a r f (va_up (va_up q 3 t24) 3 t44) (tb a) w) H locs := Bd_del 1 hB
                replace hB : Bd κ A s (mw κ a r f (va_up (va_up q 3 t24) 3 t44) (tb a) w) H locs := Bd_del 0 hB
                rw [← hQ]
                exact end_i hX hB hA3 rfl rfl (by obtain ⟨rfl, rfl⟩ := pr2 hR; exact ⟨rfl, (Or.inr rfl), ⟨rfl, rfl, rfl⟩, rfl⟩) (Nat.le_of_ble_eq_true rfl) (Nat.le_of_ble_eq_true rfl) dX10_isSolvable_98
          · replace hR := ifn c42 hR
            refine lv_iconst (v := 1) hx hb dX10_isSolvable_68 (by decide) ?_
            refine lv_goto (tgt := 73) hx hb dX10_isSolvable_69 (by decide) ?_
            obtain ⟨x92, t93, hd94⟩ := ex2 (D_X10_isThrown_ ((va_up q 3 t24) 0) ((va_up q 3 t24) 1) ((va_up q 3 t24) 2) ((va_up q 3 t24) 3) 0 1)
            replace hR := bnd2_use hd94 hR
            refine call_V (n := 2) (k0 := 0) (As := [.int 0, .int 1]) (rest := []) hX hB (k_X10_isThrown_ κ l (mw κ a r f (va_up q 3 t24) (tb a) w) 0 (a 0) (a 1) ((va_up q 3 t24) 0) ((va_up q 3 t24) 1) ((va_up q 3 t24) 2) ((va_up q 3 t24) 3) 0 1 (mw0x (a := a) (r := r) (f := f) (q := (va_up q 3 t24)) (T := tb a) (w := w) rfl) x92 t93 hd94) ⟨rfl, yk_X10_isThrown_⟩ wm_5_192 wm_5_194 wp_27 wm_1_6 wm_5_195 ⟨Nat.le_of_ble_eq_true rfl, Nat.le_of_ble_eq_true rfl⟩ ⟨Nat.le_of_ble_eq_true rfl, Nat.le_of_ble_eq_true rfl⟩ (mw0x (a := a) (r := r) (f := f) (q := (va_up q 3 t24)) (T := tb a) (w := w) rfl) rfl rfl rfl hl.1 rfl (Nat.le_of_ble_eq_true rfl) dX10_isSolvable_73 (fun o w' H locs hp hB => ?_)
            obtain ⟨rfl, hf95, hw9⟩ := hp
            replace hB : Bd κ A s (mw κ a r f (va_up (va_up q 3 t24) 3 t93) (tb a) w) H locs := by exact Bd_eq (mwQ3x rfl _) (by rw [hw9] at hB; exact hB)
            obtain rfl : x92 = 1 := hf95.trans (by decide)
            refine W.eq (g2 := F0 m 76 ls [.int 1]) rfl ?_
            refine lv_if_eq (tgt := 81) hx hb dX10_isSolvable_76 (by decide) (fun c96 => False.elim (by revert c96; decide)) (fun _ => ?_)
            refine lv_iconst (v := 0) hx hb dX10_isSolvable_79 (by decide) ?_
            rw [← hQ]
            exact end_i hX hB hA3 rfl rfl (by obtain ⟨rfl, rfl⟩ := pr2 hR; exact ⟨rfl, (Or.inl rfl), ⟨rfl, rfl, rfl⟩, rfl⟩) (Nat.le_of_ble_eq_true rfl) (Nat.le_of_ble_eq_true rfl) dX10_isSolvable_80
noncomputable def D_X10_restColumn (r : Nat → Nat) (f : Nat → Nat → Int64) (q : Nat → Int32) (y : Int32) (z : Int32) (u : Int32) : Int32 × (Nat → Int32) := bnd1 (D_X10_isTable y) (fun (z1 : Int32) => (if z1 = 0 then bnd2 (D_X10_isThrown__ (q 0) (q 1) (q 2) (q 3) 1) (fun (x6 : Int32) (t7 : Int32) => (0, va_up q 3 t7)) else bnd2 (D_X10_isThrown__ (q 0) (q 1) (q 2) (q 3) 0) (fun (x12 : Int32) (t13 : Int32) => bnd7 (D_X9_init (r (2 * y.toNatClampNeg)) (r (2 * y.toNatClampNeg + 1)) (f y.toNatClampNeg)) (fun (F25 : Nat → Int64) (F26 : Nat → Int64) (F27 : Nat → Int64) (S28 : Int32) (S29 : Int32) (K30 : Nat) (G31 : Int32) => (if z < 0 then bnd2 (D_X10_isThrown ((va_up q 3 t13) 0) ((va_up q 3 t13) 1) ((va_up q 3 t13) 2) ((va_up q 3 t13) 3) 0 G31 1) (fun (x36 : Int32) (t37 : Int32) => (0, va_up (va_up q 3 t13) 3 t37)) else (if (nI ((r (2 * y.toNatClampNeg + 1)) - K30)) ≤ z then bnd2 (D_X10_isThrown ((va_up q 3 t13) 0) ((va_up q 3 t13) 1) ((va_up q 3 t13) 2) ((va_up q 3 t13) 3) 0 G31 1) (fun (x43 : Int32) (t44 : Int32) => (0, va_up (va_up q 3 t13) 3 t44)) else (if u < 0 then bnd2 (D_X10_isThrown ((va_up q 3 t13) 0) ((va_up q 3 t13) 1) ((va_up q 3 t13) 2) ((va_up q 3 t13) 3) 0 G31 1) (fun (x49 : Int32) (t50 : Int32) => (0, va_up (va_up q 3 t13) 3 t50)) else (if u < (nI (r (2 * y.toNatClampNeg + 1))) then bnd2 (D_X10_isThrown ((va_up q 3 t13) 0) ((va_up q 3 t13) 1) ((va_up q 3 t13) 2) ((va_up q 3 t13) 3) 0 G31 0) (fun (x56 : Int32) (t57 : Int32) => (if x56 = 0 then (((F25 (((u).toNatClampNeg) * 5 + (K30 + z.toNatClampNeg)))).toInt32, va_up (va_up q 3 t13) 3 t57) else (0, va_up (va_up q 3 t13) 3 t57))) else bnd2 (D_X10_isThrown ((va_up q 3 t13) 0) ((va_up q 3 t13) 1) ((va_up q 3 t13) 2) ((va_up q 3 t13) 3) 0 G31 1) (fun (x63 : Int32) (t64 : Int32) => (0, va_up (va_up q 3 t13) 3 t64))))))))))
theorem D_X10_restColumn_s {r : Nat → Nat} {f : Nat → Nat → Int64} {q : Nat → Int32} {y : Int32} {z : Int32} {u : Int32} : D_X10_restColumn r f q y z u = bnd1 (D_X10_isTable y) (fun (z1 : Int32) => (if z1 = 0 then bnd2 (D_X10_isThrown__ (q 0) (q 1) (q 2) (q 3) 1) (fun (x6 : Int32) (t7 : Int32) => (0, va_up q 3 t7)) else bnd2 (D_X10_isThrown__ (q 0) (q 1) (q 2) (q 3) 0) (fun (x12 : Int32) (t13 : Int32) => bnd7 (D_X9_init (r (2 * y.toNatClampNeg)) (r (2 * y.toNatClampNeg + 1)) (f y.toNatClampNeg)) (fun (F25 : Nat → Int64) (F26 : Nat → Int64) (F27 : Nat → Int64) (S28 : Int32) (S29 : Int32) (K30 : Nat) (G31 : Int32) => (if z < 0 then bnd2 (D_X10_isThrown ((va_up q 3 t13) 0) ((va_up q 3 t13) 1) ((va_up q 3 t13) 2) ((va_up q 3 t13) 3) 0 G31 1) (fun (x36 : Int32) (t37 : Int32) => (0, va_up (va_up q 3 t13) 3 t37)) else (if (nI ((r (2 * y.toNatClampNeg + 1)) - K30)) ≤ z then bnd2 (D_X10_isThrown ((va_up q 3 t13) 0) ((va_up q 3 t13) 1) ((va_up q 3 t13) 2) ((va_up q 3 t13) 3) 0 G31 1) (fun (x43 : Int32) (t44 : Int32) => (0, va_up (va_up q 3 t13) 3 t44)) else (if u < 0 then bnd2 (D_X10_isThrown ((va_up q 3 t13) 0) ((va_up q 3 t13) 1) ((va_up q 3 t13) 2) ((va_up q 3 t13) 3) 0 G31 1) (fun (x49 : Int32) (t50 : Int32) => (0, va_up (va_up q 3 t13) 3 t50)) else (if u < (nI (r (2 * y.toNatClampNeg + 1))) then bnd2 (D_X10_isThrown ((va_up q 3 t13) 0) ((va_up q 3 t13) 1) ((va_up q 3 t13) 2) ((va_up q 3 t13) 3) 0 G31 0) (fun (x56 : Int32) (t57 : Int32) => (if x56 = 0 then (((F25 (((u).toNatClampNeg) * 5 + (K30 + z.toNatClampNeg)))).toInt32, va_up (va_up q 3 t13) 3 t57) else (0, va_up (va_up q 3 t13) 3 t57))) else bnd2 (D_X10_isThrown ((va_up q 3 t13) 0) ((va_up q 3 t13) 1) ((va_up q 3 t13) 2) ((va_up q 3 t13) 3) 0 G31 1) (fun (x63 : Int32) (t64 : Int32) => (0, va_up (va_up q 3 t13) 3 t64)))))))))) := rfl
set_option maxHeartbeats 4000000 in
set_option maxRecDepth 100000 in
theorem k_X10_restColumn (κ : Kt) (l : Launch) (w : va_W) (a r : Nat → Nat) (f : Nat → Nat → Int64) (q : Nat → Int32) (y : Int32) (z : Int32) (u : Int32) (hm : mok r f) (o_x : Int32) (o_q' : Nat → Int32) (hR : D_X10_restColumn r f q y z u = (o_x, o_q')) : CM κ l yX10_restColumn cX10_restColumn 7 (some .int) 5 121 7 76 [.ref (a 0), .int y, .int z, .int u] (mw κ a r f q (tb a) w) (fun o w' => o = some (.int o_x) ∧ (o_q' 2 = q 2 ∧ o_q' 0 = q 0 ∧ o_q' 1 = q 1) ∧ w' = mw κ a r f o_q' (tb a) w) := by
  refine CM_begin (plainFor_of_name pn_RX10) (Nat.le_of_ble_eq_true rfl) ?_
  intro p e s m args below meth c A Q hX hnm hA3 hQ hB ls hl
  have hx := hX.1.1
  have hb := hX.1.2.1
  have hl : lv_has ls 7 [(0, .ref (a 0)), (1, .int y), (2, .int z), (3, .int u)] := hl
  replace hR := (D_X10_restColumn_s).symm.trans hR
  refine lv_aload_n hx hb dX10_restColumn_0 rfl (lv_at hl 0 rfl) ?_
  refine lv_iload_n hx hb dX10_restColumn_1 rfl (lv_at hl 1 rfl) ?_
  obtain ⟨z1, hd2⟩ := ex1 (D_X10_isTable y)
  replace hR := bnd1_use hd2 hR
  refine call_S (n := 1) (As := [.int y]) (rest := [.ref (a 0)]) hX hB (k_X10_isTable κ l (mw κ a r f q (tb a) w) y z1 hd2) yk_X10_isTable wm_5_186 wm_5_187 wm_1_6 wm_5_188 ⟨Nat.le_of_ble_eq_true rfl, Nat.le_of_ble_eq_true rfl⟩ ⟨Nat.le_of_ble_eq_true rfl, Nat.le_of_ble_eq_true rfl⟩ rfl hl.1 rfl (Nat.le_of_ble_eq_true rfl) dX10_restColumn_2 (fun o w' H locs hp hB => ?_)
  obtain ⟨rfl, hf3, hw9⟩ := hp
  replace hB : Bd κ A s (mw κ a r f q (tb a) w) H locs := by rw [hw9] at hB; exact hB
  rcases hf3 with rfl | ⟨rfl, hz4a, hz4b⟩
  · replace hR := ifp rfl hR
    refine W.eq (g2 := F0 m 5 ls [.int 0, .ref (a 0)]) rfl ?_
    refine lv_if_ne (tgt := 12) hx hb dX10_restColumn_5 (by decide) (fun c5 => False.elim (by revert c5; decide)) (fun _ => ?_)
    refine lv_iconst (v := 1) hx hb dX10_restColumn_8 (by decide) ?_
    refine lv_goto (tgt := 13) hx hb dX10_restColumn_9 (by decide) ?_
    obtain ⟨x6, t7, hd8⟩ := ex2 (D_X10_isThrown__ (q 0) (q 1) (q 2) (q 3) 1)
    replace hR := bnd2_use hd8 hR
    refine call_V (n := 1) (k0 := 0) (As := [.int 1]) (rest := []) hX hB (k_X10_isThrown__ κ l (mw κ a r f q (tb a) w) 0 (a 0) (a 1) (q 0) (q 1) (q 2) (q 3) 1 (mw0x (a := a) (r := r) (f := f) (q := q) (T := tb a) (w := w) rfl) x6 t7 hd8) ⟨rfl, yk_X10_isThrown__⟩ wm_6_15 wm_6_17 wp_33 wm_1_6 wm_6_18 ⟨Nat.le_of_ble_eq_true rfl, Nat.le_of_ble_eq_true rfl⟩ ⟨Nat.le_of_ble_eq_true rfl, Nat.le_of_ble_eq_true rfl⟩ (mw0x (a := a) (r := r) (f := f) (q := q) (T := tb a) (w := w) rfl) rfl rfl rfl hl.1 rfl (Nat.le_of_ble_eq_true rfl) dX10_restColumn_13 (fun o w' H locs hp hB => ?_)
    obtain ⟨rfl, hf9, hw9⟩ := hp
    replace hB : Bd κ A s (mw κ a r f (va_up q 3 t7) (tb a) w) H locs := by exact Bd_eq (mwQ3x rfl _) (by rw [hw9] at hB; exact hB)
    obtain rfl : x6 = 1 := hf9.trans (by decide)
    refine W.eq (g2 := F0 m 16 ls [.int 1]) rfl ?_
    refine lv_if_eq (tgt := 21) hx hb dX10_restColumn_16 (by decide) (fun c10 => False.elim (by revert c10; decide)) (fun _ => ?_)
    refine lv_iconst (v := 0) hx hb dX10_restColumn_19 (by decide) ?_
    rw [← hQ]
    exact end_i hX hB hA3 rfl rfl (by obtain ⟨rfl, rfl⟩ := pr2 hR; exact ⟨rfl, ⟨rfl, rfl, rfl⟩, rfl⟩) (Nat.le_of_ble_eq_true rfl) (Nat.le_of_ble_eq_true rfl) dX10_restColumn_20
  · replace hR := ifn (by decide) hR
    refine W.eq (g2 := F0 m 5 ls [.int 1, .ref (a 0)]) rfl ?_
    refine lv_if_ne (tgt := 12) hx hb dX10_restColumn_5 (by decide) (fun _ => ?_) (fun c11 => False.elim (by revert c11; decide))
    refine lv_iconst (v := 0) hx hb dX10_restColumn_12 (by decide) ?_
    obtain ⟨x12, t13, hd14⟩ := ex2 (D_X10_isThrown__ (q 0) (q 1) (q 2) (q 3) 0)
    replace hR := bnd2_use hd14 hR
    refine call_V (n := 1) (k0 := 0) (As := [.int 0]) (rest := []) hX hB (k_X10_isThrown__ κ l (mw κ a r f q (tb a) w) 0 (a 0) (a 1) (q 0) (q 1) (q 2) (q 3) 0 (mw0x (a := a) (r := r) (f := f) (q := q) (T := tb a) (w := w) rfl) x12 t13 hd14) ⟨rfl, yk_X10_isThrown__⟩ wm_6_15 wm_6_17 wp_33 wm_1_6 wm_6_18 ⟨Nat.le_of_ble_eq_true rfl, Nat.le_of_ble_eq_true rfl⟩ ⟨Nat.le_of_ble_eq_true rfl, Nat.le_of_ble_eq_true rfl⟩ (mw0x (a := a) (r := r) (f := f) (q := q) (T := tb a) (w := w) rfl) rfl rfl rfl hl.1 rfl (Nat.le_of_ble_eq_true rfl) dX10_restColumn_13 (fun o w' H locs hp hB => ?_)
    obtain ⟨rfl, hf15, hw9⟩ := hp
    replace hB : Bd κ A s (mw κ a r f (va_up q 3 t13) (tb a) w) H locs := by exact Bd_eq (mwQ3x rfl _) (by rw [hw9] at hB; exact hB)
    obtain rfl : x12 = 0 := hf15.trans (by decide)
    refine W.eq (g2 := F0 m 16 ls [.int 0]) rfl ?_
    refine lv_if_eq (tgt := 21) hx hb dX10_restColumn_16 (by decide) (fun _ => ?_) (fun c16 => False.elim (by revert c16; decide))
    refine newO (fs := [.null, .null, .null, .int 0, .int 0, .int 0, .int 0]) hX hB (ci := 10) rfl in9 tyX9_ok wm_6_176 wm_6_177 wm_1_16 df10 (Nat.le_of_ble_eq_true rfl) (Nat.le_of_ble_eq_true rfl) dX10_restColumn_21 (fun q17 H hB => ?_)
    refine lv_dup hx hb dX10_restColumn_24 rfl ?_
    refine lv_aload_n hx hb dX10_restColumn_25 rfl (lv_at hl 0 rfl) ?_
    refine gf (k0 := 1) hX hB (mw0x (a := a) (r := r) (f := f) (q := (va_up q 3 t13)) (T := tb a) (w := w) rfl) rfl in10 0 (by decide) wm_5_162 rfl rfl dX10_restColumn_26 ?_
    refine lv_iload_n hx hb dX10_restColumn_29 rfl (lv_at hl 1 rfl) ?_
    refine aaldM (k0 := 2) hX hB (mw1 (a := a) (r := r) (f := f) (q := (va_up q 3 t13)) (T := tb a) (w := w)) (vp_in_mk (by assumption) (by assumption)) rfl dX10_restColumn_30 ?_
    have hb18 := mok_r hm y.toNatClampNeg (by omega)
    obtain ⟨F25, F26, F27, S28, S29, K30, G31, hd32⟩ := ex7 (D_X9_init (r (2 * y.toNatClampNeg)) (r (2 * y.toNatClampNeg + 1)) (f y.toNatClampNeg))
    replace hR := bnd7_use hd32 hR
    refine call_I (n := 1) (As := [.ref (a (2 + 2 * y.toNatClampNeg))]) (rest := [.ref q17]) hX hB (k_X9_init κ l (mw κ a r f (va_up q 3 t13) (tb a) w) q17 (2 + 2 * y.toNatClampNeg) (3 + 2 * y.toNatClampNeg) (a (2 + 2 * y.toNatClampNeg)) (a (3 + 2 * y.toNatClampNeg)) (r (2 * y.toNatClampNeg)) (r (2 * y.toNatClampNeg + 1)) (f y.toNatClampNeg) (mwG (i := y.toNatClampNeg) (a := a) (r := r) (f := f) (q := (va_up q 3 t13)) (T := tb a) (w := w) (by omega)) (mwA (i := y.toNatClampNeg) (a := a) (r := r) (f := f) (q := (va_up q 3 t13)) (T := tb a) (w := w) (by omega)) (mok_shp (i := y.toNatClampNeg) hm (by omega)) (by omega) (fun k hk => sm_ng ((hm _ (by omega)).2 k hk)) F25 F26 F27 S28 S29 K30 G31 hd32) yk_X9_init rfl wm_6_178 wm_6_179 wm_1_16 wm_6_180 ⟨Nat.le_of_ble_eq_true rfl, Nat.le_of_ble_eq_true rfl⟩ ⟨Nat.le_of_ble_eq_true rfl, Nat.le_of_ble_eq_true rfl⟩ rfl hl.1 rfl (Nat.le_of_ble_eq_true rfl) dX10_restColumn_31 (fun o w' H locs hp hB => ?_)
    obtain ⟨g19, b20, g21, b22, g23, b24, rfl, hf33, hw9⟩ := hp
    replace hB : Bd κ A s (lA κ b20 ((r (2 * y.toNatClampNeg + 1)) * 5) F25 :: gO g19 (r (2 * y.toNatClampNeg + 1)) (r (2 * y.toNatClampNeg + 1)) b20 :: lA κ b22 ((r (2 * y.toNatClampNeg)) * 5) F26 :: gO g21 (r (2 * y.toNatClampNeg)) (r (2 * y.toNatClampNeg)) b22 :: lA κ b24 ((r (2 * y.toNatClampNeg)) * 5) F27 :: gO g23 (r (2 * y.toNatClampNeg)) (r (2 * y.toNatClampNeg + 1)) b24 :: (q17, .inr (10, [.ref g23, .ref g21, .ref g19, .int S28, .int S29, .int (nI K30), .int G31])) :: mw κ a r f (va_up q 3 t13) (tb a) w) H locs := by rw [hw9] at hB; exact hB
    refine W.eq (g2 := F0 m 34 ls [.ref q17]) rfl ?_
    refine lv_astore (lv' := [(4, .ref q17), (0, .ref (a 0)), (1, .int y), (2, .int z), (3, .int u)]) hx hb dX10_restColumn_34 hl (by decide) rfl (fun ls hl => ?_)
    refine lv_aload_n hx hb dX10_restColumn_36 rfl (lv_at hl 1 rfl) ?_
    refine gf (k0 := 7) hX hB (mw0x (a := a) (r := r) (f := f) (q := (va_up q 3 t13)) (T := tb a) (w := w) rfl) rfl in10 0 (by decide) wm_5_162 rfl rfl dX10_restColumn_37 ?_
    refine lv_iload_n hx hb dX10_restColumn_40 rfl (lv_at hl 2 rfl) ?_
    refine aaldM (k0 := 8) hX hB (mw1 (a := a) (r := r) (f := f) (q := (va_up q 3 t13)) (T := tb a) (w := w)) (vp_in_mk (by assumption) (by assumption)) rfl dX10_restColumn_41 ?_
    have hb34 := mok_r hm y.toNatClampNeg (by omega)
    refine gf (k0 := 2 + 2 * y.toNatClampNeg + 7) hX hB (mwG (i := y.toNatClampNeg) (a := a) (r := r) (f := f) (q := (va_up q 3 t13)) (T := tb a) (w := w) (by omega)) rfl in7 1 (by decide) wm_5_152 rfl rfl dX10_restColumn_42 ?_
    refine lv_istore (lv' := [(5, .int (nI (r (2 * y.toNatClampNeg + 1)))), (4, .ref q17), (0, .ref (a 0)), (1, .int y), (2, .int z), (3, .int u)]) hx hb dX10_restColumn_45 hl (by decide) rfl (fun ls hl => ?_)
    refine lv_iload_n hx hb dX10_restColumn_47 rfl (lv_at hl 4 rfl) ?_
    refine lv_if_lt (tgt := 73) hx hb dX10_restColumn_48 (by decide) (fun c35 => ?_) (fun c35 => ?_)
    · replace hR := ifp c35 hR
      refine lv_iconst (v := 1) hx hb dX10_restColumn_73 (by decide) ?_
      refine lv_goto (tgt := 78) hx hb dX10_restColumn_74 (by decide) ?_
      refine lv_istore (lv' := [(6, .int 1), (5, .int (nI (r (2 * y.toNatClampNeg + 1)))), (4, .ref q17), (0, .ref (a 0)), (1, .int y), (2, .int z), (3, .int u)]) hx hb dX10_restColumn_78 hl (by decide) rfl (fun ls hl => ?_)
      refine lv_aload_n hx hb dX10_restColumn_80 rfl (lv_at hl 3 rfl) ?_
      refine lv_iconst (v := 0) hx hb dX10_restColumn_81 (by decide) ?_
      refine lv_aload hx hb dX10_restColumn_82 (lv_at hl 2 rfl) ?_
      refine gf (k0 := 6) hX hB rfl rfl in9 6 (by decide) wm_6_234 rfl rfl dX10_restColumn_84 ?_
      refine lv_iload hx hb dX10_restColumn_87 (lv_at hl 0 rfl) ?_
      obtain ⟨x36, t37, hd38⟩ := ex2 (D_X10_isThrown ((va_up q 3 t13) 0) ((va_up q 3 t13) 1) ((va_up q 3 t13) 2) ((va_up q 3 t13) 3) 0 G31 1)
      replace hR := bnd2_use hd38 hR
      refine call_V (n := 3) (k0 := 7) (As := [.int 0, .int G31, .int 1]) (rest := []) hX hB (k_X10_isThrown κ l (lA κ b20 ((r (2 * y.toNatClampNeg + 1)) * 5) F25 :: gO g19 (r (2 * y.toNatClampNeg + 1)) (r (2 * y.toNatClampNeg + 1)) b20 :: lA κ b22 ((r (2 * y.toNatClampNeg)) * 5) F26 :: gO g21 (r (2 * y.toNatClampNeg)) (r (2 * y.toNatClampNeg)) b22 :: lA κ b24 ((r (2 * y.toNatClampNeg)) * 5) F27 :: gO g23 (r (2 * y.toNatClampNeg)) (r (2 * y.toNatClampNeg + 1)) b24 :: (q17, .inr (10, [.ref g23, .ref g21, .ref g19, .int S28, .int S29, .int (nI K30), .int G31])) :: mw κ a r f (va_up q 3 t13) (tb a) w) 7 (a 0) (a 1) ((va_up q 3 t13) 0) ((va_up q 3 t13) 1) ((va_up q 3 t13) 2) ((va_up q 3 t13) 3) 0 G31 1 (mw0x (a := a) (r := r) (f := f) (q := (va_up q 3 t13)) (T := tb a) (w := w) rfl) x36 t37 hd38) ⟨rfl, yk_X10_isThrown⟩ wm_5_196 wm_5_198 wp_28 wm_1_6 wm_5_199 ⟨Nat.le_of_ble_eq_true rfl, Nat.le_of_ble_eq_true rfl⟩ ⟨Nat.le_of_ble_eq_true rfl, Nat.le_of_ble_eq_true rfl⟩ (mw0x (a := a) (r := r) (f := f) (q := (va_up q 3 t13)) (T := tb a) (w := w) rfl) rfl rfl rfl hl.1 rfl (Nat.le_of_ble_eq_true rfl) dX10_restColumn_89 (fun o w' H locs hp hB => ?_)
      obtain ⟨rfl, hf39, hw9⟩ := hp
      replace hB : Bd κ A s (lA κ b20 ((r (2 * y.toNatClampNeg + 1)) * 5) F25 :: gO g19 (r (2 * y.toNatClampNeg + 1)) (r (2 * y.toNatClampNeg + 1)) b20 :: lA κ b22 ((r (2 * y.toNatClampNeg)) * 5) F26 :: gO g21 (r (2 * y.toNatClampNeg)) (r (2 * y.toNatClampNeg)) b22 :: lA κ b24 ((r (2 * y.toNatClampNeg)) * 5) F27 :: gO g23 (r (2 * y.toNatClampNeg)) (r (2 * y.toNatClampNeg + 1)) b24 :: (q17, .inr (10, [.ref g23, .ref g21, .ref g19, .int S28, .int S29, .int (nI K30), .int G31])) :: mw κ a r f (va_up (va_up q 3 t13) 3 t37) (tb a) w) H locs := by exact Bd_eq (congrArg (List.cons _) (congrArg (List.cons _) (congrArg (List.cons _) (congrArg (List.cons _) (congrArg (List.cons _) (congrArg (List.cons _) (congrArg (List.cons _) (mwQ3x rfl _)))))))) (by rw [hw9] at hB; exact hB)
      obtain rfl : x36 = 1 := hf39.trans (thr_3 (by decide)).symm
      refine W.eq (g2 := F0 m 92 ls [.int 1]) rfl ?_
      refine lv_if_eq (tgt := 97) hx hb dX10_restColumn_92 (by decide) (fun c40 => False.elim (by revert c40; decide)) (fun _ => ?_)
      refine lv_iconst (v := 0) hx hb dX10_restColumn_95 (by decide) ?_
      replace hB : Bd κ A s (lA κ b20 ((r (2 * y.toNatClampNeg + 1)) * 5) F25 :: gO g19 (r (2 * y.toNatClampNeg + 1)) (r (2 * y.toNatClampNeg + 1)) b20 :: lA κ b22 ((r (2 * y.toNatClampNeg)) * 5) F26 :: gO g21 (r (2 * y.toNatClampNeg)) (r (2 * y.toNatClampNeg)) b22 :: lA κ b24 ((r (2 * y.toNatClampNeg)) * 5) F27 :: gO g23 (r (2 * y.toNatClampNeg)) (r (2 * y.toNatClampNeg + 1)) b24 :: mw κ a r f (va_up (va_up q 3 t13) 3 t37) (tb a) w) H locs := Bd_del 6 hB
      replace hB : Bd κ A s (lA κ b20 ((r (2 * y.toNatClampNeg + 1)) * 5) F25 :: gO g19 (r (2 * y.toNatClampNeg + 1)) (r (2 * y.toNatClampNeg + 1)) b20 :: lA κ b22 ((r (2 * y.toNatClampNeg)) * 5) F26 :: gO g21 (r (2 * y.toNatClampNeg)) (r (2 * y.toNatClampNeg)) b22 :: lA κ b24 ((r (2 * y.toNatClampNeg)) * 5) F27 :: mw κ a r f (va_up (va_up q 3 t13) 3 t37) (tb a) w) H locs := Bd_del 5 hB
      replace hB : Bd κ A s (lA κ b20 ((r (2 * y.toNatClampNeg + 1)) * 5) F25 :: gO g19 (r (2 * y.toNatClampNeg + 1)) (r (2 * y.toNatClampNeg + 1)) b20 :: lA κ b22 ((r (2 * y.toNatClampNeg)) * 5) F26 :: gO g21 (r (2 * y.toNatClampNeg)) (r (2 * y.toNatClampNeg)) b22 :: mw κ a r f (va_up (va_up q 3 t13) 3 t37) (tb a) w) H locs := Bd_del 4 hB
      replace hB : Bd κ A s (lA κ b20 ((r (2 * y.toNatClampNeg + 1)) * 5) F25 :: gO g19 (r (2 * y.toNatClampNeg + 1)) (r (2 * y.toNatClampNeg + 1)) b20 :: lA κ b22 ((r (2 * y.toNatClampNeg)) * 5) F26 :: mw κ a r f (va_up (va_up q 3 t13) 3 t37) (tb a) w) H locs := Bd_del 3 hB
      replace hB : Bd κ A s (lA κ b20 ((r (2 * y.toNatClampNeg + 1)) * 5) F25 :: gO g19 (r (2 * y.toNatClampNeg + 1)) (r (2 * y.toNatClampNeg + 1)) b20 :: mw κ a r f (va_up (va_up q 3 t13) 3 t37) (tb a) w) H locs := Bd_del 2 hB
      replace hB : Bd κ A s (lA κ b20 ((r (2 * y.toNatClampNeg + 1)) * 5) F25 :: mw κ a r f (va_up (va_up q 3 t13) 3 t37) (tb a) w) H locs := Bd_del 1 hB
      replace hB : Bd κ A s (mw κ a r f (va_up (va_up q 3 t13) 3 t37) (tb a) w) H locs := Bd_del 0 hB
      rw [← hQ]
      exact end_i hX hB hA3 rfl rfl (by obtain ⟨rfl, rfl⟩ := pr2 hR; exact ⟨rfl, ⟨rfl, rfl, rfl⟩, rfl⟩) (Nat.le_of_ble_eq_true rfl) (Nat.le_of_ble_eq_true rfl) dX10_restColumn_96
    · replace hR := ifn c35 hR
      refine lv_iload_n hx hb dX10_restColumn_51 rfl (lv_at hl 4 rfl) ?_
      refine lv_iload hx hb dX10_restColumn_52 (lv_at hl 0 rfl) ?_
      refine lv_aload hx hb dX10_restColumn_54 (lv_at hl 1 rfl) ?_
      refine gf (k0 := 6) hX hB rfl rfl in9 5 (by decide) wm_6_232 rfl rfl dX10_restColumn_56 ?_
      have hK := hf33
      refine lv_isub hx hb dX10_restColumn_59 ?_
      refine eqi (y := nI ((r (2 * y.toNatClampNeg + 1)) - K30)) (nI_sub (a := r (2 * y.toNatClampNeg + 1)) (b := K30) (by omega)) ?_
      refine lv_icmp_ge (tgt := 73) hx hb dX10_restColumn_60 (by decide) (fun c42 => ?_) (fun c42 => ?_)
      · replace hR := ifp c42 hR
        refine lv_iconst (v := 1) hx hb dX10_restColumn_73 (by decide) ?_
        refine lv_goto (tgt := 78) hx hb dX10_restColumn_74 (by decide) ?_
        refine lv_istore (lv' := [(6, .int 1), (5, .int (nI (r (2 * y.toNatClampNeg + 1)))), (4, .ref q17), (0, .ref (a 0)), (1, .int y), (2, .int z), (3, .int u)]) hx hb dX10_restColumn_78 hl (by decide) rfl (fun ls hl => ?_)
        refine lv_aload_n hx hb dX10_restColumn_80 rfl (lv_at hl 3 rfl) ?_
        refine lv_iconst (v := 0) hx hb dX10_restColumn_81 (by decide) ?_
        refine lv_aload hx hb dX10_restColumn_82 (lv_at hl 2 rfl) ?_
        refine gf (k0 := 6) hX hB rfl rfl in9 6 (by decide) wm_6_234 rfl rfl dX10_restColumn_84 ?_
        refine lv_iload hx hb dX10_restColumn_87 (lv_at hl 0 rfl) ?_
        obtain ⟨x43, t44, hd45⟩ := ex2 (D_X10_isThrown ((va_up q 3 t13) 0) ((va_up q 3 t13) 1) ((va_up q 3 t13) 2) ((va_up q 3 t13) 3) 0 G31 1)
        replace hR := bnd2_use hd45 hR
        refine call_V (n := 3) (k0 := 7) (As := [.int 0, .int G31, .int 1]) (rest := []) hX hB (k_X10_isThrown κ l (lA κ b20 ((r (2 * y.toNatClampNeg + 1)) * 5) F25 :: gO g19 (r (2 * y.toNatClampNeg + 1)) (r (2 * y.toNatClampNeg + 1)) b20 :: lA κ b22 ((r (2 * y.toNatClampNeg)) * 5) F26 :: gO g21 (r (2 * y.toNatClampNeg)) (r (2 * y.toNatClampNeg)) b22 :: lA κ b24 ((r (2 * y.toNatClampNeg)) * 5) F27 :: gO g23 (r (2 * y.toNatClampNeg)) (r (2 * y.toNatClampNeg + 1)) b24 :: (q17, .inr (10, [.ref g23, .ref g21, .ref g19, .int S28, .int S29, .int (nI K30), .int G31])) :: mw κ a r f (va_up q 3 t13) (tb a) w) 7 (a 0) (a 1) ((va_up q 3 t13) 0) ((va_up q 3 t13) 1) ((va_up q 3 t13) 2) ((va_up q 3 t13) 3) 0 G31 1 (mw0x (a := a) (r := r) (f := f) (q := (va_up q 3 t13)) (T := tb a) (w := w) rfl) x43 t44 hd45) ⟨rfl, yk_X10_isThrown⟩ wm_5_196 wm_5_198 wp_28 wm_1_6 wm_5_199 ⟨Nat.le_of_ble_eq_true rfl, Nat.le_of_ble_eq_true rfl⟩ ⟨Nat.le_of_ble_eq_true rfl, Nat.le_of_ble_eq_true rfl⟩ (mw0x (a := a) (r := r) (f := f) (q := (va_up q 3 t13)) (T := tb a) (w := w) rfl) rfl rfl rfl hl.1 rfl (Nat.le_of_ble_eq_true rfl) dX10_restColumn_89 (fun o w' H locs hp hB => ?_)
        obtain ⟨rfl, hf46, hw9⟩ := hp
        replace hB : Bd κ A s (lA κ b20 ((r (2 * y.toNatClampNeg + 1)) * 5) F25 :: gO g19 (r (2 * y.toNatClampNeg + 1)) (r (2 * y.toNatClampNeg + 1)) b20 :: lA κ b22 ((r (2 * y.toNatClampNeg)) * 5) F26 :: gO g21 (r (2 * y.toNatClampNeg)) (r (2 * y.toNatClampNeg)) b22 :: lA κ b24 ((r (2 * y.toNatClampNeg)) * 5) F27 :: gO g23 (r (2 * y.toNatClampNeg)) (r (2 * y.toNatClampNeg + 1)) b24 :: (q17, .inr (10, [.ref g23, .ref g21, .ref g19, .int S28, .int S29, .int (nI K30), .int G31])) :: mw κ a r f (va_up (va_up q 3 t13) 3 t44) (tb a) w) H locs := by exact Bd_eq (congrArg (List.cons _) (congrArg (List.cons _) (congrArg (List.cons _) (congrArg (List.cons _) (congrArg (List.cons _) (congrArg (List.cons _) (congrArg (List.cons _) (mwQ3x rfl _)))))))) (by rw [hw9] at hB; exact hB)
        obtain rfl : x43 = 1 := hf46.trans (thr_3 (by decide)).symm
        refine W.eq (g2 := F0 m 92 ls [.int 1]) rfl ?_
        refine lv_if_eq (tgt := 97) hx hb dX10_restColumn_92 (by decide) (fun c47 => False.elim (by revert c47; decide)) (fun _ => ?_)
        refine lv_iconst (v := 0) hx hb dX10_restColumn_95 (by decide) ?_
        replace hB : Bd κ A s (lA κ b20 ((r (2 * y.toNatClampNeg + 1)) * 5) F25 :: gO g19 (r (2 * y.toNatClampNeg + 1)) (r (2 * y.toNatClampNeg + 1)) b20 :: lA κ b22 ((r (2 * y.toNatClampNeg)) * 5) F26 :: gO g21 (r (2 * y.toNatClampNeg)) (r (2 * y.toNatClampNeg)) b22 :: lA κ b24 ((r (2 * y.toNatClampNeg)) * 5) F27 :: gO g23 (r (2 * y.toNatClampNeg)) (r (2 * y.toNatClampNeg + 1)) b24 :: mw κ a r f (va_up (va_up q 3 t13) 3 t44) (tb a) w) H locs := Bd_del 6 hB
        replace hB : Bd κ A s (lA κ b20 ((r (2 * y.toNatClampNeg + 1)) * 5) F25 :: gO g19 (r (2 * y.toNatClampNeg + 1)) (r (2 * y.toNatClampNeg + 1)) b20 :: lA κ b22 ((r (2 * y.toNatClampNeg)) * 5) F26 :: gO g21 (r (2 * y.toNatClampNeg)) (r (2 * y.toNatClampNeg)) b22 :: lA κ b24 ((r (2 * y.toNatClampNeg)) * 5) F27 :: mw κ a r f (va_up (va_up q 3 t13) 3 t44) (tb a) w) H locs := Bd_del 5 hB
        replace hB : Bd κ A s (lA κ b20 ((r (2 * y.toNatClampNeg + 1)) * 5) F25 :: gO g19 (r (2 * y.toNatClampNeg + 1)) (r (2 * y.toNatClampNeg + 1)) b20 :: lA κ b22 ((r (2 * y.toNatClampNeg)) * 5) F26 :: gO g21 (r (2 * y.toNatClampNeg)) (r (2 * y.toNatClampNeg)) b22 :: mw κ a r f (va_up (va_up q 3 t13) 3 t44) (tb a) w) H locs := Bd_del 4 hB
        replace hB : Bd κ A s (lA κ b20 ((r (2 * y.toNatClampNeg + 1)) * 5) F25 :: gO g19 (r (2 * y.toNatClampNeg + 1)) (r (2 * y.toNatClampNeg + 1)) b20 :: lA κ b22 ((r (2 * y.toNatClampNeg)) * 5) F26 :: mw κ a r f (va_up (va_up q 3 t13) 3 t44) (tb a) w) H locs := Bd_del 3 hB
        replace hB : Bd κ A s (lA κ b20 ((r (2 * y.toNatClampNeg + 1)) * 5) F25 :: gO g19 (r (2 * y.toNatClampNeg + 1)) (r (2 * y.toNatClampNeg + 1)) b20 :: mw κ a r f (va_up (va_up q 3 t13) 3 t44) (tb a) w) H locs := Bd_del 2 hB
        replace hB : Bd κ A s (lA κ b20 ((r (2 * y.toNatClampNeg + 1)) * 5) F25 :: mw κ a r f (va_up (va_up q 3 t13) 3 t44) (tb a) w) H locs := Bd_del 1 hB
        replace hB : Bd κ A s (mw κ a r f (va_up (va_up q 3 t13) 3 t44) (tb a) w) H locs := Bd_del 0 hB
        rw [← hQ]
        exact end_i hX hB hA3 rfl rfl (by obtain ⟨rfl, rfl⟩ := pr2 hR; exact ⟨rfl, ⟨rfl, rfl, rfl⟩, rfl⟩) (Nat.le_of_ble_eq_true rfl) (Nat.le_of_ble_eq_true rfl) dX10_restColumn_96
      · replace hR := ifn c42 hR
        have hq41 := nlt_of (x := z) (n := (r (2 * y.toNatClampNeg + 1)) - K30) c35 (by omega) c42
        refine lv_iload_n hx hb dX10_restColumn_63 rfl (lv_at hl 5 rfl) ?_
        refine lv_if_lt (tgt := 73) hx hb dX10_restColumn_64 (by decide) (fun c48 => ?_) (fun c48 => ?_)
        · replace hR := ifp c48 hR
          refine lv_iconst (v := 1) hx hb dX10_restColumn_73 (by decide) ?_
          refine lv_goto (tgt := 78) hx hb dX10_restColumn_74 (by decide) ?_
          refine lv_istore (lv' := [(6, .int 1), (5, .int (nI (r (2 * y.toNatClampNeg + 1)))), (4, .ref q17), (0, .ref (a 0)), (1, .int y), (2, .int z), (3, .int u)]) hx hb dX10_restColumn_78 hl (by decide) rfl (fun ls hl => ?_)
          refine lv_aload_n hx hb dX10_restColumn_80 rfl (lv_at hl 3 rfl) ?_
          refine lv_iconst (v := 0) hx hb dX10_restColumn_81 (by decide) ?_
          refine lv_aload hx hb dX10_restColumn_82 (lv_at hl 2 rfl) ?_
          refine gf (k0 := 6) hX hB rfl rfl in9 6 (by decide) wm_6_234 rfl rfl dX10_restColumn_84 ?_
          refine lv_iload hx hb dX10_restColumn_87 (lv_at hl 0 rfl) ?_
          obtain ⟨x49, t50, hd51⟩ := ex2 (D_X10_isThrown ((va_up q 3 t13) 0) ((va_up q 3 t13) 1) ((va_up q 3 t13) 2) ((va_up q 3 t13) 3) 0 G31 1)
          replace hR := bnd2_use hd51 hR
          refine call_V (n := 3) (k0 := 7) (As := [.int 0, .int G31, .int 1]) (rest := []) hX hB (k_X10_isThrown κ l (lA κ b20 ((r (2 * y.toNatClampNeg + 1)) * 5) F25 :: gO g19 (r (2 * y.toNatClampNeg + 1)) (r (2 * y.toNatClampNeg + 1)) b20 :: lA κ b22 ((r (2 * y.toNatClampNeg)) * 5) F26 :: gO g21 (r (2 * y.toNatClampNeg)) (r (2 * y.toNatClampNeg)) b22 :: lA κ b24 ((r (2 * y.toNatClampNeg)) * 5) F27 :: gO g23 (r (2 * y.toNatClampNeg)) (r (2 * y.toNatClampNeg + 1)) b24 :: (q17, .inr (10, [.ref g23, .ref g21, .ref g19, .int S28, .int S29, .int (nI K30), .int G31])) :: mw κ a r f (va_up q 3 t13) (tb a) w) 7 (a 0) (a 1) ((va_up q 3 t13) 0) ((va_up q 3 t13) 1) ((va_up q 3 t13) 2) ((va_up q 3 t13) 3) 0 G31 1 (mw0x (a := a) (r := r) (f := f) (q := (va_up q 3 t13)) (T := tb a) (w := w) rfl) x49 t50 hd51) ⟨rfl, yk_X10_isThrown⟩ wm_5_196 wm_5_198 wp_28 wm_1_6 wm_5_199 ⟨Nat.le_of_ble_eq_true rfl, Nat.le_of_ble_eq_true rfl⟩ ⟨Nat.le_of_ble_eq_true rfl, Nat.le_of_ble_eq_true rfl⟩ (mw0x (a := a) (r := r) (f := f) (q := (va_up q 3 t13)) (T := tb a) (w := w) rfl) rfl rfl rfl hl.1 rfl (Nat.le_of_ble_eq_true rfl) dX10_restColumn_89 (fun o w' H locs hp hB => ?_)
          obtain ⟨rfl, hf52, hw9⟩ := hp
          replace hB : Bd κ A s (lA κ b20 ((r (2 * y.toNatClampNeg + 1)) * 5) F25 :: gO g19 (r (2 * y.toNatClampNeg + 1)) (r (2 * y.toNatClampNeg + 1)) b20 :: lA κ b22 ((r (2 * y.toNatClampNeg)) * 5) F26 :: gO g21 (r (2 * y.toNatClampNeg)) (r (2 * y.toNatClampNeg)) b22 :: lA κ b24 ((r (2 * y.toNatClampNeg)) * 5) F27 :: gO g23 (r (2 * y.toNatClampNeg)) (r (2 * y.toNatClampNeg + 1)) b24 :: (q17, .inr (10, [.ref g23, .ref g21, .ref g19, .int S28, .int S29, .int (nI K30), .int G31])) :: mw κ a r f (va_up (va_up q 3 t13) 3 t50) (tb a) w) H locs := by exact Bd_eq (congrArg (List.cons _) (congrArg (List.cons _) (congrArg (List.cons _) (congrArg (List.cons _) (congrArg (List.cons _) (congrArg (List.cons _) (congrArg (List.cons _) (mwQ3x rfl _)))))))) (by rw [hw9] at hB; exact hB)
          obtain rfl : x49 = 1 := hf52.trans (thr_3 (by decide)).symm
          refine W.eq (g2 := F0 m 92 ls [.int 1]) rfl ?_
          refine lv_if_eq (tgt := 97) hx hb dX10_restColumn_92 (by decide) (fun c53 => False.elim (by revert c53; decide)) (fun _ => ?_)
          refine lv_iconst (v := 0) hx hb dX10_restColumn_95 (by decide) ?_
          replace hB : Bd κ A s (lA κ b20 ((r (2 * y.toNatClampNeg + 1)) * 5) F25 :: gO g19 (r (2 * y.toNatClampNeg + 1)) (r (2 * y.toNatClampNeg + 1)) b20 :: lA κ b22 ((r (2 * y.toNatClampNeg)) * 5) F26 :: gO g21 (r (2 * y.toNatClampNeg)) (r (2 * y.toNatClampNeg)) b22 :: lA κ b24 ((r (2 * y.toNatClampNeg)) * 5) F27 :: gO g23 (r (2 * y.toNatClampNeg)) (r (2 * y.toNatClampNeg + 1)) b24 :: mw κ a r f (va_up (va_up q 3 t13) 3 t50) (tb a) w) H locs := Bd_del 6 hB
          replace hB : Bd κ A s (lA κ b20 ((r (2 * y.toNatClampNeg + 1)) * 5) F25 :: gO g19 (r (2 * y.toNatClampNeg + 1)) (r (2 * y.toNatClampNeg + 1)) b20 :: lA κ b22 ((r (2 * y.toNatClampNeg)) * 5) F26 :: gO g21 (r (2 * y.toNatClampNeg)) (r (2 * y.toNatClampNeg)) b22 :: lA κ b24 ((r (2 * y.toNatClampNeg)) * 5) F27 :: mw κ a r f (va_up (va_up q 3 t13) 3 t50) (tb a) w) H locs := Bd_del 5 hB
          replace hB : Bd κ A s (lA κ b20 ((r (2 * y.toNatClampNeg + 1)) * 5) F25 :: gO g19 (r (2 * y.toNatClampNeg + 1)) (r (2 * y.toNatClampNeg + 1)) b20 :: lA κ b22 ((r (2 * y.toNatClampNeg)) * 5) F26 :: gO g21 (r (2 * y.toNatClampNeg)) (r (2 * y.toNatClampNeg)) b22 :: mw κ a r f (va_up (va_up q 3 t13) 3 t50) (tb a) w) H locs := Bd_del 4 hB
          replace hB : Bd κ A s (lA κ b20 ((r (2 * y.toNatClampNeg + 1)) * 5) F25 :: gO g19 (r (2 * y.toNatClampNeg + 1)) (r (2 * y.toNatClampNeg + 1)) b20 :: lA κ b22 ((r (2 * y.toNatClampNeg)) * 5) F26 :: mw κ a r f (va_up (va_up q 3 t13) 3 t50) (tb a) w) H locs := Bd_del 3 hB
          replace hB : Bd κ A s (lA κ b20 ((r (2 * y.toNatClampNeg + 1)) * 5) F25 :: gO g19 (r (2 * y.toNatClampNeg + 1)) (r (2 * y.toNatClampNeg + 1)) b20 :: mw κ a r f (va_up (va_up q 3 t13) 3 t50) (tb a) w) H locs := Bd_del 2 hB
          replace hB : Bd κ A s (lA κ b20 ((r (2 * y.toNatClampNeg + 1)) * 5) F25 :: mw κ a r f (va_up (va_up q 3 t13) 3 t50) (tb a) w) H locs := Bd_del 1 hB
          replace hB : Bd κ A s (mw κ a r f (va_up (va_up q 3 t13) 3 t50) (tb a) w) H locs := Bd_del 0 hB
          rw [← hQ]
          exact end_i hX hB hA3 rfl rfl (by obtain ⟨rfl, rfl⟩ := pr2 hR; exact ⟨rfl, ⟨rfl, rfl, rfl⟩, rfl⟩) (Nat.le_of_ble_eq_true rfl) (Nat.le_of_ble_eq_true rfl) dX10_restColumn_96
        · replace hR := ifn c48 hR
          refine lv_iload_n hx hb dX10_restColumn_67 rfl (lv_at hl 5 rfl) ?_
          refine lv_iload hx hb dX10_restColumn_68 (lv_at hl 0 rfl) ?_
          refine lv_icmp_lt (tgt := 77) hx hb dX10_restColumn_70 (by decide) (fun c55 => ?_) (fun c55 => ?_)
          · replace hR := ifp c55 hR
            have hq54 := nlt_of (x := u) (n := r (2 * y.toNatClampNeg + 1)) c48 (by omega) (Int32.not_le.mpr c55)
            refine lv_iconst (v := 0) hx hb dX10_restColumn_77 (by decide) ?_
            refine lv_istore (lv' := [(6, .int 0), (5, .int (nI (r (2 * y.toNatClampNeg + 1)))), (4, .ref q17), (0, .ref (a 0)), (1, .int y), (2, .int z), (3, .int u)]) hx hb dX10_restColumn_78 hl (by decide) rfl (fun ls hl => ?_)
            refine lv_aload_n hx hb dX10_restColumn_80 rfl (lv_at hl 3 rfl) ?_
            refine lv_iconst (v := 0) hx hb dX10_restColumn_81 (by decide) ?_
            refine lv_aload hx hb dX10_restColumn_82 (lv_at hl 2 rfl) ?_
            refine gf (k0 := 6) hX hB rfl rfl in9 6 (by decide) wm_6_234 rfl rfl dX10_restColumn_84 ?_
            refine lv_iload hx hb dX10_restColumn_87 (lv_at hl 0 rfl) ?_
            obtain ⟨x56, t57, hd58⟩ := ex2 (D_X10_isThrown ((va_up q 3 t13) 0) ((va_up q 3 t13) 1) ((va_up q 3 t13) 2) ((va_up q 3 t13) 3) 0 G31 0)
            replace hR := bnd2_use hd58 hR
            refine call_V (n := 3) (k0 := 7) (As := [.int 0, .int G31, .int 0]) (rest := []) hX hB (k_X10_isThrown κ l (lA κ b20 ((r (2 * y.toNatClampNeg + 1)) * 5) F25 :: gO g19 (r (2 * y.toNatClampNeg + 1)) (r (2 * y.toNatClampNeg + 1)) b20 :: lA κ b22 ((r (2 * y.toNatClampNeg)) * 5) F26 :: gO g21 (r (2 * y.toNatClampNeg)) (r (2 * y.toNatClampNeg)) b22 :: lA κ b24 ((r (2 * y.toNatClampNeg)) * 5) F27 :: gO g23 (r (2 * y.toNatClampNeg)) (r (2 * y.toNatClampNeg + 1)) b24 :: (q17, .inr (10, [.ref g23, .ref g21, .ref g19, .int S28, .int S29, .int (nI K30), .int G31])) :: mw κ a r f (va_up q 3 t13) (tb a) w) 7 (a 0) (a 1) ((va_up q 3 t13) 0) ((va_up q 3 t13) 1) ((va_up q 3 t13) 2) ((va_up q 3 t13) 3) 0 G31 0 (mw0x (a := a) (r := r) (f := f) (q := (va_up q 3 t13)) (T := tb a) (w := w) rfl) x56 t57 hd58) ⟨rfl, yk_X10_isThrown⟩ wm_5_196 wm_5_198 wp_28 wm_1_6 wm_5_199 ⟨Nat.le_of_ble_eq_true rfl, Nat.le_of_ble_eq_true rfl⟩ ⟨Nat.le_of_ble_eq_true rfl, Nat.le_of_ble_eq_true rfl⟩ (mw0x (a := a) (r := r) (f := f) (q := (va_up q 3 t13)) (T := tb a) (w := w) rfl) rfl rfl rfl hl.1 rfl (Nat.le_of_ble_eq_true rfl) dX10_restColumn_89 (fun o w' H locs hp hB => ?_)
            obtain ⟨rfl, hf59, hw9⟩ := hp
            replace hB : Bd κ A s (lA κ b20 ((r (2 * y.toNatClampNeg + 1)) * 5) F25 :: gO g19 (r (2 * y.toNatClampNeg + 1)) (r (2 * y.toNatClampNeg + 1)) b20 :: lA κ b22 ((r (2 * y.toNatClampNeg)) * 5) F26 :: gO g21 (r (2 * y.toNatClampNeg)) (r (2 * y.toNatClampNeg)) b22 :: lA κ b24 ((r (2 * y.toNatClampNeg)) * 5) F27 :: gO g23 (r (2 * y.toNatClampNeg)) (r (2 * y.toNatClampNeg + 1)) b24 :: (q17, .inr (10, [.ref g23, .ref g21, .ref g19, .int S28, .int S29, .int (nI K30), .int G31])) :: mw κ a r f (va_up (va_up q 3 t13) 3 t57) (tb a) w) H locs := by exact Bd_eq (congrArg (List.cons _) (congrArg (List.cons _) (congrArg (List.cons _) (congrArg (List.cons _) (congrArg (List.cons _) (congrArg (List.cons _) (congrArg (List.cons _) (mwQ3x rfl _)))))))) (by rw [hw9] at hB; exact hB)
            rcases thr_cases hf59 with ⟨rfl, hz60a, hz60b, hz60c⟩ | ⟨rfl, hz60⟩
            · replace hR := ifp rfl hR
              refine W.eq (g2 := F0 m 92 ls [.int 0]) rfl ?_
              refine lv_if_eq (tgt := 97) hx hb dX10_restColumn_92 (by decide) (fun _ => ?_) (fun c61 => False.elim (by revert c61; decide))
              refine lv_aload hx hb dX10_restColumn_97 (lv_at hl 2 rfl) ?_
              refine gf (k0 := 6) hX hB rfl rfl in9 2 (by decide) wm_6_226 rfl rfl dX10_restColumn_99 ?_
              refine lv_iload_n hx hb dX10_restColumn_102 rfl (lv_at hl 6 rfl) ?_
              refine lv_aload hx hb dX10_restColumn_103 (lv_at hl 2 rfl) ?_
              refine gf (k0 := 6) hX hB rfl rfl in9 5 (by decide) wm_6_232 rfl rfl dX10_restColumn_105 ?_
              refine lv_iload_n hx hb dX10_restColumn_108 rfl (lv_at hl 5 rfl) ?_
              refine eqi (y := nI (z.toNatClampNeg)) (nI_rep (Int32.not_lt.mp (by assumption))) ?_
              refine lv_iadd hx hb dX10_restColumn_109 ?_
              refine eqi (y := nI (K30 + z.toNatClampNeg)) (nI_add K30 z.toNatClampNeg) ?_
              refine call_V (n := 2) (k0 := 1) (As := [.int u, .int (nI (K30 + z.toNatClampNeg))]) (rest := []) hX hB (k_X7_at κ l (lA κ b20 ((r (2 * y.toNatClampNeg + 1)) * 5) F25 :: gO g19 (r (2 * y.toNatClampNeg + 1)) (r (2 * y.toNatClampNeg + 1)) b20 :: lA κ b22 ((r (2 * y.toNatClampNeg)) * 5) F26 :: gO g21 (r (2 * y.toNatClampNeg)) (r (2 * y.toNatClampNeg)) b22 :: lA κ b24 ((r (2 * y.toNatClampNeg)) * 5) F27 :: gO g23 (r (2 * y.toNatClampNeg)) (r (2 * y.toNatClampNeg + 1)) b24 :: (q17, .inr (10, [.ref g23, .ref g21, .ref g19, .int S28, .int S29, .int (nI K30), .int G31])) :: mw κ a r f (va_up (va_up q 3 t13) 3 t57) (tb a) w) 1 0 g19 b20 (r (2 * y.toNatClampNeg + 1)) (r (2 * y.toNatClampNeg + 1)) F25 u ((u).toNatClampNeg) (nI (K30 + z.toNatClampNeg)) (K30 + z.toNatClampNeg) rfl rfl ⟨by omega, by omega, by omega, by omega⟩ (nI_rep (Int32.not_lt.mp (by assumption))) rfl (by omega)) ⟨rfl, yk_X7_at⟩ wm_5_237 wm_5_238 wm_5_239 wm_1_7 wm_6_0 ⟨Nat.le_of_ble_eq_true rfl, Nat.le_of_ble_eq_true rfl⟩ ⟨Nat.le_of_ble_eq_true rfl, Nat.le_of_ble_eq_true rfl⟩ rfl rfl rfl rfl hl.1 rfl (Nat.le_of_ble_eq_true rfl) dX10_restColumn_110 (fun o w' H locs hp hB => ?_)
              obtain ⟨rfl, hw9⟩ := hp
              replace hB : Bd κ A s (lA κ b20 ((r (2 * y.toNatClampNeg + 1)) * 5) F25 :: gO g19 (r (2 * y.toNatClampNeg + 1)) (r (2 * y.toNatClampNeg + 1)) b20 :: lA κ b22 ((r (2 * y.toNatClampNeg)) * 5) F26 :: gO g21 (r (2 * y.toNatClampNeg)) (r (2 * y.toNatClampNeg)) b22 :: lA κ b24 ((r (2 * y.toNatClampNeg)) * 5) F27 :: gO g23 (r (2 * y.toNatClampNeg)) (r (2 * y.toNatClampNeg + 1)) b24 :: (q17, .inr (10, [.ref g23, .ref g21, .ref g19, .int S28, .int S29, .int (nI K30), .int G31])) :: mw κ a r f (va_up (va_up q 3 t13) 3 t57) (tb a) w) H locs := by rw [hw9] at hB; exact hB
              refine W.eq (g2 := F0 m 113 ls [.long (F25 (((u).toNatClampNeg) * 5 + (K30 + z.toNatClampNeg)))]) rfl ?_
              refine lv_l2i hx hb dX10_restColumn_113 rfl ?_
              replace hB : Bd κ A s (lA κ b20 ((r (2 * y.toNatClampNeg + 1)) * 5) F25 :: gO g19 (r (2 * y.toNatClampNeg + 1)) (r (2 * y.toNatClampNeg + 1)) b20 :: lA κ b22 ((r (2 * y.toNatClampNeg)) * 5) F26 :: gO g21 (r (2 * y.toNatClampNeg)) (r (2 * y.toNatClampNeg)) b22 :: lA κ b24 ((r (2 * y.toNatClampNeg)) * 5) F27 :: gO g23 (r (2 * y.toNatClampNeg)) (r (2 * y.toNatClampNeg + 1)) b24 :: mw κ a r f (va_up (va_up q 3 t13) 3 t57) (tb a) w) H locs := Bd_del 6 hB
              replace hB : Bd κ A s (lA κ b20 ((r (2 * y.toNatClampNeg + 1)) * 5) F25 :: gO g19 (r (2 * y.toNatClampNeg + 1)) (r (2 * y.toNatClampNeg + 1)) b20 :: lA κ b22 ((r (2 * y.toNatClampNeg)) * 5) F26 :: gO g21 (r (2 * y.toNatClampNeg)) (r (2 * y.toNatClampNeg)) b22 :: lA κ b24 ((r (2 * y.toNatClampNeg)) * 5) F27 :: mw κ a r f (va_up (va_up q 3 t13) 3 t57) (tb a) w) H locs := Bd_del 5 hB
              replace hB : Bd κ A s (lA κ b20 ((r (2 * y.toNatClampNeg + 1)) * 5) F25 :: gO g19 (r (2 * y.toNatClampNeg + 1)) (r (2 * y.toNatClampNeg + 1)) b20 :: lA κ b22 ((r (2 * y.toNatClampNeg)) * 5) F26 :: gO g21 (r (2 * y.toNatClampNeg)) (r (2 * y.toNatClampNeg)) b22 :: mw κ a r f (va_up (va_up q 3 t13) 3 t57) (tb a) w) H locs := Bd_del 4 hB
              replace hB : Bd κ A s (lA κ b20 ((r (2 * y.toNatClampNeg + 1)) * 5) F25 :: gO g19 (r (2 * y.toNatClampNeg + 1)) (r (2 * y.toNatClampNeg + 1)) b20 :: lA κ b22 ((r (2 * y.toNatClampNeg)) * 5) F26 :: mw κ a r f (va_up (va_up q 3 t13) 3 t57) (tb a) w) H locs := Bd_del 3 hB
              replace hB : Bd κ A s (lA κ b20 ((r (2 * y.toNatClampNeg + 1)) * 5) F25 :: gO g19 (r (2 * y.toNatClampNeg + 1)) (r (2 * y.toNatClampNeg + 1)) b20 :: mw κ a r f (va_up (va_up q 3 t13) 3 t57) (tb a) w) H locs := Bd_del 2 hB
              replace hB : Bd κ A s (lA κ b20 ((r (2 * y.toNatClampNeg + 1)) * 5) F25 :: mw κ a r f (va_up (va_up q 3 t13) 3 t57) (tb a) w) H locs := Bd_del 1 hB
              replace hB : Bd κ A s (mw κ a r f (va_up (va_up q 3 t13) 3 t57) (tb a) w) H locs := Bd_del 0 hB
              rw [← hQ]
              exact end_i hX hB hA3 rfl rfl (by obtain ⟨rfl, rfl⟩ := pr2 hR; exact ⟨rfl, ⟨rfl, rfl, rfl⟩, rfl⟩) (Nat.le_of_ble_eq_true rfl) (Nat.le_of_ble_eq_true rfl) dX10_restColumn_114
            · replace hR := ifn (by decide) hR
              refine W.eq (g2 := F0 m 92 ls [.int 1]) rfl ?_
              refine lv_if_eq (tgt := 97) hx hb dX10_restColumn_92 (by decide) (fun c62 => False.elim (by revert c62; decide)) (fun _ => ?_)
              refine lv_iconst (v := 0) hx hb dX10_restColumn_95 (by decide) ?_
              replace hB : Bd κ A s (lA κ b20 ((r (2 * y.toNatClampNeg + 1)) * 5) F25 :: gO g19 (r (2 * y.toNatClampNeg + 1)) (r (2 * y.toNatClampNeg + 1)) b20 :: lA κ b22 ((r (2 * y.toNatClampNeg)) * 5) F26 :: gO g21 (r (2 * y.toNatClampNeg)) (r (2 * y.toNatClampNeg)) b22 :: lA κ b24 ((r (2 * y.toNatClampNeg)) * 5) F27 :: gO g23 (r (2 * y.toNatClampNeg)) (r (2 * y.toNatClampNeg + 1)) b24 :: mw κ a r f (va_up (va_up q 3 t13) 3 t57) (tb a) w) H locs := Bd_del 6 hB
              replace hB : Bd κ A s (lA κ b20 ((r (2 * y.toNatClampNeg + 1)) * 5) F25 :: gO g19 (r (2 * y.toNatClampNeg + 1)) (r (2 * y.toNatClampNeg + 1)) b20 :: lA κ b22 ((r (2 * y.toNatClampNeg)) * 5) F26 :: gO g21 (r (2 * y.toNatClampNeg)) (r (2 * y.toNatClampNeg)) b22 :: lA κ b24 ((r (2 * y.toNatClampNeg)) * 5) F27 :: mw κ a r f (va_up (va_up q 3 t13) 3 t57) (tb a) w) H locs := Bd_del 5 hB
              replace hB : Bd κ A s (lA κ b20 ((r (2 * y.toNatClampNeg + 1)) * 5) F25 :: gO g19 (r (2 * y.toNatClampNeg + 1)) (r (2 * y.toNatClampNeg + 1)) b20 :: lA κ b22 ((r (2 * y.toNatClampNeg)) * 5) F26 :: gO g21 (r (2 * y.toNatClampNeg)) (r (2 * y.toNatClampNeg)) b22 :: mw κ a r f (va_up (va_up q 3 t13) 3 t57) (tb a) w) H locs := Bd_del 4 hB
              replace hB : Bd κ A s (lA κ b20 ((r (2 * y.toNatClampNeg + 1)) * 5) F25 :: gO g19 (r (2 * y.toNatClampNeg + 1)) (r (2 * y.toNatClampNeg + 1)) b20 :: lA κ b22 ((r (2 * y.toNatClampNeg)) * 5) F26 :: mw κ a r f (va_up (va_up q 3 t13) 3 t57) (tb a) w) H locs := Bd_del 3 hB
              replace hB : Bd κ A s (lA κ b20 ((r (2 * y.toNatClampNeg + 1)) * 5) F25 :: gO g19 (r (2 * y.toNatClampNeg + 1)) (r (2 * y.toNatClampNeg + 1)) b20 :: mw κ a r f (va_up (va_up q 3 t13) 3 t57) (tb a) w) H locs := Bd_del 2 hB
              replace hB : Bd κ A s (lA κ b20 ((r (2 * y.toNatClampNeg + 1)) * 5) F25 :: mw κ a r f (va_up (va_up q 3 t13) 3 t57) (tb a) w) H locs := Bd_del 1 hB
              replace hB : Bd κ A s (mw κ a r f (va_up (va_up q 3 t13) 3 t57) (tb a) w) H locs := Bd_del 0 hB
              rw [← hQ]
              exact end_i hX hB hA3 rfl rfl (by obtain ⟨rfl, rfl⟩ := pr2 hR; exact ⟨rfl, ⟨rfl, rfl, rfl⟩, rfl⟩) (Nat.le_of_ble_eq_true rfl) (Nat.le_of_ble_eq_true rfl) dX10_restColumn_96
          · replace hR := ifn c55 hR
            refine lv_iconst (v := 1) hx hb dX10_restColumn_73 (by decide) ?_
            refine lv_goto (tgt := 78) hx hb dX10_restColumn_74 (by decide) ?_
            refine lv_istore (lv' := [(6, .int 1), (5, .int (nI (r (2 * y.toNatClampNeg + 1)))), (4, .ref q17), (0, .ref (a 0)), (1, .int y), (2, .int z), (3, .int u)]) hx hb dX10_restColumn_78 hl (by decide) rfl (fun ls hl => ?_)
            refine lv_aload_n hx hb dX10_restColumn_80 rfl (lv_at hl 3 rfl) ?_
            refine lv_iconst (v := 0) hx hb dX10_restColumn_81 (by decide) ?_
            refine lv_aload hx hb dX10_restColumn_82 (lv_at hl 2 rfl) ?_
            refine gf (k0 := 6) hX hB rfl rfl in9 6 (by decide) wm_6_234 rfl rfl dX10_restColumn_84 ?_
            refine lv_iload hx hb dX10_restColumn_87 (lv_at hl 0 rfl) ?_
            obtain ⟨x63, t64, hd65⟩ := ex2 (D_X10_isThrown ((va_up q 3 t13) 0) ((va_up q 3 t13) 1) ((va_up q 3 t13) 2) ((va_up q 3 t13) 3) 0 G31 1)
            replace hR := bnd2_use hd65 hR
            refine call_V (n := 3) (k0 := 7) (As := [.int 0, .int G31, .int 1]) (rest := []) hX hB (k_X10_isThrown κ l (lA κ b20 ((r (2 * y.toNatClampNeg + 1)) * 5) F25 :: gO g19 (r (2 * y.toNatClampNeg + 1)) (r (2 * y.toNatClampNeg + 1)) b20 :: lA κ b22 ((r (2 * y.toNatClampNeg)) * 5) F26 :: gO g21 (r (2 * y.toNatClampNeg)) (r (2 * y.toNatClampNeg)) b22 :: lA κ b24 ((r (2 * y.toNatClampNeg)) * 5) F27 :: gO g23 (r (2 * y.toNatClampNeg)) (r (2 * y.toNatClampNeg + 1)) b24 :: (q17, .inr (10, [.ref g23, .ref g21, .ref g19, .int S28, .int S29, .int (nI K30), .int G31])) :: mw κ a r f (va_up q 3 t13) (tb a) w) 7 (a 0) (a 1) ((va_up q 3 t13) 0) ((va_up q 3 t13) 1) ((va_up q 3 t13) 2) ((va_up q 3 t13) 3) 0 G31 1 (mw0x (a := a) (r := r) (f := f) (q := (va_up q 3 t13)) (T := tb a) (w := w) rfl) x63 t64 hd65) ⟨rfl, yk_X10_isThrown⟩ wm_5_196 wm_5_198 wp_28 wm_1_6 wm_5_199 ⟨Nat.le_of_ble_eq_true rfl, Nat.le_of_ble_eq_true rfl⟩ ⟨Nat.le_of_ble_eq_true rfl, Nat.le_of_ble_eq_true rfl⟩ (mw0x (a := a) (r := r) (f := f) (q := (va_up q 3 t13)) (T := tb a) (w := w) rfl) rfl rfl rfl hl.1 rfl (Nat.le_of_ble_eq_true rfl) dX10_restColumn_89 (fun o w' H locs hp hB => ?_)
            obtain ⟨rfl, hf66, hw9⟩ := hp
            replace hB : Bd κ A s (lA κ b20 ((r (2 * y.toNatClampNeg + 1)) * 5) F25 :: gO g19 (r (2 * y.toNatClampNeg + 1)) (r (2 * y.toNatClampNeg + 1)) b20 :: lA κ b22 ((r (2 * y.toNatClampNeg)) * 5) F26 :: gO g21 (r (2 * y.toNatClampNeg)) (r (2 * y.toNatClampNeg)) b22 :: lA κ b24 ((r (2 * y.toNatClampNeg)) * 5) F27 :: gO g23 (r (2 * y.toNatClampNeg)) (r (2 * y.toNatClampNeg + 1)) b24 :: (q17, .inr (10, [.ref g23, .ref g21, .ref g19, .int S28, .int S29, .int (nI K30), .int G31])) :: mw κ a r f (va_up (va_up q 3 t13) 3 t64) (tb a) w) H locs := by exact Bd_eq (congrArg (List.cons _) (congrArg (List.cons _) (congrArg (List.cons _) (congrArg (List.cons _) (congrArg (List.cons _) (congrArg (List.cons _) (congrArg (List.cons _) (mwQ3x rfl _)))))))) (by rw [hw9] at hB; exact hB)
            obtain rfl : x63 = 1 := hf66.trans (thr_3 (by decide)).symm
            refine W.eq (g2 := F0 m 92 ls [.int 1]) rfl ?_
            refine lv_if_eq (tgt := 97) hx hb dX10_restColumn_92 (by decide) (fun c67 => False.elim (by revert c67; decide)) (fun _ => ?_)
            refine lv_iconst (v := 0) hx hb dX10_restColumn_95 (by decide) ?_
            replace hB : Bd κ A s (lA κ b20 ((r (2 * y.toNatClampNeg + 1)) * 5) F25 :: gO g19 (r (2 * y.toNatClampNeg + 1)) (r (2 * y.toNatClampNeg + 1)) b20 :: lA κ b22 ((r (2 * y.toNatClampNeg)) * 5) F26 :: gO g21 (r (2 * y.toNatClampNeg)) (r (2 * y.toNatClampNeg)) b22 :: lA κ b24 ((r (2 * y.toNatClampNeg)) * 5) F27 :: gO g23 (r (2 * y.toNatClampNeg)) (r (2 * y.toNatClampNeg + 1)) b24 :: mw κ a r f (va_up (va_up q 3 t13) 3 t64) (tb a) w) H locs := Bd_del 6 hB
            replace hB : Bd κ A s (lA κ b20 ((r (2 * y.toNatClampNeg + 1)) * 5) F25 :: gO g19 (r (2 * y.toNatClampNeg + 1)) (r (2 * y.toNatClampNeg + 1)) b20 :: lA κ b22 ((r (2 * y.toNatClampNeg)) * 5) F26 :: gO g21 (r (2 * y.toNatClampNeg)) (r (2 * y.toNatClampNeg)) b22 :: lA κ b24 ((r (2 * y.toNatClampNeg)) * 5) F27 :: mw κ a r f (va_up (va_up q 3 t13) 3 t64) (tb a) w) H locs := Bd_del 5 hB
            replace hB : Bd κ A s (lA κ b20 ((r (2 * y.toNatClampNeg + 1)) * 5) F25 :: gO g19 (r (2 * y.toNatClampNeg + 1)) (r (2 * y.toNatClampNeg + 1)) b20 :: lA κ b22 ((r (2 * y.toNatClampNeg)) * 5) F26 :: gO g21 (r (2 * y.toNatClampNeg)) (r (2 * y.toNatClampNeg)) b22 :: mw κ a r f (va_up (va_up q 3 t13) 3 t64) (tb a) w) H locs := Bd_del 4 hB
            replace hB : Bd κ A s (lA κ b20 ((r (2 * y.toNatClampNeg + 1)) * 5) F25 :: gO g19 (r (2 * y.toNatClampNeg + 1)) (r (2 * y.toNatClampNeg + 1)) b20 :: lA κ b22 ((r (2 * y.toNatClampNeg)) * 5) F26 :: mw κ a r f (va_up (va_up q 3 t13) 3 t64) (tb a) w) H locs := Bd_del 3 hB
            replace hB : Bd κ A s (lA κ b20 ((r (2 * y.toNatClampNeg + 1)) * 5) F25 :: gO g19 (r (2 * y.toNatClampNeg + 1)) (r (2 * y.toNatClampNeg + 1)) b20 :: mw κ a r f (va_up (va_up q 3 t13) 3 t64) (tb a) w) H locs := Bd_del 2 hB
            replace hB : Bd κ A s (lA κ b20 ((r (2 * y.toNatClampNeg + 1)) * 5) F25 :: mw κ a r f (va_up (va_up q 3 t13) 3 t64) (tb a) w) H locs := Bd_del 1 hB
            replace hB : Bd κ A s (mw κ a r f (va_up (va_up q 3 t13) 3 t64) (tb a) w) H locs := Bd_del 0 hB
            rw [← hQ]
            exact end_i hX hB hA3 rfl rfl (by obtain ⟨rfl, rfl⟩ := pr2 hR; exact ⟨rfl, ⟨rfl, rfl, rfl⟩, rfl⟩) (Nat.le_of_ble_eq_true rfl) (Nat.le_of_ble_eq_true rfl) dX10_restColumn_96
noncomputable def D_X10_houseNow_45 (r : Nat → Nat) (f : Nat → Nat → Int64) (lb37 : Nat → Nat → Int32) (y3_37 : Nat) (nn : Nat) : Nat → Nat → Int32 := @Nat.rec (fun _ => Nat → Nat → Int32) (fun _ _ => default) (fun _ lb45 (y4_45 : Nat) (y2_45 : Nat) => (if y3_37 ≤ y4_45 then (lb37 (y3_37 + 1) y2_45) else bnd1 (D_X7_isSame (r (2 * y3_37)) (r (2 * y3_37 + 1)) (f y3_37) (r (2 * y4_45)) (r (2 * y4_45 + 1)) (f y4_45)) (fun (x75 : Int32) => (if x75 = 0 then (lb45 (y4_45 + 1) (y2_45 + 0)) else (lb45 (y4_45 + 1) (y2_45 + 1)))))) nn
theorem D_X10_houseNow_45_s {r : Nat → Nat} {f : Nat → Nat → Int64} {lb37 : Nat → Nat → Int32} {y3_37 : Nat} {nn : Nat} {y4_45 : Nat} {y2_45 : Nat} : D_X10_houseNow_45 r f lb37 y3_37 (nn + 1) y4_45 y2_45 = (if y3_37 ≤ y4_45 then (lb37 (y3_37 + 1) y2_45) else bnd1 (D_X7_isSame (r (2 * y3_37)) (r (2 * y3_37 + 1)) (f y3_37) (r (2 * y4_45)) (r (2 * y4_45 + 1)) (f y4_45)) (fun (x75 : Int32) => (if x75 = 0 then ((D_X10_houseNow_45 r f lb37 y3_37 nn) (y4_45 + 1) (y2_45 + 0)) else ((D_X10_houseNow_45 r f lb37 y3_37 nn) (y4_45 + 1) (y2_45 + 1))))) := rfl
noncomputable def D_X10_houseNow_37 (r : Nat → Nat) (f : Nat → Nat → Int64) (nn : Nat) : Nat → Nat → Int32 := @Nat.rec (fun _ => Nat → Nat → Int32) (fun _ _ => default) (fun _ lb37 (y3_37 : Nat) (y2_37 : Nat) => (if (4 : Nat) ≤ y3_37 then nI y2_37 else (D_X10_houseNow_45 r f lb37 y3_37 (y3_37 + 1 - 0 + 1) 0 y2_37))) nn
theorem D_X10_houseNow_37_s {r : Nat → Nat} {f : Nat → Nat → Int64} {nn : Nat} {y3_37 : Nat} {y2_37 : Nat} : D_X10_houseNow_37 r f (nn + 1) y3_37 y2_37 = (if (4 : Nat) ≤ y3_37 then nI y2_37 else (D_X10_houseNow_45 r f (D_X10_houseNow_37 r f nn) y3_37 (y3_37 + 1 - 0 + 1) 0 y2_37)) := rfl
noncomputable def D_X10_houseNow (r : Nat → Nat) (f : Nat → Nat → Int64) (q : Nat → Int32) (y : Int32) : Int32 := (if 3 ≤ y then (D_X10_houseNow_37 r f (4 + 1 - 0 + 1) 0 0) else (if y = 0 then q 0 else (if y = 1 then q 1 else q 2)))
theorem D_X10_houseNow_s {r : Nat → Nat} {f : Nat → Nat → Int64} {q : Nat → Int32} {y : Int32} : D_X10_houseNow r f q y = (if 3 ≤ y then (D_X10_houseNow_37 r f (4 + 1 - 0 + 1) 0 0) else (if y = 0 then q 0 else (if y = 1 then q 1 else q 2))) := rfl
set_option maxHeartbeats 4000000 in
set_option maxRecDepth 100000 in
theorem k_X10_houseNow (κ : Kt) (l : Launch) (w : va_W) (a r : Nat → Nat) (f : Nat → Nat → Int64) (q : Nat → Int32) (y : Int32) (hm : mok r f) (o_x : Int32) (hR : D_X10_houseNow r f q y = o_x) : CM κ l yX10_houseNow cX10_houseNow 5 (some .int) 1 22 0 0 [.ref (a 0), .int y] (mw κ a r f q (tb a) w) (fun o w' => o = some (.int o_x) ∧ w' = mw κ a r f q (tb a) w) := by
  refine CM_begin (plainFor_of_name pn_RX10) (Nat.le_of_ble_eq_true rfl) ?_
  intro p e s m args below meth c A Q hX hnm hA3 hQ hB ls hl
  have hx := hX.1.1
  have hb := hX.1.2.1
  have hl : lv_has ls 5 [(0, .ref (a 0)), (1, .int y)] := hl
  replace hR := (D_X10_houseNow_s).symm.trans hR
  refine lv_iload_n hx hb dX10_houseNow_0 rfl (lv_at hl 1 rfl) ?_
  refine lv_iconst (v := 3) hx hb dX10_houseNow_1 (by decide) ?_
  refine lv_icmp_ge (tgt := 33) hx hb dX10_houseNow_2 (by decide) (fun c1 => ?_) (fun c1 => ?_)
  · replace hR := ifp c1 hR
    refine lv_iconst (v := 0) hx hb dX10_houseNow_33 (by decide) ?_
    refine lv_istore_n (lv' := [(2, .int 0), (0, .ref (a 0)), (1, .int y)]) hx hb dX10_houseNow_34 rfl hl (by decide) rfl (fun ls hl => ?_)
    refine lv_iconst (v := 0) hx hb dX10_houseNow_35 (by decide) ?_
    refine lv_istore_n (lv' := [(3, .int 0), (2, .int 0), (0, .ref (a 0)), (1, .int y)]) hx hb dX10_houseNow_36 rfl hl (by decide) rfl (fun ls hl => ?_)
    have lp37 : ∀ (nn37 : Nat) (y3_37 : Nat) (y2_37 : Nat) (H : Heap) (locs : List Loc), (y3_37 ≤ 4) → 4 + 1 - y3_37 < nn37 → D_X10_houseNow_37 r f nn37 y3_37 y2_37 = o_x → Bd κ A s (mw κ a r f q (tb a) w) H locs → ∀ ls : Array Slot, lv_has ls 5 [(3, .int (nI y3_37)), (2, .int (nI y2_37)), (0, .ref (a 0)), (1, .int y)] → W p l e (Rm 1 22 0 0) s m args below meth c H locs (0) (0) Q (F0 m 37 ls []) := by
      intro nn37
      induction nn37 with
      | zero => intro y3_37 y2_37 H locs hn3_37 hμ; exact absurd hμ (Nat.not_lt_zero _)
      | succ nn37 ih37 =>
        intro y3_37 y2_37 H locs hn3_37 hμ37 hR hB ls hl
        replace hR := (D_X10_houseNow_37_s).symm.trans hR
        refine lv_iload_n hx hb dX10_houseNow_37 rfl (lv_at hl 0 rfl) ?_
        refine lv_iconst (v := 4) hx hb dX10_houseNow_38 (by decide) ?_
        refine lv_icmp_ge (tgt := 90) hx hb dX10_houseNow_39 (by decide) (fun c55 => ?_) (fun c55 => ?_)
        · replace c55 : nI 4 ≤ nI y3_37 := c55
          rw [nleP (by omega) (by omega)] at c55
          replace hR := ifp c55 hR
          refine lv_iload_n hx hb dX10_houseNow_90 rfl (lv_at hl 1 rfl) ?_
          rw [← hQ]
          exact end_i hX hB hA3 rfl rfl (by obtain rfl := hR; exact ⟨rfl, rfl⟩) (Nat.le_of_ble_eq_true rfl) (Nat.le_of_ble_eq_true rfl) dX10_houseNow_91
        · replace c55 : ¬ nI 4 ≤ nI y3_37 := c55
          rw [nleP (by omega) (by omega)] at c55
          replace hR := ifn c55 hR
          refine lv_iconst (v := 0) hx hb dX10_houseNow_42 (by decide) ?_
          refine lv_istore (lv' := [(4, .int 0), (3, .int (nI y3_37)), (2, .int (nI y2_37)), (0, .ref (a 0)), (1, .int y)]) hx hb dX10_houseNow_43 hl (by decide) rfl (fun ls hl => ?_)
          have lp45 : ∀ (nn45 : Nat) (y4_45 : Nat) (y2_45 : Nat) (H : Heap) (locs : List Loc), (y4_45 ≤ y3_37) → y3_37 + 1 - y4_45 < nn45 → D_X10_houseNow_45 r f (D_X10_houseNow_37 r f nn37) y3_37 nn45 y4_45 y2_45 = o_x → Bd κ A s (mw κ a r f q (tb a) w) H locs → ∀ ls : Array Slot, lv_has ls 5 [(4, .int (nI y4_45)), (3, .int (nI y3_37)), (2, .int (nI y2_45)), (0, .ref (a 0)), (1, .int y)] → W p l e (Rm 1 22 0 0) s m args below meth c H locs (0) (0) Q (F0 m 45 ls []) := by
            intro nn45
            induction nn45 with
            | zero => intro y4_45 y2_45 H locs hn4_45 hμ; exact absurd hμ (Nat.not_lt_zero _)
            | succ nn45 ih45 =>
              intro y4_45 y2_45 H locs hn4_45 hμ45 hR hB ls hl
              replace hR := (D_X10_houseNow_45_s).symm.trans hR
              refine lv_iload hx hb dX10_houseNow_45 (lv_at hl 0 rfl) ?_
              refine lv_iload_n hx hb dX10_houseNow_47 rfl (lv_at hl 1 rfl) ?_
              refine lv_icmp_ge (tgt := 84) hx hb dX10_houseNow_48 (by decide) (fun c72 => ?_) (fun c72 => ?_)
              · rw [nleP (a := y3_37) (b := y4_45) (by omega) (by omega)] at c72
                replace hR := ifp c72 hR
                refine lv_iinc (v := nI (y3_37 + 1)) (lv' := [(3, .int (nI (y3_37 + 1))), (4, .int (nI y4_45)), (2, .int (nI y2_45)), (0, .ref (a 0)), (1, .int y)]) hx hb dX10_houseNow_84 hl (k := 1) rfl (nI_add y3_37 1) (by decide) rfl (fun ls hl => ?_)
                refine lv_goto (tgt := 37) hx hb dX10_houseNow_87 (by decide) ?_
                exact ih37 (y3_37 + 1) y2_45 _ _ (by omega) (by omega) hR hB _ (lv_sub hl [0, 2, 3, 4] rfl)
              · rw [nleP (a := y3_37) (b := y4_45) (by omega) (by omega)] at c72
                replace hR := ifn c72 hR
                refine lv_iload_n hx hb dX10_houseNow_51 rfl (lv_at hl 2 rfl) ?_
                refine lv_aload_n hx hb dX10_houseNow_52 rfl (lv_at hl 3 rfl) ?_
                refine gf (k0 := 0) hX hB (mw0x (a := a) (r := r) (f := f) (q := q) (T := tb a) (w := w) rfl) rfl in10 0 (by decide) wm_5_162 rfl rfl dX10_houseNow_53 ?_
                refine lv_iload_n hx hb dX10_houseNow_56 rfl (lv_at hl 1 rfl) ?_
                refine aaldM (k0 := 1) hX hB (mw1 (a := a) (r := r) (f := f) (q := q) (T := tb a) (w := w)) (vp_in_nI (n := y3_37) (by omega) (by omega)) (congrArg (tb a) (nI_clamp (n := y3_37) (by omega))) dX10_houseNow_57 ?_
                have hb73 := mok_r hm y3_37 (by omega)
                refine lv_aload_n hx hb dX10_houseNow_58 rfl (lv_at hl 3 rfl) ?_
                refine gf (k0 := 0) hX hB (mw0x (a := a) (r := r) (f := f) (q := q) (T := tb a) (w := w) rfl) rfl in10 0 (by decide) wm_5_162 rfl rfl dX10_houseNow_59 ?_
                refine lv_iload hx hb dX10_houseNow_62 (lv_at hl 0 rfl) ?_
                refine aaldM (k0 := 1) hX hB (mw1 (a := a) (r := r) (f := f) (q := q) (T := tb a) (w := w)) (vp_in_nI (n := y4_45) (by omega) (by omega)) (congrArg (tb a) (nI_clamp (n := y4_45) (by omega))) dX10_houseNow_64 ?_
                have hb74 := mok_r hm y4_45 (by omega)
                obtain ⟨x75, hd76⟩ := ex1 (D_X7_isSame (r (2 * y3_37)) (r (2 * y3_37 + 1)) (f y3_37) (r (2 * y4_45)) (r (2 * y4_45 + 1)) (f y4_45))
                replace hR := bnd1_use hd76 hR
                refine call_V (n := 1) (k0 := (2 + 2 * y3_37)) (As := [.ref (a (2 + 2 * y4_45))]) (rest := [.int (nI y2_45)]) hX hB (k_X7_isSame κ l (mw κ a r f q (tb a) w) (2 + 2 * y3_37) (3 + 2 * y3_37) (a (2 + 2 * y3_37)) (a (3 + 2 * y3_37)) (r (2 * y3_37)) (r (2 * y3_37 + 1)) (f y3_37) (2 + 2 * y4_45) (3 + 2 * y4_45) (a (2 + 2 * y4_45)) (a (3 + 2 * y4_45)) (r (2 * y4_45)) (r (2 * y4_45 + 1)) (f y4_45) (mwG (i := y3_37) (a := a) (r := r) (f := f) (q := q) (T := tb a) (w := w) (by omega)) (mwA (i := y3_37) (a := a) (r := r) (f := f) (q := q) (T := tb a) (w := w) (by omega)) (mok_shp (i := y3_37) hm (by omega)) (mwG (i := y4_45) (a := a) (r := r) (f := f) (q := q) (T := tb a) (w := w) (by omega)) (mwA (i := y4_45) (a := a) (r := r) (f := f) (q := q) (T := tb a) (w := w) (by omega)) (mok_shp (i := y4_45) hm (by omega)) x75 hd76) ⟨rfl, yk_X7_isSame⟩ wm_6_19 wm_6_20 wm_6_21 wm_1_7 wm_6_22 ⟨Nat.le_of_ble_eq_true rfl, Nat.le_of_ble_eq_true rfl⟩ ⟨Nat.le_of_ble_eq_true rfl, Nat.le_of_ble_eq_true rfl⟩ (mwG (i := y3_37) (a := a) (r := r) (f := f) (q := q) (T := tb a) (w := w) (by omega)) rfl rfl rfl hl.1 rfl (Nat.le_of_ble_eq_true rfl) dX10_houseNow_65 (fun o w' H locs hp hB => ?_)
                obtain ⟨rfl, hf77, hw9⟩ := hp
                replace hB : Bd κ A s (mw κ a r f q (tb a) w) H locs := by rw [hw9] at hB; exact hB
                rcases hf77 with rfl | rfl
                · replace hR := ifp rfl hR
                  refine W.eq (g2 := F0 m 68 ls [.int 0, .int (nI y2_45)]) rfl ?_
                  refine lv_if_eq (tgt := 75) hx hb dX10_houseNow_68 (by decide) (fun _ => ?_) (fun c78 => False.elim (by revert c78; decide))
                  refine lv_iconst (v := 0) hx hb dX10_houseNow_75 (by decide) ?_
                  refine lv_iadd hx hb dX10_houseNow_76 ?_
                  refine eqi (y := nI (y2_45 + 0)) (nI_add y2_45 0) ?_
                  refine lv_istore_n (lv' := [(2, .int (nI (y2_45 + 0))), (4, .int (nI y4_45)), (3, .int (nI y3_37)), (0, .ref (a 0)), (1, .int y)]) hx hb dX10_houseNow_77 rfl hl (by decide) rfl (fun ls hl => ?_)
                  refine lv_iinc (v := nI (y4_45 + 1)) (lv' := [(4, .int (nI (y4_45 + 1))), (2, .int (nI (y2_45 + 0))), (3, .int (nI y3_37)), (0, .ref (a 0)), (1, .int y)]) hx hb dX10_houseNow_78 hl (k := 1) rfl (nI_add y4_45 1) (by decide) rfl (fun ls hl => ?_)
                  refine lv_goto (tgt := 45) hx hb dX10_houseNow_81 (by decide) ?_
                  exact ih45 (y4_45 + 1) (y2_45 + 0) _ _ (by omega) (by omega) hR hB _ (lv_sub hl [0, 2, 1, 3, 4] rfl)
                · replace hR := ifn (by decide) hR
                  refine W.eq (g2 := F0 m 68 ls [.int 1, .int (nI y2_45)]) rfl ?_
                  refine lv_if_eq (tgt := 75) hx hb dX10_houseNow_68 (by decide) (fun c79 => False.elim (by revert c79; decide)) (fun _ => ?_)
                  refine lv_iconst (v := 1) hx hb dX10_houseNow_71 (by decide) ?_
                  refine lv_goto (tgt := 76) hx hb dX10_houseNow_72 (by decide) ?_
                  refine lv_iadd hx hb dX10_houseNow_76 ?_
                  refine eqi (y := nI (y2_45 + 1)) (nI_add y2_45 1) ?_
                  refine lv_istore_n (lv' := [(2, .int (nI (y2_45 + 1))), (4, .int (nI y4_45)), (3, .int (nI y3_37)), (0, .ref (a 0)), (1, .int y)]) hx hb dX10_houseNow_77 rfl hl (by decide) rfl (fun ls hl => ?_)
                  refine lv_iinc (v := nI (y4_45 + 1)) (lv' := [(4, .int (nI (y4_45 + 1))), (2, .int (nI (y2_45 + 1))), (3, .int (nI y3_37)), (0, .ref (a 0)), (1, .int y)]) hx hb dX10_houseNow_78 hl (k := 1) rfl (nI_add y4_45 1) (by decide) rfl (fun ls hl => ?_)
                  refine lv_goto (tgt := 45) hx hb dX10_houseNow_81 (by decide) ?_
                  exact ih45 (y4_45 + 1) (y2_45 + 1) _ _ (by omega) (by omega) hR hB _ (lv_sub hl [0, 2, 1, 3, 4] rfl)
          exact lp45 _ 0 y2_37 _ _ (by omega) (Nat.lt_succ_self _) hR hB _ hl
    exact lp37 _ 0 0 _ _ (by omega) (Nat.lt_succ_self _) hR hB _ hl
  · replace hR := ifn c1 hR
    refine lv_iload_n hx hb dX10_houseNow_5 rfl (lv_at hl 1 rfl) ?_
    refine lv_if_ne (tgt := 16) hx hb dX10_houseNow_6 (by decide) (fun c80 => ?_) (fun c80 => ?_)
    · replace hR := ifn c80 hR
      refine lv_iload_n hx hb dX10_houseNow_16 rfl (lv_at hl 1 rfl) ?_
      refine lv_iconst (v := 1) hx hb dX10_houseNow_17 (by decide) ?_
      refine lv_icmp_ne (tgt := 28) hx hb dX10_houseNow_18 (by decide) (fun c81 => ?_) (fun c81 => ?_)
      · replace hR := ifn c81 hR
        refine lv_aload_n hx hb dX10_houseNow_28 rfl (lv_at hl 0 rfl) ?_
        refine gf (k0 := 0) hX hB (mw0x (a := a) (r := r) (f := f) (q := q) (T := tb a) (w := w) rfl) rfl in10 3 (by decide) wm_5_165 rfl rfl dX10_houseNow_29 ?_
        rw [← hQ]
        exact end_i hX hB hA3 rfl rfl (by obtain rfl := hR; exact ⟨rfl, rfl⟩) (Nat.le_of_ble_eq_true rfl) (Nat.le_of_ble_eq_true rfl) dX10_houseNow_32
      · replace hR := ifp c81 hR
        refine lv_aload_n hx hb dX10_houseNow_21 rfl (lv_at hl 0 rfl) ?_
        refine gf (k0 := 0) hX hB (mw0x (a := a) (r := r) (f := f) (q := q) (T := tb a) (w := w) rfl) rfl in10 2 (by decide) wm_5_164 rfl rfl dX10_houseNow_22 ?_
        refine lv_goto (tgt := 32) hx hb dX10_houseNow_25 (by decide) ?_
        rw [← hQ]
        exact end_i hX hB hA3 rfl rfl (by obtain rfl := hR; exact ⟨rfl, rfl⟩) (Nat.le_of_ble_eq_true rfl) (Nat.le_of_ble_eq_true rfl) dX10_houseNow_32
    · replace hR := ifp c80 hR
      refine lv_aload_n hx hb dX10_houseNow_9 rfl (lv_at hl 0 rfl) ?_
      refine gf (k0 := 0) hX hB (mw0x (a := a) (r := r) (f := f) (q := q) (T := tb a) (w := w) rfl) rfl in10 1 (by decide) wm_5_163 rfl rfl dX10_houseNow_10 ?_
      refine lv_goto (tgt := 32) hx hb dX10_houseNow_13 (by decide) ?_
      rw [← hQ]
      exact end_i hX hB hA3 rfl rfl (by obtain rfl := hR; exact ⟨rfl, rfl⟩) (Nat.le_of_ble_eq_true rfl) (Nat.le_of_ble_eq_true rfl) dX10_houseNow_32
noncomputable def D_X10_house (r : Nat → Nat) (f : Nat → Nat → Int64) (q : Nat → Int32) (y : Int32) : Int32 × (Nat → Int32) := (if y < 0 then bnd2 (D_X10_isThrown__ (q 0) (q 1) (q 2) (q 3) 1) (fun (x2 : Int32) (t3 : Int32) => (0, va_up q 3 t3)) else (if y ≤ 3 then bnd2 (D_X10_isThrown__ (q 0) (q 1) (q 2) (q 3) 0) (fun (x8 : Int32) (t9 : Int32) => bnd1 (D_X10_houseNow r f (va_up q 3 t9) y) (fun (x13 : Int32) => (x13, va_up q 3 t9))) else bnd2 (D_X10_isThrown__ (q 0) (q 1) (q 2) (q 3) 1) (fun (x15 : Int32) (t16 : Int32) => (0, va_up q 3 t16))))
theorem D_X10_house_s {r : Nat → Nat} {f : Nat → Nat → Int64} {q : Nat → Int32} {y : Int32} : D_X10_house r f q y = (if y < 0 then bnd2 (D_X10_isThrown__ (q 0) (q 1) (q 2) (q 3) 1) (fun (x2 : Int32) (t3 : Int32) => (0, va_up q 3 t3)) else (if y ≤ 3 then bnd2 (D_X10_isThrown__ (q 0) (q 1) (q 2) (q 3) 0) (fun (x8 : Int32) (t9 : Int32) => bnd1 (D_X10_houseNow r f (va_up q 3 t9) y) (fun (x13 : Int32) => (x13, va_up q 3 t9))) else bnd2 (D_X10_isThrown__ (q 0) (q 1) (q 2) (q 3) 1) (fun (x15 : Int32) (t16 : Int32) => (0, va_up q 3 t16)))) := rfl
set_option maxHeartbeats 4000000 in
set_option maxRecDepth 100000 in
theorem k_X10_house (κ : Kt) (l : Launch) (w : va_W) (a r : Nat → Nat) (f : Nat → Nat → Int64) (q : Nat → Int32) (y : Int32) (hm : mok r f) (o_x : Int32) (o_q' : Nat → Int32) (hR : D_X10_house r f q y = (o_x, o_q')) : CM κ l yX10_house cX10_house 2 (some .int) 2 46 0 0 [.ref (a 0), .int y] (mw κ a r f q (tb a) w) (fun o w' => o = some (.int o_x) ∧ (o_q' 2 = q 2 ∧ o_q' 0 = q 0 ∧ o_q' 1 = q 1) ∧ w' = mw κ a r f o_q' (tb a) w) := by
  refine CM_begin (plainFor_of_name pn_RX10) (Nat.le_of_ble_eq_true rfl) ?_
  intro p e s m args below meth c A Q hX hnm hA3 hQ hB ls hl
  have hx := hX.1.1
  have hb := hX.1.2.1
  have hl : lv_has ls 2 [(0, .ref (a 0)), (1, .int y)] := hl
  replace hR := (D_X10_house_s).symm.trans hR
  refine lv_aload_n hx hb dX10_house_0 rfl (lv_at hl 0 rfl) ?_
  refine lv_iload_n hx hb dX10_house_1 rfl (lv_at hl 1 rfl) ?_
  refine lv_if_lt (tgt := 10) hx hb dX10_house_2 (by decide) (fun c1 => ?_) (fun c1 => ?_)
  · replace hR := ifp c1 hR
    refine lv_iconst (v := 1) hx hb dX10_house_10 (by decide) ?_
    refine lv_goto (tgt := 15) hx hb dX10_house_11 (by decide) ?_
    obtain ⟨x2, t3, hd4⟩ := ex2 (D_X10_isThrown__ (q 0) (q 1) (q 2) (q 3) 1)
    replace hR := bnd2_use hd4 hR
    refine call_V (n := 1) (k0 := 0) (As := [.int 1]) (rest := []) hX hB (k_X10_isThrown__ κ l (mw κ a r f q (tb a) w) 0 (a 0) (a 1) (q 0) (q 1) (q 2) (q 3) 1 (mw0x (a := a) (r := r) (f := f) (q := q) (T := tb a) (w := w) rfl) x2 t3 hd4) ⟨rfl, yk_X10_isThrown__⟩ wm_6_15 wm_6_17 wp_33 wm_1_6 wm_6_18 ⟨Nat.le_of_ble_eq_true rfl, Nat.le_of_ble_eq_true rfl⟩ ⟨Nat.le_of_ble_eq_true rfl, Nat.le_of_ble_eq_true rfl⟩ (mw0x (a := a) (r := r) (f := f) (q := q) (T := tb a) (w := w) rfl) rfl rfl rfl hl.1 rfl (Nat.le_of_ble_eq_true rfl) dX10_house_15 (fun o w' H locs hp hB => ?_)
    obtain ⟨rfl, hf5, hw9⟩ := hp
    replace hB : Bd κ A s (mw κ a r f (va_up q 3 t3) (tb a) w) H locs := by exact Bd_eq (mwQ3x rfl _) (by rw [hw9] at hB; exact hB)
    obtain rfl : x2 = 1 := hf5.trans (by decide)
    refine W.eq (g2 := F0 m 18 ls [.int 1]) rfl ?_
    refine lv_if_eq (tgt := 25) hx hb dX10_house_18 (by decide) (fun c6 => False.elim (by revert c6; decide)) (fun _ => ?_)
    refine lv_iconst (v := 0) hx hb dX10_house_21 (by decide) ?_
    refine lv_goto (tgt := 30) hx hb dX10_house_22 (by decide) ?_
    rw [← hQ]
    exact end_i hX hB hA3 rfl rfl (by obtain ⟨rfl, rfl⟩ := pr2 hR; exact ⟨rfl, ⟨rfl, rfl, rfl⟩, rfl⟩) (Nat.le_of_ble_eq_true rfl) (Nat.le_of_ble_eq_true rfl) dX10_house_30
  · replace hR := ifn c1 hR
    refine lv_iload_n hx hb dX10_house_5 rfl (lv_at hl 1 rfl) ?_
    refine lv_iconst (v := 3) hx hb dX10_house_6 (by decide) ?_
    refine lv_icmp_le (tgt := 14) hx hb dX10_house_7 (by decide) (fun c7 => ?_) (fun c7 => ?_)
    · replace hR := ifp c7 hR
      refine lv_iconst (v := 0) hx hb dX10_house_14 (by decide) ?_
      obtain ⟨x8, t9, hd10⟩ := ex2 (D_X10_isThrown__ (q 0) (q 1) (q 2) (q 3) 0)
      replace hR := bnd2_use hd10 hR
      refine call_V (n := 1) (k0 := 0) (As := [.int 0]) (rest := []) hX hB (k_X10_isThrown__ κ l (mw κ a r f q (tb a) w) 0 (a 0) (a 1) (q 0) (q 1) (q 2) (q 3) 0 (mw0x (a := a) (r := r) (f := f) (q := q) (T := tb a) (w := w) rfl) x8 t9 hd10) ⟨rfl, yk_X10_isThrown__⟩ wm_6_15 wm_6_17 wp_33 wm_1_6 wm_6_18 ⟨Nat.le_of_ble_eq_true rfl, Nat.le_of_ble_eq_true rfl⟩ ⟨Nat.le_of_ble_eq_true rfl, Nat.le_of_ble_eq_true rfl⟩ (mw0x (a := a) (r := r) (f := f) (q := q) (T := tb a) (w := w) rfl) rfl rfl rfl hl.1 rfl (Nat.le_of_ble_eq_true rfl) dX10_house_15 (fun o w' H locs hp hB => ?_)
      obtain ⟨rfl, hf11, hw9⟩ := hp
      replace hB : Bd κ A s (mw κ a r f (va_up q 3 t9) (tb a) w) H locs := by exact Bd_eq (mwQ3x rfl _) (by rw [hw9] at hB; exact hB)
      obtain rfl : x8 = 0 := hf11.trans (by decide)
      refine W.eq (g2 := F0 m 18 ls [.int 0]) rfl ?_
      refine lv_if_eq (tgt := 25) hx hb dX10_house_18 (by decide) (fun _ => ?_) (fun c12 => False.elim (by revert c12; decide))
      refine lv_aload_n hx hb dX10_house_25 rfl (lv_at hl 0 rfl) ?_
      refine lv_iload_n hx hb dX10_house_26 rfl (lv_at hl 1 rfl) ?_
      obtain ⟨x13, hd14⟩ := ex1 (D_X10_houseNow r f (va_up q 3 t9) y)
      replace hR := bnd1_use hd14 hR
      refine call_V (n := 1) (k0 := 0) (As := [.int y]) (rest := []) hX hB (k_X10_houseNow κ l w a r f (va_up q 3 t9) y hm x13 hd14) ⟨rfl, yk_X10_houseNow⟩ wm_7_162 wm_7_164 wp_49 wm_1_6 wm_7_165 ⟨Nat.le_of_ble_eq_true rfl, Nat.le_of_ble_eq_true rfl⟩ ⟨Nat.le_of_ble_eq_true rfl, Nat.le_of_ble_eq_true rfl⟩ (mw0x (a := a) (r := r) (f := f) (q := (va_up q 3 t9)) (T := tb a) (w := w) rfl) rfl rfl rfl hl.1 rfl (Nat.le_of_ble_eq_true rfl) dX10_house_27 (fun o w' H locs hp hB => ?_)
      obtain ⟨rfl, hw9⟩ := hp
      replace hB : Bd κ A s (mw κ a r f (va_up q 3 t9) (tb a) w) H locs := by rw [hw9] at hB; exact hB
      refine W.eq (g2 := F0 m 30 ls [.int x13]) rfl ?_
      rw [← hQ]
      exact end_i hX hB hA3 rfl rfl (by obtain ⟨rfl, rfl⟩ := pr2 hR; exact ⟨rfl, ⟨rfl, rfl, rfl⟩, rfl⟩) (Nat.le_of_ble_eq_true rfl) (Nat.le_of_ble_eq_true rfl) dX10_house_30
    · replace hR := ifn c7 hR
      refine lv_iconst (v := 1) hx hb dX10_house_10 (by decide) ?_
      refine lv_goto (tgt := 15) hx hb dX10_house_11 (by decide) ?_
      obtain ⟨x15, t16, hd17⟩ := ex2 (D_X10_isThrown__ (q 0) (q 1) (q 2) (q 3) 1)
      replace hR := bnd2_use hd17 hR
      refine call_V (n := 1) (k0 := 0) (As := [.int 1]) (rest := []) hX hB (k_X10_isThrown__ κ l (mw κ a r f q (tb a) w) 0 (a 0) (a 1) (q 0) (q 1) (q 2) (q 3) 1 (mw0x (a := a) (r := r) (f := f) (q := q) (T := tb a) (w := w) rfl) x15 t16 hd17) ⟨rfl, yk_X10_isThrown__⟩ wm_6_15 wm_6_17 wp_33 wm_1_6 wm_6_18 ⟨Nat.le_of_ble_eq_true rfl, Nat.le_of_ble_eq_true rfl⟩ ⟨Nat.le_of_ble_eq_true rfl, Nat.le_of_ble_eq_true rfl⟩ (mw0x (a := a) (r := r) (f := f) (q := q) (T := tb a) (w := w) rfl) rfl rfl rfl hl.1 rfl (Nat.le_of_ble_eq_true rfl) dX10_house_15 (fun o w' H locs hp hB => ?_)
      obtain ⟨rfl, hf18, hw9⟩ := hp
      replace hB : Bd κ A s (mw κ a r f (va_up q 3 t16) (tb a) w) H locs := by exact Bd_eq (mwQ3x rfl _) (by rw [hw9] at hB; exact hB)
      obtain rfl : x15 = 1 := hf18.trans (by decide)
      refine W.eq (g2 := F0 m 18 ls [.int 1]) rfl ?_
      refine lv_if_eq (tgt := 25) hx hb dX10_house_18 (by decide) (fun c19 => False.elim (by revert c19; decide)) (fun _ => ?_)
      refine lv_iconst (v := 0) hx hb dX10_house_21 (by decide) ?_
      refine lv_goto (tgt := 30) hx hb dX10_house_22 (by decide) ?_
      rw [← hQ]
      exact end_i hX hB hA3 rfl rfl (by obtain ⟨rfl, rfl⟩ := pr2 hR; exact ⟨rfl, ⟨rfl, rfl, rfl⟩, rfl⟩) (Nat.le_of_ble_eq_true rfl) (Nat.le_of_ble_eq_true rfl) dX10_house_30
set_option maxHeartbeats 4000000 in
set_option maxRecDepth 100000 in
theorem k_X10_knock (κ : Kt) (l : Launch) (w : va_W) (a r : Nat → Nat) (f : Nat → Nat → Int64) (q : Nat → Int32) (hm : mok r f) : CM κ l yX10_knock cX10_knock 1 (some .int) 0 0 0 0 [.ref (a 0)] (mw κ a r f q (tb a) w) (fun o w' => o = some (.int (q 2 + 1)) ∧ w' = mw κ a r f (va_up (va_up q 3 0) 2 (q 2 + 1)) (tb a) w) := by
  refine CM_begin (plainFor_of_name pn_RX10) (Nat.le_of_ble_eq_true rfl) ?_
  intro p e s m args below meth c A Q hX hnm hA3 hQ hB ls hl
  have hx := hX.1.1
  have hb := hX.1.2.1
  have hl : lv_has ls 1 [(0, .ref (a 0))] := hl
  refine lv_aload_n hx hb dX10_knock_0 rfl (lv_at hl 0 rfl) ?_
  refine lv_iconst (v := 0) hx hb dX10_knock_1 (by decide) ?_
  refine pf (ty := .int) (k0 := 0) hX hB (mw0x (a := a) (r := r) (f := f) (q := q) (T := tb a) (w := w) rfl) rfl in10 tyX10_ok nmX10 4 (by decide) wm_5_166 rfl rfl rfl rfl rfl (Nat.le_of_ble_eq_true rfl) (w1 := mw κ a r f (va_up q 3 0) (tb a) w) (mwQ3x rfl _) dX10_knock_2 (fun H locs hB => ?_)
  refine lv_aload_n hx hb dX10_knock_5 rfl (lv_at hl 0 rfl) ?_
  refine lv_dup hx hb dX10_knock_6 rfl ?_
  refine gf (k0 := 0) hX hB (mw0x (a := a) (r := r) (f := f) (q := (va_up q 3 0)) (T := tb a) (w := w) rfl) rfl in10 3 (by decide) wm_5_165 rfl rfl dX10_knock_7 ?_
  refine lv_iconst (v := 1) hx hb dX10_knock_10 (by decide) ?_
  refine lv_iadd hx hb dX10_knock_11 ?_
  refine pf (ty := .int) (k0 := 0) hX hB (mw0x (a := a) (r := r) (f := f) (q := (va_up q 3 0)) (T := tb a) (w := w) rfl) rfl in10 tyX10_ok nmX10 3 (by decide) wm_5_165 rfl rfl rfl rfl rfl (Nat.le_of_ble_eq_true rfl) (w1 := mw κ a r f (va_up (va_up q 3 0) 2 (((va_up q 3 0) 2) + 1)) (tb a) w) (mwQ2x rfl _) dX10_knock_12 (fun H locs hB => ?_)
  refine lv_aload_n hx hb dX10_knock_15 rfl (lv_at hl 0 rfl) ?_
  refine gf (k0 := 0) hX hB (mw0x (a := a) (r := r) (f := f) (q := (va_up (va_up q 3 0) 2 (((va_up q 3 0) 2) + 1))) (T := tb a) (w := w) rfl) rfl in10 3 (by decide) wm_5_165 rfl rfl dX10_knock_16 ?_
  rw [← hQ]
  exact end_i hX hB hA3 rfl rfl ⟨rfl, rfl⟩ (Nat.le_of_ble_eq_true rfl) (Nat.le_of_ble_eq_true rfl) dX10_knock_19
noncomputable def D_X10_isSoundNow_42 (r : Nat → Nat) (f : Nat → Nat → Int64) (F11 : Nat → Int64) (F12 : Nat → Int64) (F13 : Nat → Int64) (K16 : Nat) (G17 : Int32) (nn : Nat) : Nat → Int64 → Int32 → Int32 := @Nat.rec (fun _ => Nat → Int64 → Int32 → Int32) (fun _ _ _ => default) (fun _ lb42 (y6_42 : Nat) (y4_42 : Int64) (y3_42 : Int32) => (if G17 = 0 then (if (r (2 * 0)) ≤ y6_42 then bnd1 (D_X7_rank (r (2 * 0)) (r (2 * 0 + 1)) (f 0)) (fun (x151 : Int32) => (if (nI K16) = x151 then bnd1 (D_X7_product (r (2 * 0)) (r (2 * 0)) F12 (r (2 * 0)) (r (2 * 0 + 1)) (f 0)) (fun (F159 : Nat → Int64) => bnd1 (D_X7_product (r (2 * 0)) (r (2 * 0 + 1)) F159 (r (2 * 0 + 1)) (r (2 * 0 + 1)) F11) (fun (F163 : Nat → Int64) => bnd1 (D_X7_isSame (r (2 * 0)) (r (2 * 0 + 1)) F163 (r (2 * 0)) (r (2 * 0 + 1)) F13) (fun (x165 : Int32) => (if x165 = 0 then (if (y3_42 &&& 0) = 0 then 0 else (if (r (2 * 0)) = (r (2 * 0 + 1)) then (if (lg_cmp (mnv (f 0) (r (2 * 0 + 1)) (r (2 * 0)) (2 ^ (r (2 * 0)) - 1) (2 ^ (r (2 * 0 + 1)) - 1)) (bsv (r (2 * 0)) (r (2 * 0 + 1)) (f 0) 4 0 0)) = 0 then 1 else 0) else 1)) else (if (y3_42 &&& 1) = 0 then 0 else (if (r (2 * 0)) = (r (2 * 0 + 1)) then (if (lg_cmp (mnv (f 0) (r (2 * 0 + 1)) (r (2 * 0)) (2 ^ (r (2 * 0)) - 1) (2 ^ (r (2 * 0 + 1)) - 1)) (bsv (r (2 * 0)) (r (2 * 0 + 1)) (f 0) 4 0 0)) = 0 then 1 else 0) else 1)))))) else (if (y3_42 &&& 0) = 0 then 0 else (if (r (2 * 0)) = (r (2 * 0 + 1)) then (if (lg_cmp (mnv (f 0) (r (2 * 0 + 1)) (r (2 * 0)) (2 ^ (r (2 * 0)) - 1) (2 ^ (r (2 * 0 + 1)) - 1)) (bsv (r (2 * 0)) (r (2 * 0 + 1)) (f 0) 4 0 0)) = 0 then 1 else 0) else 1)))) else (if (r (2 * 0 + 1)) ≤ y6_42 then bnd1 (D_X7_rank (r (2 * 0)) (r (2 * 0 + 1)) (f 0)) (fun (x178 : Int32) => (if (nI K16) = x178 then bnd1 (D_X7_product (r (2 * 0)) (r (2 * 0)) F12 (r (2 * 0)) (r (2 * 0 + 1)) (f 0)) (fun (F186 : Nat → Int64) => bnd1 (D_X7_product (r (2 * 0)) (r (2 * 0 + 1)) F186 (r (2 * 0 + 1)) (r (2 * 0 + 1)) F11) (fun (F190 : Nat → Int64) => bnd1 (D_X7_isSame (r (2 * 0)) (r (2 * 0 + 1)) F190 (r (2 * 0)) (r (2 * 0 + 1)) F13) (fun (x192 : Int32) => (if x192 = 0 then (if (y3_42 &&& 0) = 0 then 0 else (if (r (2 * 0)) = (r (2 * 0 + 1)) then (if (lg_cmp (mnv (f 0) (r (2 * 0 + 1)) (r (2 * 0)) (2 ^ (r (2 * 0)) - 1) (2 ^ (r (2 * 0 + 1)) - 1)) (bsv (r (2 * 0)) (r (2 * 0 + 1)) (f 0) 4 0 0)) = 0 then 1 else 0) else 1)) else (if (y3_42 &&& 1) = 0 then 0 else (if (r (2 * 0)) = (r (2 * 0 + 1)) then (if (lg_cmp (mnv (f 0) (r (2 * 0 + 1)) (r (2 * 0)) (2 ^ (r (2 * 0)) - 1) (2 ^ (r (2 * 0 + 1)) - 1)) (bsv (r (2 * 0)) (r (2 * 0 + 1)) (f 0) 4 0 0)) = 0 then 1 else 0) else 1)))))) else (if (y3_42 &&& 0) = 0 then 0 else (if (r (2 * 0)) = (r (2 * 0 + 1)) then (if (lg_cmp (mnv (f 0) (r (2 * 0 + 1)) (r (2 * 0)) (2 ^ (r (2 * 0)) - 1) (2 ^ (r (2 * 0 + 1)) - 1)) (bsv (r (2 * 0)) (r (2 * 0 + 1)) (f 0) 4 0 0)) = 0 then 1 else 0) else 1)))) else bnd1 (D_X7_divisor (r (2 * 0)) (r (2 * 0 + 1)) (f 0) (nI (y6_42 + 1))) (fun (x203 : Int64) => (if (lg_cmp (y4_42 * (F13 (y6_42 * 5 + y6_42))) x203) = 0 then (lb42 (y6_42 + 1) (y4_42 * (F13 (y6_42 * 5 + y6_42))) (y3_42 &&& 1)) else (lb42 (y6_42 + 1) (y4_42 * (F13 (y6_42 * 5 + y6_42))) (y3_42 &&& 0)))))) else (if (y3_42 &&& 1) = 0 then 0 else (if (r (2 * 0)) = (r (2 * 0 + 1)) then (if (lg_cmp (mnv (f 0) (r (2 * 0 + 1)) (r (2 * 0)) (2 ^ (r (2 * 0)) - 1) (2 ^ (r (2 * 0 + 1)) - 1)) (bsv (r (2 * 0)) (r (2 * 0 + 1)) (f 0) 4 0 0)) = 0 then 1 else 0) else 1)))) nn
theorem D_X10_isSoundNow_42_s {r : Nat → Nat} {f : Nat → Nat → Int64} {F11 : Nat → Int64} {F12 : Nat → Int64} {F13 : Nat → Int64} {K16 : Nat} {G17 : Int32} {nn : Nat} {y6_42 : Nat} {y4_42 : Int64} {y3_42 : Int32} : D_X10_isSoundNow_42 r f F11 F12 F13 K16 G17 (nn + 1) y6_42 y4_42 y3_42 = (if G17 = 0 then (if (r (2 * 0)) ≤ y6_42 then bnd1 (D_X7_rank (r (2 * 0)) (r (2 * 0 + 1)) (f 0)) (fun (x151 : Int32) => (if (nI K16) = x151 then bnd1 (D_X7_product (r (2 * 0)) (r (2 * 0)) F12 (r (2 * 0)) (r (2 * 0 + 1)) (f 0)) (fun (F159 : Nat → Int64) => bnd1 (D_X7_product (r (2 * 0)) (r (2 * 0 + 1)) F159 (r (2 * 0 + 1)) (r (2 * 0 + 1)) F11) (fun (F163 : Nat → Int64) => bnd1 (D_X7_isSame (r (2 * 0)) (r (2 * 0 + 1)) F163 (r (2 * 0)) (r (2 * 0 + 1)) F13) (fun (x165 : Int32) => (if x165 = 0 then (if (y3_42 &&& 0) = 0 then 0 else (if (r (2 * 0)) = (r (2 * 0 + 1)) then (if (lg_cmp (mnv (f 0) (r (2 * 0 + 1)) (r (2 * 0)) (2 ^ (r (2 * 0)) - 1) (2 ^ (r (2 * 0 + 1)) - 1)) (bsv (r (2 * 0)) (r (2 * 0 + 1)) (f 0) 4 0 0)) = 0 then 1 else 0) else 1)) else (if (y3_42 &&& 1) = 0 then 0 else (if (r (2 * 0)) = (r (2 * 0 + 1)) then (if (lg_cmp (mnv (f 0) (r (2 * 0 + 1)) (r (2 * 0)) (2 ^ (r (2 * 0)) - 1) (2 ^ (r (2 * 0 + 1)) - 1)) (bsv (r (2 * 0)) (r (2 * 0 + 1)) (f 0) 4 0 0)) = 0 then 1 else 0) else 1)))))) else (if (y3_42 &&& 0) = 0 then 0 else (if (r (2 * 0)) = (r (2 * 0 + 1)) then (if (lg_cmp (mnv (f 0) (r (2 * 0 + 1)) (r (2 * 0)) (2 ^ (r (2 * 0)) - 1) (2 ^ (r (2 * 0 + 1)) - 1)) (bsv (r (2 * 0)) (r (2 * 0 + 1)) (f 0) 4 0 0)) = 0 then 1 else 0) else 1)))) else (if (r (2 * 0 + 1)) ≤ y6_42 then bnd1 (D_X7_rank (r (2 * 0)) (r (2 * 0 + 1)) (f 0)) (fun (x178 : Int32) => (if (nI K16) = x178 then bnd1 (D_X7_product (r (2 * 0)) (r (2 * 0)) F12 (r (2 * 0)) (r (2 * 0 + 1)) (f 0)) (fun (F186 : Nat → Int64) => bnd1 (D_X7_product (r (2 * 0)) (r (2 * 0 + 1)) F186 (r (2 * 0 + 1)) (r (2 * 0 + 1)) F11) (fun (F190 : Nat → Int64) => bnd1 (D_X7_isSame (r (2 * 0)) (r (2 * 0 + 1)) F190 (r (2 * 0)) (r (2 * 0 + 1)) F13) (fun (x192 : Int32) => (if x192 = 0 then (if (y3_42 &&& 0) = 0 then 0 else (if (r (2 * 0)) = (r (2 * 0 + 1)) then (if (lg_cmp (mnv (f 0) (r (2 * 0 + 1)) (r (2 * 0)) (2 ^ (r (2 * 0)) - 1) (2 ^ (r (2 * 0 + 1)) - 1)) (bsv (r (2 * 0)) (r (2 * 0 + 1)) (f 0) 4 0 0)) = 0 then 1 else 0) else 1)) else (if (y3_42 &&& 1) = 0 then 0 else (if (r (2 * 0)) = (r (2 * 0 + 1)) then (if (lg_cmp (mnv (f 0) (r (2 * 0 + 1)) (r (2 * 0)) (2 ^ (r (2 * 0)) - 1) (2 ^ (r (2 * 0 + 1)) - 1)) (bsv (r (2 * 0)) (r (2 * 0 + 1)) (f 0) 4 0 0)) = 0 then 1 else 0) else 1)))))) else (if (y3_42 &&& 0) = 0 then 0 else (if (r (2 * 0)) = (r (2 * 0 + 1)) then (if (lg_cmp (mnv (f 0) (r (2 * 0 + 1)) (r (2 * 0)) (2 ^ (r (2 * 0)) - 1) (2 ^ (r (2 * 0 + 1)) - 1)) (bsv (r (2 * 0)) (r (2 * 0 + 1)) (f 0) 4 0 0)) = 0 then 1 else 0) else 1)))) else bnd1 (D_X7_divisor (r (2 * 0)) (r (2 * 0 + 1)) (f 0) (nI (y6_42 + 1))) (fun (x203 : Int64) => (if (lg_cmp (y4_42 * (F13 (y6_42 * 5 + y6_42))) x203) = 0 then ((D_X10_isSoundNow_42 r f F11 F12 F13 K16 G17 nn) (y6_42 + 1) (y4_42 * (F13 (y6_42 * 5 + y6_42))) (y3_42 &&& 1)) else ((D_X10_isSoundNow_42 r f F11 F12 F13 K16 G17 nn) (y6_42 + 1) (y4_42 * (F13 (y6_42 * 5 + y6_42))) (y3_42 &&& 0)))))) else (if (y3_42 &&& 1) = 0 then 0 else (if (r (2 * 0)) = (r (2 * 0 + 1)) then (if (lg_cmp (mnv (f 0) (r (2 * 0 + 1)) (r (2 * 0)) (2 ^ (r (2 * 0)) - 1) (2 ^ (r (2 * 0 + 1)) - 1)) (bsv (r (2 * 0)) (r (2 * 0 + 1)) (f 0) 4 0 0)) = 0 then 1 else 0) else 1))) := rfl
noncomputable def D_X10_isSoundNow (r : Nat → Nat) (f : Nat → Nat → Int64) (q : Nat → Int32) : Int32 := (if (3 : Nat) < (r (2 * 0)) then 1 else (if (r (2 * 0 + 1)) ≤ 3 then bnd7 (D_X9_init (r (2 * 0)) (r (2 * 0 + 1)) (f 0)) (fun (F11 : Nat → Int64) (F12 : Nat → Int64) (F13 : Nat → Int64) (S14 : Int32) (S15 : Int32) (K16 : Nat) (G17 : Int32) => (D_X10_isSoundNow_42 r f F11 F12 F13 K16 G17 ((r (2 * 0)) + 1 - 0 + 1) 0 1 1)) else 1))
theorem D_X10_isSoundNow_s {r : Nat → Nat} {f : Nat → Nat → Int64} {q : Nat → Int32} : D_X10_isSoundNow r f q = (if (3 : Nat) < (r (2 * 0)) then 1 else (if (r (2 * 0 + 1)) ≤ 3 then bnd7 (D_X9_init (r (2 * 0)) (r (2 * 0 + 1)) (f 0)) (fun (F11 : Nat → Int64) (F12 : Nat → Int64) (F13 : Nat → Int64) (S14 : Int32) (S15 : Int32) (K16 : Nat) (G17 : Int32) => (D_X10_isSoundNow_42 r f F11 F12 F13 K16 G17 ((r (2 * 0)) + 1 - 0 + 1) 0 1 1)) else 1)) := rfl
set_option maxHeartbeats 4000000 in
set_option maxRecDepth 100000 in
theorem k_X10_isSoundNow (κ : Kt) (l : Launch) (w : va_W) (a r : Nat → Nat) (f : Nat → Nat → Int64) (q : Nat → Int32) (hm : mok r f) (o_x : Int32) (hR : D_X10_isSoundNow r f q = o_x) : CM κ l yX10_isSoundNow cX10_isSoundNow 7 (some .boolean) 132 3037 11 122 [.ref (a 0)] (mw κ a r f q (tb a) w) (fun o w' => o = some (.int o_x) ∧ (o_x = 0 ∨ o_x = 1) ∧ w' = mw κ a r f q (tb a) w) := by
  refine CM_begin (plainFor_of_name pn_RX10) (Nat.le_of_ble_eq_true rfl) ?_
  intro p e s m args below meth c A Q hX hnm hA3 hQ hB ls hl
  have hx := hX.1.1
  have hb := hX.1.2.1
  have hl : lv_has ls 7 [(0, .ref (a 0))] := hl
  replace hR := (D_X10_isSoundNow_s).symm.trans hR
  refine lv_aload_n hx hb dX10_isSoundNow_0 rfl (lv_at hl 0 rfl) ?_
  refine gf (k0 := 0) hX hB (mw0x (a := a) (r := r) (f := f) (q := q) (T := tb a) (w := w) rfl) rfl in10 0 (by decide) wm_5_162 rfl rfl dX10_isSoundNow_1 ?_
  refine lv_iconst (v := 0) hx hb dX10_isSoundNow_4 (by decide) ?_
  refine aaldM (k0 := 1) hX hB (mw1 (a := a) (r := r) (f := f) (q := q) (T := tb a) (w := w)) (vp_in_nI (n := 0) (by omega) (by omega)) rfl dX10_isSoundNow_5 ?_
  have hb1 := mok_r hm 0 (by omega)
  refine lv_astore_n (lv' := [(1, .ref (a (2 + 2 * 0))), (0, .ref (a 0))]) hx hb dX10_isSoundNow_6 rfl hl (by decide) rfl (fun ls hl => ?_)
  refine lv_aload_n hx hb dX10_isSoundNow_7 rfl (lv_at hl 0 rfl) ?_
  refine gf (k0 := 2 + 2 * 0) hX hB (mwG (i := 0) (a := a) (r := r) (f := f) (q := q) (T := tb a) (w := w) (by omega)) rfl in7 0 (by decide) wm_5_148 rfl rfl dX10_isSoundNow_8 ?_
  refine lv_iconst (v := 3) hx hb dX10_isSoundNow_11 (by decide) ?_
  refine lv_icmp_gt (tgt := 23) hx hb dX10_isSoundNow_12 (by decide) (fun c2 => ?_) (fun c2 => ?_)
  · replace c2 : nI 3 < nI (r (2 * 0)) := c2
    rw [nltP (by omega) (by omega)] at c2
    replace hR := ifp c2 hR
    refine lv_iconst (v := 1) hx hb dX10_isSoundNow_23 (by decide) ?_
    rw [← hQ]
    exact end_i hX hB hA3 rfl rfl (by obtain rfl := hR; exact ⟨rfl, (Or.inr rfl), rfl⟩) (Nat.le_of_ble_eq_true rfl) (Nat.le_of_ble_eq_true rfl) dX10_isSoundNow_24
  · replace c2 : ¬ nI 3 < nI (r (2 * 0)) := c2
    rw [nltP (by omega) (by omega)] at c2
    replace hR := ifn c2 hR
    refine lv_aload_n hx hb dX10_isSoundNow_15 rfl (lv_at hl 0 rfl) ?_
    refine gf (k0 := 2 + 2 * 0) hX hB (mwG (i := 0) (a := a) (r := r) (f := f) (q := q) (T := tb a) (w := w) (by omega)) rfl in7 1 (by decide) wm_5_152 rfl rfl dX10_isSoundNow_16 ?_
    refine lv_iconst (v := 3) hx hb dX10_isSoundNow_19 (by decide) ?_
    refine lv_icmp_le (tgt := 25) hx hb dX10_isSoundNow_20 (by decide) (fun c3 => ?_) (fun c3 => ?_)
    · replace c3 : nI (r (2 * 0 + 1)) ≤ nI 3 := c3
      rw [nleP (by omega) (by omega)] at c3
      replace hR := ifp c3 hR
      refine newO (fs := [.null, .null, .null, .int 0, .int 0, .int 0, .int 0]) hX hB (ci := 10) rfl in9 tyX9_ok wm_6_176 wm_6_177 wm_1_16 df10 (Nat.le_of_ble_eq_true rfl) (Nat.le_of_ble_eq_true rfl) dX10_isSoundNow_25 (fun q4 H hB => ?_)
      refine lv_dup hx hb dX10_isSoundNow_28 rfl ?_
      refine lv_aload_n hx hb dX10_isSoundNow_29 rfl (lv_at hl 0 rfl) ?_
      obtain ⟨F11, F12, F13, S14, S15, K16, G17, hd18⟩ := ex7 (D_X9_init (r (2 * 0)) (r (2 * 0 + 1)) (f 0))
      replace hR := bnd7_use hd18 hR
      refine call_I (n := 1) (As := [.ref (a (2 + 2 * 0))]) (rest := [.ref q4]) hX hB (k_X9_init κ l (mw κ a r f q (tb a) w) q4 (2 + 2 * 0) (3 + 2 * 0) (a (2 + 2 * 0)) (a (3 + 2 * 0)) (r (2 * 0)) (r (2 * 0 + 1)) (f 0) (mwG (i := 0) (a := a) (r := r) (f := f) (q := q) (T := tb a) (w := w) (by omega)) (mwA (i := 0) (a := a) (r := r) (f := f) (q := q) (T := tb a) (w := w) (by omega)) (mok_shp (i := 0) hm (by omega)) (by omega) (fun k hk => sm_ng ((hm _ (by omega)).2 k hk)) F11 F12 F13 S14 S15 K16 G17 hd18) yk_X9_init rfl wm_6_178 wm_6_179 wm_1_16 wm_6_180 ⟨Nat.le_of_ble_eq_true rfl, Nat.le_of_ble_eq_true rfl⟩ ⟨Nat.le_of_ble_eq_true rfl, Nat.le_of_ble_eq_true rfl⟩ rfl hl.1 rfl (Nat.le_of_ble_eq_true rfl) dX10_isSoundNow_30 (fun o w' H locs hp hB => ?_)
      obtain ⟨g5, b6, g7, b8, g9, b10, rfl, hf19, hw9⟩ := hp
      replace hB : Bd κ A s (lA κ b6 ((r (2 * 0 + 1)) * 5) F11 :: gO g5 (r (2 * 0 + 1)) (r (2 * 0 + 1)) b6 :: lA κ b8 ((r (2 * 0)) * 5) F12 :: gO g7 (r (2 * 0)) (r (2 * 0)) b8 :: lA κ b10 ((r (2 * 0)) * 5) F13 :: gO g9 (r (2 * 0)) (r (2 * 0 + 1)) b10 :: (q4, .inr (10, [.ref g9, .ref g7, .ref g5, .int S14, .int S15, .int (nI K16), .int G17])) :: mw κ a r f q (tb a) w) H locs := by rw [hw9] at hB; exact hB
      refine W.eq (g2 := F0 m 33 ls [.ref q4]) rfl ?_
      refine lv_astore_n (lv' := [(2, .ref q4), (1, .ref (a (2 + 2 * 0))), (0, .ref (a 0))]) hx hb dX10_isSoundNow_33 rfl hl (by decide) rfl (fun ls hl => ?_)
      refine lv_iconst (v := 1) hx hb dX10_isSoundNow_34 (by decide) ?_
      refine lv_istore_n (lv' := [(3, .int 1), (2, .ref q4), (1, .ref (a (2 + 2 * 0))), (0, .ref (a 0))]) hx hb dX10_isSoundNow_35 rfl hl (by decide) rfl (fun ls hl => ?_)
      have hK := hf19
      refine lv_lconst (v := 1) hx hb dX10_isSoundNow_36 (by decide) ?_
      refine lv_lstore (lv' := [(4, .long 1), (3, .int 1), (2, .ref q4), (1, .ref (a (2 + 2 * 0))), (0, .ref (a 0))]) hx hb dX10_isSoundNow_37 hl (by decide) rfl (fun ls hl => ?_)
      refine lv_iconst (v := 0) hx hb dX10_isSoundNow_39 (by decide) ?_
      refine lv_istore (lv' := [(6, .int 0), (4, .long 1), (3, .int 1), (2, .ref q4), (1, .ref (a (2 + 2 * 0))), (0, .ref (a 0))]) hx hb dX10_isSoundNow_40 hl (by decide) rfl (fun ls hl => ?_)
      have lp42 : ∀ (nn42 : Nat) (y6_42 : Nat) (y4_42 : Int64) (y3_42 : Int32) (H : Heap) (locs : List Loc), (y6_42 ≤ (r (2 * 0))) → (r (2 * 0)) + 1 - y6_42 < nn42 → D_X10_isSoundNow_42 r f F11 F12 F13 K16 G17 nn42 y6_42 y4_42 y3_42 = o_x → Bd κ A s (lA κ b6 ((r (2 * 0 + 1)) * 5) F11 :: gO g5 (r (2 * 0 + 1)) (r (2 * 0 + 1)) b6 :: lA κ b8 ((r (2 * 0)) * 5) F12 :: gO g7 (r (2 * 0)) (r (2 * 0)) b8 :: lA κ b10 ((r (2 * 0)) * 5) F13 :: gO g9 (r (2 * 0)) (r (2 * 0 + 1)) b10 :: (q4, .inr (10, [.ref g9, .ref g7, .ref g5, .int S14, .int S15, .int (nI K16), .int G17])) :: mw κ a r f q (tb a) w) H locs → ∀ ls : Array Slot, lv_has ls 7 [(6, .int (nI y6_42)), (4, .long y4_42), (3, .int y3_42), (2, .ref q4), (1, .ref (a (2 + 2 * 0))), (0, .ref (a 0))] → W p l e (Rm 132 3037 11 122) s m args below meth c H locs (7) (76) Q (F0 m 42 ls []) := by
        intro nn42
        induction nn42 with
        | zero => intro y6_42 y4_42 y3_42 H locs hn6_42 hμ; exact absurd hμ (Nat.not_lt_zero _)
        | succ nn42 ih42 =>
          intro y6_42 y4_42 y3_42 H locs hn6_42 hμ42 hR hB ls hl
          replace hR := (D_X10_isSoundNow_42_s).symm.trans hR
          refine lv_aload_n hx hb dX10_isSoundNow_42 rfl (lv_at hl 3 rfl) ?_
          refine gf (k0 := 6) hX hB rfl rfl in9 6 (by decide) wm_6_234 rfl rfl dX10_isSoundNow_43 ?_
          refine lv_if_ne (tgt := 111) hx hb dX10_isSoundNow_46 (by decide) (fun c144 => ?_) (fun c144 => ?_)
          · replace hR := ifn c144 hR
            refine lv_iload_n hx hb dX10_isSoundNow_111 rfl (lv_at hl 2 rfl) ?_
            refine lv_aload_n hx hb dX10_isSoundNow_112 rfl (lv_at hl 3 rfl) ?_
            refine gf (k0 := 6) hX hB rfl rfl in9 6 (by decide) wm_6_234 rfl rfl dX10_isSoundNow_113 ?_
            refine lv_if_ne (tgt := 155) hx hb dX10_isSoundNow_116 (by decide) (fun _ => ?_) (fun c145 => False.elim (c144 c145))
            refine lv_iconst (v := 1) hx hb dX10_isSoundNow_155 (by decide) ?_
            refine lv_goto (tgt := 160) hx hb dX10_isSoundNow_156 (by decide) ?_
            refine lv_iand hx hb dX10_isSoundNow_160 ?_
            refine lv_istore_n (lv' := [(3, .int (y3_42 &&& 1)), (6, .int (nI y6_42)), (4, .long y4_42), (2, .ref q4), (1, .ref (a (2 + 2 * 0))), (0, .ref (a 0))]) hx hb dX10_isSoundNow_161 rfl hl (by decide) rfl (fun ls hl => ?_)
            refine lv_iload_n hx hb dX10_isSoundNow_162 rfl (lv_at hl 0 rfl) ?_
            refine lv_if_eq (tgt := 195) hx hb dX10_isSoundNow_163 (by decide) (fun c146 => ?_) (fun c146 => ?_)
            · replace hR := ifp c146 hR
              refine lv_iconst (v := 0) hx hb dX10_isSoundNow_195 (by decide) ?_
              replace hB : Bd κ A s (lA κ b6 ((r (2 * 0 + 1)) * 5) F11 :: gO g5 (r (2 * 0 + 1)) (r (2 * 0 + 1)) b6 :: lA κ b8 ((r (2 * 0)) * 5) F12 :: gO g7 (r (2 * 0)) (r (2 * 0)) b8 :: lA κ b10 ((r (2 * 0)) * 5) F13 :: gO g9 (r (2 * 0)) (r (2 * 0 + 1)) b10 :: mw κ a r f q (tb a) w) H locs := Bd_del 6 hB
              replace hB : Bd κ A s (lA κ b6 ((r (2 * 0 + 1)) * 5) F11 :: gO g5 (r (2 * 0 + 1)) (r (2 * 0 + 1)) b6 :: lA κ b8 ((r (2 * 0)) * 5) F12 :: gO g7 (r (2 * 0)) (r (2 * 0)) b8 :: lA κ b10 ((r (2 * 0)) * 5) F13 :: mw κ a r f q (tb a) w) H locs := Bd_del 5 hB
              replace hB : Bd κ A s (lA κ b6 ((r (2 * 0 + 1)) * 5) F11 :: gO g5 (r (2 * 0 + 1)) (r (2 * 0 + 1)) b6 :: lA κ b8 ((r (2 * 0)) * 5) F12 :: gO g7 (r (2 * 0)) (r (2 * 0)) b8 :: mw κ a r f q (tb a) w) H locs := Bd_del 4 hB
              replace hB : Bd κ A s (lA κ b6 ((r (2 * 0 + 1)) * 5) F11 :: gO g5 (r (2 * 0 + 1)) (r (2 * 0 + 1)) b6 :: lA κ b8 ((r (2 * 0)) * 5) F12 :: mw κ a r f q (tb a) w) H locs := Bd_del 3 hB
              replace hB : Bd κ A s (lA κ b6 ((r (2 * 0 + 1)) * 5) F11 :: gO g5 (r (2 * 0 + 1)) (r (2 * 0 + 1)) b6 :: mw κ a r f q (tb a) w) H locs := Bd_del 2 hB
              replace hB : Bd κ A s (lA κ b6 ((r (2 * 0 + 1)) * 5) F11 :: mw κ a r f q (tb a) w) H locs := Bd_del 1 hB
              replace hB : Bd κ A s (mw κ a r f q (tb a) w) H locs := Bd_del 0 hB
              rw [← hQ]
              exact end_i hX hB hA3 rfl rfl (by obtain rfl := hR; exact ⟨rfl, (Or.inl rfl), rfl⟩) (Nat.le_of_ble_eq_true rfl) (Nat.le_of_ble_eq_true rfl) dX10_isSoundNow_196
            · replace hR := ifn c146 hR
              refine lv_aload_n hx hb dX10_isSoundNow_166 rfl (lv_at hl 4 rfl) ?_
              refine gf (k0 := 2 + 2 * 0 + 7) hX hB (mwG (i := 0) (a := a) (r := r) (f := f) (q := q) (T := tb a) (w := w) (by omega)) rfl in7 0 (by decide) wm_5_148 rfl rfl dX10_isSoundNow_167 ?_
              refine lv_aload_n hx hb dX10_isSoundNow_170 rfl (lv_at hl 4 rfl) ?_
              refine gf (k0 := 2 + 2 * 0 + 7) hX hB (mwG (i := 0) (a := a) (r := r) (f := f) (q := q) (T := tb a) (w := w) (by omega)) rfl in7 1 (by decide) wm_5_152 rfl rfl dX10_isSoundNow_171 ?_
              refine lv_icmp_ne (tgt := 191) hx hb dX10_isSoundNow_174 (by decide) (fun c147 => ?_) (fun c147 => ?_)
              · rw [neqP (a := r (2 * 0)) (b := r (2 * 0 + 1)) (by omega) (by omega)] at c147
                replace hR := ifn c147 hR
                refine lv_iconst (v := 1) hx hb dX10_isSoundNow_191 (by decide) ?_
                refine lv_goto (tgt := 196) hx hb dX10_isSoundNow_192 (by decide) ?_
                replace hB : Bd κ A s (lA κ b6 ((r (2 * 0 + 1)) * 5) F11 :: gO g5 (r (2 * 0 + 1)) (r (2 * 0 + 1)) b6 :: lA κ b8 ((r (2 * 0)) * 5) F12 :: gO g7 (r (2 * 0)) (r (2 * 0)) b8 :: lA κ b10 ((r (2 * 0)) * 5) F13 :: gO g9 (r (2 * 0)) (r (2 * 0 + 1)) b10 :: mw κ a r f q (tb a) w) H locs := Bd_del 6 hB
                replace hB : Bd κ A s (lA κ b6 ((r (2 * 0 + 1)) * 5) F11 :: gO g5 (r (2 * 0 + 1)) (r (2 * 0 + 1)) b6 :: lA κ b8 ((r (2 * 0)) * 5) F12 :: gO g7 (r (2 * 0)) (r (2 * 0)) b8 :: lA κ b10 ((r (2 * 0)) * 5) F13 :: mw κ a r f q (tb a) w) H locs := Bd_del 5 hB
                replace hB : Bd κ A s (lA κ b6 ((r (2 * 0 + 1)) * 5) F11 :: gO g5 (r (2 * 0 + 1)) (r (2 * 0 + 1)) b6 :: lA κ b8 ((r (2 * 0)) * 5) F12 :: gO g7 (r (2 * 0)) (r (2 * 0)) b8 :: mw κ a r f q (tb a) w) H locs := Bd_del 4 hB
                replace hB : Bd κ A s (lA κ b6 ((r (2 * 0 + 1)) * 5) F11 :: gO g5 (r (2 * 0 + 1)) (r (2 * 0 + 1)) b6 :: lA κ b8 ((r (2 * 0)) * 5) F12 :: mw κ a r f q (tb a) w) H locs := Bd_del 3 hB
                replace hB : Bd κ A s (lA κ b6 ((r (2 * 0 + 1)) * 5) F11 :: gO g5 (r (2 * 0 + 1)) (r (2 * 0 + 1)) b6 :: mw κ a r f q (tb a) w) H locs := Bd_del 2 hB
                replace hB : Bd κ A s (lA κ b6 ((r (2 * 0 + 1)) * 5) F11 :: mw κ a r f q (tb a) w) H locs := Bd_del 1 hB
                replace hB : Bd κ A s (mw κ a r f q (tb a) w) H locs := Bd_del 0 hB
                rw [← hQ]
                exact end_i hX hB hA3 rfl rfl (by obtain rfl := hR; exact ⟨rfl, (Or.inr rfl), rfl⟩) (Nat.le_of_ble_eq_true rfl) (Nat.le_of_ble_eq_true rfl) dX10_isSoundNow_196
              · rw [neqP (a := r (2 * 0)) (b := r (2 * 0 + 1)) (by omega) (by omega)] at c147
                replace hR := ifp c147 hR
                refine lv_aload_n hx hb dX10_isSoundNow_177 rfl (lv_at hl 4 rfl) ?_
                refine call_S (n := 1) (As := [.ref (a (2 + 2 * 0))]) (rest := []) hX hB (k_X10_determinantOf κ l (lA κ b6 ((r (2 * 0 + 1)) * 5) F11 :: gO g5 (r (2 * 0 + 1)) (r (2 * 0 + 1)) b6 :: lA κ b8 ((r (2 * 0)) * 5) F12 :: gO g7 (r (2 * 0)) (r (2 * 0)) b8 :: lA κ b10 ((r (2 * 0)) * 5) F13 :: gO g9 (r (2 * 0)) (r (2 * 0 + 1)) b10 :: (q4, .inr (10, [.ref g9, .ref g7, .ref g5, .int S14, .int S15, .int (nI K16), .int G17])) :: mw κ a r f q (tb a) w) (2 + 2 * 0 + 7) (3 + 2 * 0 + 7) (a (2 + 2 * 0)) (a (3 + 2 * 0)) (r (2 * 0)) (r (2 * 0 + 1)) (f 0) (mwG (i := 0) (a := a) (r := r) (f := f) (q := q) (T := tb a) (w := w) (by omega)) (mwA (i := 0) (a := a) (r := r) (f := f) (q := q) (T := tb a) (w := w) (by omega)) (mok_shp (i := 0) hm (by omega)) (by omega)) yk_X10_determinantOf wm_7_76 wm_7_77 wm_1_6 wm_7_78 ⟨Nat.le_of_ble_eq_true rfl, Nat.le_of_ble_eq_true rfl⟩ ⟨Nat.le_of_ble_eq_true rfl, Nat.le_of_ble_eq_true rfl⟩ rfl hl.1 rfl (Nat.le_of_ble_eq_true rfl) dX10_isSoundNow_178 (fun o w' H locs hp hB => ?_)
                obtain ⟨rfl, hw9⟩ := hp
                replace hB : Bd κ A s (lA κ b6 ((r (2 * 0 + 1)) * 5) F11 :: gO g5 (r (2 * 0 + 1)) (r (2 * 0 + 1)) b6 :: lA κ b8 ((r (2 * 0)) * 5) F12 :: gO g7 (r (2 * 0)) (r (2 * 0)) b8 :: lA κ b10 ((r (2 * 0)) * 5) F13 :: gO g9 (r (2 * 0)) (r (2 * 0 + 1)) b10 :: (q4, .inr (10, [.ref g9, .ref g7, .ref g5, .int S14, .int S15, .int (nI K16), .int G17])) :: mw κ a r f q (tb a) w) H locs := by rw [hw9] at hB; exact hB
                refine W.eq (g2 := F0 m 181 ls [.long (mnv (f 0) (r (2 * 0 + 1)) (r (2 * 0)) (2 ^ (r (2 * 0)) - 1) (2 ^ (r (2 * 0 + 1)) - 1))]) rfl ?_
                refine lv_aload_n hx hb dX10_isSoundNow_181 rfl (lv_at hl 4 rfl) ?_
                refine lv_iconst (v := 0) hx hb dX10_isSoundNow_182 (by decide) ?_
                refine lv_iconst (v := 0) hx hb dX10_isSoundNow_183 (by decide) ?_
                refine call_S (n := 3) (As := [.ref (a (2 + 2 * 0)), .int 0, .int 0]) (rest := [.long (mnv (f 0) (r (2 * 0 + 1)) (r (2 * 0)) (2 ^ (r (2 * 0)) - 1) (2 ^ (r (2 * 0 + 1)) - 1))]) hX hB (k_X10_bySequences κ l (lA κ b6 ((r (2 * 0 + 1)) * 5) F11 :: gO g5 (r (2 * 0 + 1)) (r (2 * 0 + 1)) b6 :: lA κ b8 ((r (2 * 0)) * 5) F12 :: gO g7 (r (2 * 0)) (r (2 * 0)) b8 :: lA κ b10 ((r (2 * 0)) * 5) F13 :: gO g9 (r (2 * 0)) (r (2 * 0 + 1)) b10 :: (q4, .inr (10, [.ref g9, .ref g7, .ref g5, .int S14, .int S15, .int (nI K16), .int G17])) :: mw κ a r f q (tb a) w) (2 + 2 * 0 + 7) (3 + 2 * 0 + 7) (a (2 + 2 * 0)) (a (3 + 2 * 0)) (r (2 * 0)) (r (2 * 0 + 1)) (f 0) 0 0 0 (mwG (i := 0) (a := a) (r := r) (f := f) (q := q) (T := tb a) (w := w) (by omega)) (mwA (i := 0) (a := a) (r := r) (f := f) (q := q) (T := tb a) (w := w) (by omega)) (mok_shp (i := 0) hm (by omega)) rfl (by omega)) yk_X10_bySequences wm_7_88 wm_7_89 wm_1_6 wm_7_90 ⟨Nat.le_of_ble_eq_true rfl, Nat.le_of_ble_eq_true rfl⟩ ⟨Nat.le_of_ble_eq_true rfl, Nat.le_of_ble_eq_true rfl⟩ rfl hl.1 rfl (Nat.le_of_ble_eq_true rfl) dX10_isSoundNow_184 (fun o w' H locs hp hB => ?_)
                obtain ⟨rfl, hw9⟩ := hp
                replace hB : Bd κ A s (lA κ b6 ((r (2 * 0 + 1)) * 5) F11 :: gO g5 (r (2 * 0 + 1)) (r (2 * 0 + 1)) b6 :: lA κ b8 ((r (2 * 0)) * 5) F12 :: gO g7 (r (2 * 0)) (r (2 * 0)) b8 :: lA κ b10 ((r (2 * 0)) * 5) F13 :: gO g9 (r (2 * 0)) (r (2 * 0 + 1)) b10 :: (q4, .inr (10, [.ref g9, .ref g7, .ref g5, .int S14, .int S15, .int (nI K16), .int G17])) :: mw κ a r f q (tb a) w) H locs := by rw [hw9] at hB; exact hB
                refine W.eq (g2 := F0 m 187 ls [.long (bsv (r (2 * 0)) (r (2 * 0 + 1)) (f 0) 4 0 0), .long (mnv (f 0) (r (2 * 0 + 1)) (r (2 * 0)) (2 ^ (r (2 * 0)) - 1) (2 ^ (r (2 * 0 + 1)) - 1))]) rfl ?_
                refine W.lcmp hx hb dX10_isSoundNow_187 ?_
                refine lv_if_ne (tgt := 195) hx hb dX10_isSoundNow_188 (by decide) (fun c148 => ?_) (fun c148 => ?_)
                · replace hR := ifn c148 hR
                  refine lv_iconst (v := 0) hx hb dX10_isSoundNow_195 (by decide) ?_
                  replace hB : Bd κ A s (lA κ b6 ((r (2 * 0 + 1)) * 5) F11 :: gO g5 (r (2 * 0 + 1)) (r (2 * 0 + 1)) b6 :: lA κ b8 ((r (2 * 0)) * 5) F12 :: gO g7 (r (2 * 0)) (r (2 * 0)) b8 :: lA κ b10 ((r (2 * 0)) * 5) F13 :: gO g9 (r (2 * 0)) (r (2 * 0 + 1)) b10 :: mw κ a r f q (tb a) w) H locs := Bd_del 6 hB
                  replace hB : Bd κ A s (lA κ b6 ((r (2 * 0 + 1)) * 5) F11 :: gO g5 (r (2 * 0 + 1)) (r (2 * 0 + 1)) b6 :: lA κ b8 ((r (2 * 0)) * 5) F12 :: gO g7 (r (2 * 0)) (r (2 * 0)) b8 :: lA κ b10 ((r (2 * 0)) * 5) F13 :: mw κ a r f q (tb a) w) H locs := Bd_del 5 hB
                  replace hB : Bd κ A s (lA κ b6 ((r (2 * 0 + 1)) * 5) F11 :: gO g5 (r (2 * 0 + 1)) (r (2 * 0 + 1)) b6 :: lA κ b8 ((r (2 * 0)) * 5) F12 :: gO g7 (r (2 * 0)) (r (2 * 0)) b8 :: mw κ a r f q (tb a) w) H locs := Bd_del 4 hB
                  replace hB : Bd κ A s (lA κ b6 ((r (2 * 0 + 1)) * 5) F11 :: gO g5 (r (2 * 0 + 1)) (r (2 * 0 + 1)) b6 :: lA κ b8 ((r (2 * 0)) * 5) F12 :: mw κ a r f q (tb a) w) H locs := Bd_del 3 hB
                  replace hB : Bd κ A s (lA κ b6 ((r (2 * 0 + 1)) * 5) F11 :: gO g5 (r (2 * 0 + 1)) (r (2 * 0 + 1)) b6 :: mw κ a r f q (tb a) w) H locs := Bd_del 2 hB
                  replace hB : Bd κ A s (lA κ b6 ((r (2 * 0 + 1)) * 5) F11 :: mw κ a r f q (tb a) w) H locs := Bd_del 1 hB
                  replace hB : Bd κ A s (mw κ a r f q (tb a) w) H locs := Bd_del 0 hB
                  rw [← hQ]
                  exact end_i hX hB hA3 rfl rfl (by obtain rfl := hR; exact ⟨rfl, (Or.inl rfl), rfl⟩) (Nat.le_of_ble_eq_true rfl) (Nat.le_of_ble_eq_true rfl) dX10_isSoundNow_196
                · replace hR := ifp c148 hR
                  refine lv_iconst (v := 1) hx hb dX10_isSoundNow_191 (by decide) ?_
                  refine lv_goto (tgt := 196) hx hb dX10_isSoundNow_192 (by decide) ?_
                  replace hB : Bd κ A s (lA κ b6 ((r (2 * 0 + 1)) * 5) F11 :: gO g5 (r (2 * 0 + 1)) (r (2 * 0 + 1)) b6 :: lA κ b8 ((r (2 * 0)) * 5) F12 :: gO g7 (r (2 * 0)) (r (2 * 0)) b8 :: lA κ b10 ((r (2 * 0)) * 5) F13 :: gO g9 (r (2 * 0)) (r (2 * 0 + 1)) b10 :: mw κ a r f q (tb a) w) H locs := Bd_del 6 hB
                  replace hB : Bd κ A s (lA κ b6 ((r (2 * 0 + 1)) * 5) F11 :: gO g5 (r (2 * 0 + 1)) (r (2 * 0 + 1)) b6 :: lA κ b8 ((r (2 * 0)) * 5) F12 :: gO g7 (r (2 * 0)) (r (2 * 0)) b8 :: lA κ b10 ((r (2 * 0)) * 5) F13 :: mw κ a r f q (tb a) w) H locs := Bd_del 5 hB
                  replace hB : Bd κ A s (lA κ b6 ((r (2 * 0 + 1)) * 5) F11 :: gO g5 (r (2 * 0 + 1)) (r (2 * 0 + 1)) b6 :: lA κ b8 ((r (2 * 0)) * 5) F12 :: gO g7 (r (2 * 0)) (r (2 * 0)) b8 :: mw κ a r f q (tb a) w) H locs := Bd_del 4 hB
                  replace hB : Bd κ A s (lA κ b6 ((r (2 * 0 + 1)) * 5) F11 :: gO g5 (r (2 * 0 + 1)) (r (2 * 0 + 1)) b6 :: lA κ b8 ((r (2 * 0)) * 5) F12 :: mw κ a r f q (tb a) w) H locs := Bd_del 3 hB
                  replace hB : Bd κ A s (lA κ b6 ((r (2 * 0 + 1)) * 5) F11 :: gO g5 (r (2 * 0 + 1)) (r (2 * 0 + 1)) b6 :: mw κ a r f q (tb a) w) H locs := Bd_del 2 hB
                  replace hB : Bd κ A s (lA κ b6 ((r (2 * 0 + 1)) * 5) F11 :: mw κ a r f q (tb a) w) H locs := Bd_del 1 hB
                  replace hB : Bd κ A s (mw κ a r f q (tb a) w) H locs := Bd_del 0 hB
                  rw [← hQ]
                  exact end_i hX hB hA3 rfl rfl (by obtain rfl := hR; exact ⟨rfl, (Or.inr rfl), rfl⟩) (Nat.le_of_ble_eq_true rfl) (Nat.le_of_ble_eq_true rfl) dX10_isSoundNow_196
          · replace hR := ifp c144 hR
            refine lv_iload hx hb dX10_isSoundNow_49 (lv_at hl 0 rfl) ?_
            refine lv_aload_n hx hb dX10_isSoundNow_51 rfl (lv_at hl 4 rfl) ?_
            refine gf (k0 := 2 + 2 * 0 + 7) hX hB (mwG (i := 0) (a := a) (r := r) (f := f) (q := q) (T := tb a) (w := w) (by omega)) rfl in7 0 (by decide) wm_5_148 rfl rfl dX10_isSoundNow_52 ?_
            refine lv_icmp_ge (tgt := 111) hx hb dX10_isSoundNow_55 (by decide) (fun c149 => ?_) (fun c149 => ?_)
            · rw [nleP (a := r (2 * 0)) (b := y6_42) (by omega) (by omega)] at c149
              replace hR := ifp c149 hR
              refine lv_iload_n hx hb dX10_isSoundNow_111 rfl (lv_at hl 2 rfl) ?_
              refine lv_aload_n hx hb dX10_isSoundNow_112 rfl (lv_at hl 3 rfl) ?_
              refine gf (k0 := 6) hX hB rfl rfl in9 6 (by decide) wm_6_234 rfl rfl dX10_isSoundNow_113 ?_
              refine lv_if_ne (tgt := 155) hx hb dX10_isSoundNow_116 (by decide) (fun c150 => False.elim (c150 c144)) (fun _ => ?_)
              refine lv_aload_n hx hb dX10_isSoundNow_119 rfl (lv_at hl 3 rfl) ?_
              refine gf (k0 := 6) hX hB rfl rfl in9 5 (by decide) wm_6_232 rfl rfl dX10_isSoundNow_120 ?_
              refine lv_aload_n hx hb dX10_isSoundNow_123 rfl (lv_at hl 4 rfl) ?_
              obtain ⟨x151, hd152⟩ := ex1 (D_X7_rank (r (2 * 0)) (r (2 * 0 + 1)) (f 0))
              replace hR := bnd1_use hd152 hR
              refine call_V (n := 0) (k0 := (2 + 2 * 0 + 7)) (As := []) (rest := [.int (nI K16), .int y3_42]) hX hB (k_X7_rank κ l (lA κ b6 ((r (2 * 0 + 1)) * 5) F11 :: gO g5 (r (2 * 0 + 1)) (r (2 * 0 + 1)) b6 :: lA κ b8 ((r (2 * 0)) * 5) F12 :: gO g7 (r (2 * 0)) (r (2 * 0)) b8 :: lA κ b10 ((r (2 * 0)) * 5) F13 :: gO g9 (r (2 * 0)) (r (2 * 0 + 1)) b10 :: (q4, .inr (10, [.ref g9, .ref g7, .ref g5, .int S14, .int S15, .int (nI K16), .int G17])) :: mw κ a r f q (tb a) w) (2 + 2 * 0 + 7) (3 + 2 * 0 + 7) (a (2 + 2 * 0)) (a (3 + 2 * 0)) (r (2 * 0)) (r (2 * 0 + 1)) (f 0) (mwG (i := 0) (a := a) (r := r) (f := f) (q := q) (T := tb a) (w := w) (by omega)) (mwA (i := 0) (a := a) (r := r) (f := f) (q := q) (T := tb a) (w := w) (by omega)) (mok_shp (i := 0) hm (by omega)) x151 hd152) ⟨rfl, yk_X7_rank⟩ wm_7_115 wm_7_116 wm_7_117 wm_1_7 wm_7_118 ⟨Nat.le_of_ble_eq_true rfl, Nat.le_of_ble_eq_true rfl⟩ ⟨Nat.le_of_ble_eq_true rfl, Nat.le_of_ble_eq_true rfl⟩ (mwG (i := 0) (a := a) (r := r) (f := f) (q := q) (T := tb a) (w := w) (by omega)) rfl rfl rfl hl.1 rfl (Nat.le_of_ble_eq_true rfl) dX10_isSoundNow_124 (fun o w' H locs hp hB => ?_)
              obtain ⟨rfl, hw9⟩ := hp
              replace hB : Bd κ A s (lA κ b6 ((r (2 * 0 + 1)) * 5) F11 :: gO g5 (r (2 * 0 + 1)) (r (2 * 0 + 1)) b6 :: lA κ b8 ((r (2 * 0)) * 5) F12 :: gO g7 (r (2 * 0)) (r (2 * 0)) b8 :: lA κ b10 ((r (2 * 0)) * 5) F13 :: gO g9 (r (2 * 0)) (r (2 * 0 + 1)) b10 :: (q4, .inr (10, [.ref g9, .ref g7, .ref g5, .int S14, .int S15, .int (nI K16), .int G17])) :: mw κ a r f q (tb a) w) H locs := by rw [hw9] at hB; exact hB
              refine W.eq (g2 := F0 m 127 ls [.int x151, .int (nI K16), .int y3_42]) rfl ?_
              refine lv_icmp_ne (tgt := 159) hx hb dX10_isSoundNow_127 (by decide) (fun c153 => ?_) (fun c153 => ?_)
              · replace hR := ifn c153 hR
                refine lv_iconst (v := 0) hx hb dX10_isSoundNow_159 (by decide) ?_
                refine lv_iand hx hb dX10_isSoundNow_160 ?_
                refine lv_istore_n (lv' := [(3, .int (y3_42 &&& 0)), (6, .int (nI y6_42)), (4, .long y4_42), (2, .ref q4), (1, .ref (a (2 + 2 * 0))), (0, .ref (a 0))]) hx hb dX10_isSoundNow_161 rfl hl (by decide) rfl (fun ls hl => ?_)
                refine lv_iload_n hx hb dX10_isSoundNow_162 rfl (lv_at hl 0 rfl) ?_
                refine lv_if_eq (tgt := 195) hx hb dX10_isSoundNow_163 (by decide) (fun c154 => ?_) (fun c154 => ?_)
                · replace hR := ifp c154 hR
                  refine lv_iconst (v := 0) hx hb dX10_isSoundNow_195 (by decide) ?_
                  replace hB : Bd κ A s (lA κ b6 ((r (2 * 0 + 1)) * 5) F11 :: gO g5 (r (2 * 0 + 1)) (r (2 * 0 + 1)) b6 :: lA κ b8 ((r (2 * 0)) * 5) F12 :: gO g7 (r (2 * 0)) (r (2 * 0)) b8 :: lA κ b10 ((r (2 * 0)) * 5) F13 :: gO g9 (r (2 * 0)) (r (2 * 0 + 1)) b10 :: mw κ a r f q (tb a) w) H locs := Bd_del 6 hB
                  replace hB : Bd κ A s (lA κ b6 ((r (2 * 0 + 1)) * 5) F11 :: gO g5 (r (2 * 0 + 1)) (r (2 * 0 + 1)) b6 :: lA κ b8 ((r (2 * 0)) * 5) F12 :: gO g7 (r (2 * 0)) (r (2 * 0)) b8 :: lA κ b10 ((r (2 * 0)) * 5) F13 :: mw κ a r f q (tb a) w) H locs := Bd_del 5 hB
                  replace hB : Bd κ A s (lA κ b6 ((r (2 * 0 + 1)) * 5) F11 :: gO g5 (r (2 * 0 + 1)) (r (2 * 0 + 1)) b6 :: lA κ b8 ((r (2 * 0)) * 5) F12 :: gO g7 (r (2 * 0)) (r (2 * 0)) b8 :: mw κ a r f q (tb a) w) H locs := Bd_del 4 hB
                  replace hB : Bd κ A s (lA κ b6 ((r (2 * 0 + 1)) * 5) F11 :: gO g5 (r (2 * 0 + 1)) (r (2 * 0 + 1)) b6 :: lA κ b8 ((r (2 * 0)) * 5) F12 :: mw κ a r f q (tb a) w) H locs := Bd_del 3 hB
                  replace hB : Bd κ A s (lA κ b6 ((r (2 * 0 + 1)) * 5) F11 :: gO g5 (r (2 * 0 + 1)) (r (2 * 0 + 1)) b6 :: mw κ a r f q (tb a) w) H locs := Bd_del 2 hB
                  replace hB : Bd κ A s (lA κ b6 ((r (2 * 0 + 1)) * 5) F11 :: mw κ a r f q (tb a) w) H locs := Bd_del 1 hB
                  replace hB : Bd κ A s (mw κ a r f q (tb a) w) H locs := Bd_del 0 hB
                  rw [← hQ]
                  exact end_i hX hB hA3 rfl rfl (by obtain rfl := hR; exact ⟨rfl, (Or.inl rfl), rfl⟩) (Nat.le_of_ble_eq_true rfl) (Nat.le_of_ble_eq_true rfl) dX10_isSoundNow_196
                · replace hR := ifn c154 hR
                  refine lv_aload_n hx hb dX10_isSoundNow_166 rfl (lv_at hl 4 rfl) ?_
                  refine gf (k0 := 2 + 2 * 0 + 7) hX hB (mwG (i := 0) (a := a) (r := r) (f := f) (q := q) (T := tb a) (w := w) (by omega)) rfl in7 0 (by decide) wm_5_148 rfl rfl dX10_isSoundNow_167 ?_
                  refine lv_aload_n hx hb dX10_isSoundNow_170 rfl (lv_at hl 4 rfl) ?_
                  refine gf (k0 := 2 + 2 * 0 + 7) hX hB (mwG (i := 0) (a := a) (r := r) (f := f) (q := q) (T := tb a) (w := w) (by omega)) rfl in7 1 (by decide) wm_5_152 rfl rfl dX10_isSoundNow_171 ?_
                  refine lv_icmp_ne (tgt := 191) hx hb dX10_isSoundNow_174 (by decide) (fun c155 => ?_) (fun c155 => ?_)
                  · rw [neqP (a := r (2 * 0)) (b := r (2 * 0 + 1)) (by omega) (by omega)] at c155
                    replace hR := ifn c155 hR
                    refine lv_iconst (v := 1) hx hb dX10_isSoundNow_191 (by decide) ?_
                    refine lv_goto (tgt := 196) hx hb dX10_isSoundNow_192 (by decide) ?_
                    replace hB : Bd κ A s (lA κ b6 ((r (2 * 0 + 1)) * 5) F11 :: gO g5 (r (2 * 0 + 1)) (r (2 * 0 + 1)) b6 :: lA κ b8 ((r (2 * 0)) * 5) F12 :: gO g7 (r (2 * 0)) (r (2 * 0)) b8 :: lA κ b10 ((r (2 * 0)) * 5) F13 :: gO g9 (r (2 * 0)) (r (2 * 0 + 1)) b10 :: mw κ a r f q (tb a) w) H locs := Bd_del 6 hB
                    replace hB : Bd κ A s (lA κ b6 ((r (2 * 0 + 1)) * 5) F11 :: gO g5 (r (2 * 0 + 1)) (r (2 * 0 + 1)) b6 :: lA κ b8 ((r (2 * 0)) * 5) F12 :: gO g7 (r (2 * 0)) (r (2 * 0)) b8 :: lA κ b10 ((r (2 * 0)) * 5) F13 :: mw κ a r f q (tb a) w) H locs := Bd_del 5 hB
                    replace hB : Bd κ A s (lA κ b6 ((r (2 * 0 + 1)) * 5) F11 :: gO g5 (r (2 * 0 + 1)) (r (2 * 0 + 1)) b6 :: lA κ b8 ((r (2 * 0)) * 5) F12 :: gO g7 (r (2 * 0)) (r (2 * 0)) b8 :: mw κ a r f q (tb a) w) H locs := Bd_del 4 hB
                    replace hB : Bd κ A s (lA κ b6 ((r (2 * 0 + 1)) * 5) F11 :: gO g5 (r (2 * 0 + 1)) (r (2 * 0 + 1)) b6 :: lA κ b8 ((r (2 * 0)) * 5) F12 :: mw κ a r f q (tb a) w) H locs := Bd_del 3 hB
                    replace hB : Bd κ A s (lA κ b6 ((r (2 * 0 + 1)) * 5) F11 :: gO g5 (r (2 * 0 + 1)) (r (2 * 0 + 1)) b6 :: mw κ a r f q (tb a) w) H locs := Bd_del 2 hB
                    replace hB : Bd κ A s (lA κ b6 ((r (2 * 0 + 1)) * 5) F11 :: mw κ a r f q (tb a) w) H locs := Bd_del 1 hB
                    replace hB : Bd κ A s (mw κ a r f q (tb a) w) H locs := Bd_del 0 hB
                    rw [← hQ]
                    exact end_i hX hB hA3 rfl rfl (by obtain rfl := hR; exact ⟨rfl, (Or.inr rfl), rfl⟩) (Nat.le_of_ble_eq_true rfl) (Nat.le_of_ble_eq_true rfl) dX10_isSoundNow_196
                  · rw [neqP (a := r (2 * 0)) (b := r (2 * 0 + 1)) (by omega) (by omega)] at c155
                    replace hR := ifp c155 hR
                    refine lv_aload_n hx hb dX10_isSoundNow_177 rfl (lv_at hl 4 rfl) ?_
                    refine call_S (n := 1) (As := [.ref (a (2 + 2 * 0))]) (rest := []) hX hB (k_X10_determinantOf κ l (lA κ b6 ((r (2 * 0 + 1)) * 5) F11 :: gO g5 (r (2 * 0 + 1)) (r (2 * 0 + 1)) b6 :: lA κ b8 ((r (2 * 0)) * 5) F12 :: gO g7 (r (2 * 0)) (r (2 * 0)) b8 :: lA κ b10 ((r (2 * 0)) * 5) F13 :: gO g9 (r (2 * 0)) (r (2 * 0 + 1)) b10 :: (q4, .inr (10, [.ref g9, .ref g7, .ref g5, .int S14, .int S15, .int (nI K16), .int G17])) :: mw κ a r f q (tb a) w) (2 + 2 * 0 + 7) (3 + 2 * 0 + 7) (a (2 + 2 * 0)) (a (3 + 2 * 0)) (r (2 * 0)) (r (2 * 0 + 1)) (f 0) (mwG (i := 0) (a := a) (r := r) (f := f) (q := q) (T := tb a) (w := w) (by omega)) (mwA (i := 0) (a := a) (r := r) (f := f) (q := q) (T := tb a) (w := w) (by omega)) (mok_shp (i := 0) hm (by omega)) (by omega)) yk_X10_determinantOf wm_7_76 wm_7_77 wm_1_6 wm_7_78 ⟨Nat.le_of_ble_eq_true rfl, Nat.le_of_ble_eq_true rfl⟩ ⟨Nat.le_of_ble_eq_true rfl, Nat.le_of_ble_eq_true rfl⟩ rfl hl.1 rfl (Nat.le_of_ble_eq_true rfl) dX10_isSoundNow_178 (fun o w' H locs hp hB => ?_)
                    obtain ⟨rfl, hw9⟩ := hp
                    replace hB : Bd κ A s (lA κ b6 ((r (2 * 0 + 1)) * 5) F11 :: gO g5 (r (2 * 0 + 1)) (r (2 * 0 + 1)) b6 :: lA κ b8 ((r (2 * 0)) * 5) F12 :: gO g7 (r (2 * 0)) (r (2 * 0)) b8 :: lA κ b10 ((r (2 * 0)) * 5) F13 :: gO g9 (r (2 * 0)) (r (2 * 0 + 1)) b10 :: (q4, .inr (10, [.ref g9, .ref g7, .ref g5, .int S14, .int S15, .int (nI K16), .int G17])) :: mw κ a r f q (tb a) w) H locs := by rw [hw9] at hB; exact hB
                    refine W.eq (g2 := F0 m 181 ls [.long (mnv (f 0) (r (2 * 0 + 1)) (r (2 * 0)) (2 ^ (r (2 * 0)) - 1) (2 ^ (r (2 * 0 + 1)) - 1))]) rfl ?_
                    refine lv_aload_n hx hb dX10_isSoundNow_181 rfl (lv_at hl 4 rfl) ?_
                    refine lv_iconst (v := 0) hx hb dX10_isSoundNow_182 (by decide) ?_
                    refine lv_iconst (v := 0) hx hb dX10_isSoundNow_183 (by decide) ?_
                    refine call_S (n := 3) (As := [.ref (a (2 + 2 * 0)), .int 0, .int 0]) (rest := [.long (mnv (f 0) (r (2 * 0 + 1)) (r (2 * 0)) (2 ^ (r (2 * 0)) - 1) (2 ^ (r (2 * 0 + 1)) - 1))]) hX hB (k_X10_bySequences κ l (lA κ b6 ((r (2 * 0 + 1)) * 5) F11 :: gO g5 (r (2 * 0 + 1)) (r (2 * 0 + 1)) b6 :: lA κ b8 ((r (2 * 0)) * 5) F12 :: gO g7 (r (2 * 0)) (r (2 * 0)) b8 :: lA κ b10 ((r (2 * 0)) * 5) F13 :: gO g9 (r (2 * 0)) (r (2 * 0 + 1)) b10 :: (q4, .inr (10, [.ref g9, .ref g7, .ref g5, .int S14, .int S15, .int (nI K16), .int G17])) :: mw κ a r f q (tb a) w) (2 + 2 * 0 + 7) (3 + 2 * 0 + 7) (a (2 + 2 * 0)) (a (3 + 2 * 0)) (r (2 * 0)) (r (2 * 0 + 1)) (f 0) 0 0 0 (mwG (i := 0) (a := a) (r := r) (f := f) (q := q) (T := tb a) (w := w) (by omega)) (mwA (i := 0) (a := a) (r := r) (f := f) (q := q) (T := tb a) (w := w) (by omega)) (mok_shp (i := 0) hm (by omega)) rfl (by omega)) yk_X10_bySequences wm_7_88 wm_7_89 wm_1_6 wm_7_90 ⟨Nat.le_of_ble_eq_true rfl, Nat.le_of_ble_eq_true rfl⟩ ⟨Nat.le_of_ble_eq_true rfl, Nat.le_of_ble_eq_true rfl⟩ rfl hl.1 rfl (Nat.le_of_ble_eq_true rfl) dX10_isSoundNow_184 (fun o w' H locs hp hB => ?_)
                    obtain ⟨rfl, hw9⟩ := hp
                    replace hB : Bd κ A s (lA κ b6 ((r (2 * 0 + 1)) * 5) F11 :: gO g5 (r (2 * 0 + 1)) (r (2 * 0 + 1)) b6 :: lA κ b8 ((r (2 * 0)) * 5) F12 :: gO g7 (r (2 * 0)) (r (2 * 0)) b8 :: lA κ b10 ((r (2 * 0)) * 5) F13 :: gO g9 (r (2 * 0)) (r (2 * 0 + 1)) b10 :: (q4, .inr (10, [.ref g9, .ref g7, .ref g5, .int S14, .int S15, .int (nI K16), .int G17])) :: mw κ a r f q (tb a) w) H locs := by rw [hw9] at hB; exact hB
                    refine W.eq (g2 := F0 m 187 ls [.long (bsv (r (2 * 0)) (r (2 * 0 + 1)) (f 0) 4 0 0), .long (mnv (f 0) (r (2 * 0 + 1)) (r (2 * 0)) (2 ^ (r (2 * 0)) - 1) (2 ^ (r (2 * 0 + 1)) - 1))]) rfl ?_
                    refine W.lcmp hx hb dX10_isSoundNow_187 ?_
                    refine lv_if_ne (tgt := 195) hx hb dX10_isSoundNow_188 (by decide) (fun c156 => ?_) (fun c156 => ?_)
                    · replace hR := ifn c156 hR
                      refine lv_iconst (v := 0) hx hb dX10_isSoundNow_195 (by decide) ?_
                      replace hB : Bd κ A s (lA κ b6 ((r (2 * 0 + 1)) * 5) F11 :: gO g5 (r (2 * 0 + 1)) (r (2 * 0 + 1)) b6 :: lA κ b8 ((r (2 * 0)) * 5) F12 :: gO g7 (r (2 * 0)) (r (2 * 0)) b8 :: lA κ b10 ((r (2 * 0)) * 5) F13 :: gO g9 (r (2 * 0)) (r (2 * 0 + 1)) b10 :: mw κ a r f q (tb a) w) H locs := Bd_del 6 hB
                      replace hB : Bd κ A s (lA κ b6 ((r (2 * 0 + 1)) * 5) F11 :: gO g5 (r (2 * 0 + 1)) (r (2 * 0 + 1)) b6 :: lA κ b8 ((r (2 * 0)) * 5) F12 :: gO g7 (r (2 * 0)) (r (2 * 0)) b8 :: lA κ b10 ((r (2 * 0)) * 5) F13 :: mw κ a r f q (tb a) w) H locs := Bd_del 5 hB
                      replace hB : Bd κ A s (lA κ b6 ((r (2 * 0 + 1)) * 5) F11 :: gO g5 (r (2 * 0 + 1)) (r (2 * 0 + 1)) b6 :: lA κ b8 ((r (2 * 0)) * 5) F12 :: gO g7 (r (2 * 0)) (r (2 * 0)) b8 :: mw κ a r f q (tb a) w) H locs := Bd_del 4 hB
                      replace hB : Bd κ A s (lA κ b6 ((r (2 * 0 + 1)) * 5) F11 :: gO g5 (r (2 * 0 + 1)) (r (2 * 0 + 1)) b6 :: lA κ b8 ((r (2 * 0)) * 5) F12 :: mw κ a r f q (tb a) w) H locs := Bd_del 3 hB
                      replace hB : Bd κ A s (lA κ b6 ((r (2 * 0 + 1)) * 5) F11 :: gO g5 (r (2 * 0 + 1)) (r (2 * 0 + 1)) b6 :: mw κ a r f q (tb a) w) H locs := Bd_del 2 hB
                      replace hB : Bd κ A s (lA κ b6 ((r (2 * 0 + 1)) * 5) F11 :: mw κ a r f q (tb a) w) H locs := Bd_del 1 hB
                      replace hB : Bd κ A s (mw κ a r f q (tb a) w) H locs := Bd_del 0 hB
                      rw [← hQ]
                      exact end_i hX hB hA3 rfl rfl (by obtain rfl := hR; exact ⟨rfl, (Or.inl rfl), rfl⟩) (Nat.le_of_ble_eq_true rfl) (Nat.le_of_ble_eq_true rfl) dX10_isSoundNow_196
                    · replace hR := ifp c156 hR
                      refine lv_iconst (v := 1) hx hb dX10_isSoundNow_191 (by decide) ?_
                      refine lv_goto (tgt := 196) hx hb dX10_isSoundNow_192 (by decide) ?_
                      replace hB : Bd κ A s (lA κ b6 ((r (2 * 0 + 1)) * 5) F11 :: gO g5 (r (2 * 0 + 1)) (r (2 * 0 + 1)) b6 :: lA κ b8 ((r (2 * 0)) * 5) F12 :: gO g7 (r (2 * 0)) (r (2 * 0)) b8 :: lA κ b10 ((r (2 * 0)) * 5) F13 :: gO g9 (r (2 * 0)) (r (2 * 0 + 1)) b10 :: mw κ a r f q (tb a) w) H locs := Bd_del 6 hB
                      replace hB : Bd κ A s (lA κ b6 ((r (2 * 0 + 1)) * 5) F11 :: gO g5 (r (2 * 0 + 1)) (r (2 * 0 + 1)) b6 :: lA κ b8 ((r (2 * 0)) * 5) F12 :: gO g7 (r (2 * 0)) (r (2 * 0)) b8 :: lA κ b10 ((r (2 * 0)) * 5) F13 :: mw κ a r f q (tb a) w) H locs := Bd_del 5 hB
                      replace hB : Bd κ A s (lA κ b6 ((r (2 * 0 + 1)) * 5) F11 :: gO g5 (r (2 * 0 + 1)) (r (2 * 0 + 1)) b6 :: lA κ b8 ((r (2 * 0)) * 5) F12 :: gO g7 (r (2 * 0)) (r (2 * 0)) b8 :: mw κ a r f q (tb a) w) H locs := Bd_del 4 hB
                      replace hB : Bd κ A s (lA κ b6 ((r (2 * 0 + 1)) * 5) F11 :: gO g5 (r (2 * 0 + 1)) (r (2 * 0 + 1)) b6 :: lA κ b8 ((r (2 * 0)) * 5) F12 :: mw κ a r f q (tb a) w) H locs := Bd_del 3 hB
                      replace hB : Bd κ A s (lA κ b6 ((r (2 * 0 + 1)) * 5) F11 :: gO g5 (r (2 * 0 + 1)) (r (2 * 0 + 1)) b6 :: mw κ a r f q (tb a) w) H locs := Bd_del 2 hB
                      replace hB : Bd κ A s (lA κ b6 ((r (2 * 0 + 1)) * 5) F11 :: mw κ a r f q (tb a) w) H locs := Bd_del 1 hB
                      replace hB : Bd κ A s (mw κ a r f q (tb a) w) H locs := Bd_del 0 hB
                      rw [← hQ]
                      exact end_i hX hB hA3 rfl rfl (by obtain rfl := hR; exact ⟨rfl, (Or.inr rfl), rfl⟩) (Nat.le_of_ble_eq_true rfl) (Nat.le_of_ble_eq_true rfl) dX10_isSoundNow_196
              · replace hR := ifp c153 hR
                refine lv_aload_n hx hb dX10_isSoundNow_130 rfl (lv_at hl 3 rfl) ?_
                refine gf (k0 := 6) hX hB rfl rfl in9 1 (by decide) wm_6_224 rfl rfl dX10_isSoundNow_131 ?_
                refine lv_aload_n hx hb dX10_isSoundNow_134 rfl (lv_at hl 4 rfl) ?_
                obtain ⟨F159, hd160⟩ := ex1 (D_X7_product (r (2 * 0)) (r (2 * 0)) F12 (r (2 * 0)) (r (2 * 0 + 1)) (f 0))
                replace hR := bnd1_use hd160 hR
                refine call_V (n := 1) (k0 := 3) (As := [.ref (a (2 + 2 * 0))]) (rest := [.int y3_42]) hX hB (k_X7_product κ l (lA κ b6 ((r (2 * 0 + 1)) * 5) F11 :: gO g5 (r (2 * 0 + 1)) (r (2 * 0 + 1)) b6 :: lA κ b8 ((r (2 * 0)) * 5) F12 :: gO g7 (r (2 * 0)) (r (2 * 0)) b8 :: lA κ b10 ((r (2 * 0)) * 5) F13 :: gO g9 (r (2 * 0)) (r (2 * 0 + 1)) b10 :: (q4, .inr (10, [.ref g9, .ref g7, .ref g5, .int S14, .int S15, .int (nI K16), .int G17])) :: mw κ a r f q (tb a) w) 3 2 g7 b8 (r (2 * 0)) (r (2 * 0)) F12 (2 + 2 * 0 + 7) (3 + 2 * 0 + 7) (a (2 + 2 * 0)) (a (3 + 2 * 0)) (r (2 * 0)) (r (2 * 0 + 1)) (f 0) rfl rfl ⟨by omega, by omega, by omega, by omega⟩ (mwG (i := 0) (a := a) (r := r) (f := f) (q := q) (T := tb a) (w := w) (by omega)) (mwA (i := 0) (a := a) (r := r) (f := f) (q := q) (T := tb a) (w := w) (by omega)) (mok_shp (i := 0) hm (by omega)) (by omega) F159 hd160) ⟨rfl, yk_X7_product⟩ wm_6_116 wm_6_117 wm_6_118 wm_1_7 wm_6_119 ⟨Nat.le_of_ble_eq_true rfl, Nat.le_of_ble_eq_true rfl⟩ ⟨Nat.le_of_ble_eq_true rfl, Nat.le_of_ble_eq_true rfl⟩ rfl rfl rfl rfl hl.1 rfl (Nat.le_of_ble_eq_true rfl) dX10_isSoundNow_135 (fun o w' H locs hp hB => ?_)
                obtain ⟨q157, q158, rfl, hw9⟩ := hp
                replace hB : Bd κ A s (lA κ q158 ((r (2 * 0)) * 5) F159 :: gO q157 (r (2 * 0)) (r (2 * 0 + 1)) q158 :: lA κ b6 ((r (2 * 0 + 1)) * 5) F11 :: gO g5 (r (2 * 0 + 1)) (r (2 * 0 + 1)) b6 :: lA κ b8 ((r (2 * 0)) * 5) F12 :: gO g7 (r (2 * 0)) (r (2 * 0)) b8 :: lA κ b10 ((r (2 * 0)) * 5) F13 :: gO g9 (r (2 * 0)) (r (2 * 0 + 1)) b10 :: (q4, .inr (10, [.ref g9, .ref g7, .ref g5, .int S14, .int S15, .int (nI K16), .int G17])) :: mw κ a r f q (tb a) w) H locs := by rw [hw9] at hB; exact hB
                refine W.eq (g2 := F0 m 138 ls [.ref q157, .int y3_42]) rfl ?_
                refine lv_aload_n hx hb dX10_isSoundNow_138 rfl (lv_at hl 3 rfl) ?_
                refine gf (k0 := 8) hX hB rfl rfl in9 2 (by decide) wm_6_226 rfl rfl dX10_isSoundNow_139 ?_
                obtain ⟨F163, hd164⟩ := ex1 (D_X7_product (r (2 * 0)) (r (2 * 0 + 1)) F159 (r (2 * 0 + 1)) (r (2 * 0 + 1)) F11)
                replace hR := bnd1_use hd164 hR
                refine call_V (n := 1) (k0 := 1) (As := [.ref g5]) (rest := [.int y3_42]) hX hB (k_X7_product κ l (lA κ q158 ((r (2 * 0)) * 5) F159 :: gO q157 (r (2 * 0)) (r (2 * 0 + 1)) q158 :: lA κ b6 ((r (2 * 0 + 1)) * 5) F11 :: gO g5 (r (2 * 0 + 1)) (r (2 * 0 + 1)) b6 :: lA κ b8 ((r (2 * 0)) * 5) F12 :: gO g7 (r (2 * 0)) (r (2 * 0)) b8 :: lA κ b10 ((r (2 * 0)) * 5) F13 :: gO g9 (r (2 * 0)) (r (2 * 0 + 1)) b10 :: (q4, .inr (10, [.ref g9, .ref g7, .ref g5, .int S14, .int S15, .int (nI K16), .int G17])) :: mw κ a r f q (tb a) w) 1 0 q157 q158 (r (2 * 0)) (r (2 * 0 + 1)) F159 3 2 g5 b6 (r (2 * 0 + 1)) (r (2 * 0 + 1)) F11 rfl rfl ⟨by omega, by omega, by omega, by omega⟩ rfl rfl ⟨by omega, by omega, by omega, by omega⟩ (by omega) F163 hd164) ⟨rfl, yk_X7_product⟩ wm_6_116 wm_6_117 wm_6_118 wm_1_7 wm_6_119 ⟨Nat.le_of_ble_eq_true rfl, Nat.le_of_ble_eq_true rfl⟩ ⟨Nat.le_of_ble_eq_true rfl, Nat.le_of_ble_eq_true rfl⟩ rfl rfl rfl rfl hl.1 rfl (Nat.le_of_ble_eq_true rfl) dX10_isSoundNow_142 (fun o w' H locs hp hB => ?_)
                obtain ⟨q161, q162, rfl, hw9⟩ := hp
                replace hB : Bd κ A s (lA κ q162 ((r (2 * 0)) * 5) F163 :: gO q161 (r (2 * 0)) (r (2 * 0 + 1)) q162 :: lA κ q158 ((r (2 * 0)) * 5) F159 :: gO q157 (r (2 * 0)) (r (2 * 0 + 1)) q158 :: lA κ b6 ((r (2 * 0 + 1)) * 5) F11 :: gO g5 (r (2 * 0 + 1)) (r (2 * 0 + 1)) b6 :: lA κ b8 ((r (2 * 0)) * 5) F12 :: gO g7 (r (2 * 0)) (r (2 * 0)) b8 :: lA κ b10 ((r (2 * 0)) * 5) F13 :: gO g9 (r (2 * 0)) (r (2 * 0 + 1)) b10 :: (q4, .inr (10, [.ref g9, .ref g7, .ref g5, .int S14, .int S15, .int (nI K16), .int G17])) :: mw κ a r f q (tb a) w) H locs := by rw [hw9] at hB; exact hB
                refine W.eq (g2 := F0 m 145 ls [.ref q161, .int y3_42]) rfl ?_
                refine lv_aload_n hx hb dX10_isSoundNow_145 rfl (lv_at hl 3 rfl) ?_
                refine gf (k0 := 10) hX hB rfl rfl in9 0 (by decide) wm_6_222 rfl rfl dX10_isSoundNow_146 ?_
                obtain ⟨x165, hd166⟩ := ex1 (D_X7_isSame (r (2 * 0)) (r (2 * 0 + 1)) F163 (r (2 * 0)) (r (2 * 0 + 1)) F13)
                replace hR := bnd1_use hd166 hR
                refine call_V (n := 1) (k0 := 1) (As := [.ref g9]) (rest := [.int y3_42]) hX hB (k_X7_isSame κ l (lA κ q162 ((r (2 * 0)) * 5) F163 :: gO q161 (r (2 * 0)) (r (2 * 0 + 1)) q162 :: lA κ q158 ((r (2 * 0)) * 5) F159 :: gO q157 (r (2 * 0)) (r (2 * 0 + 1)) q158 :: lA κ b6 ((r (2 * 0 + 1)) * 5) F11 :: gO g5 (r (2 * 0 + 1)) (r (2 * 0 + 1)) b6 :: lA κ b8 ((r (2 * 0)) * 5) F12 :: gO g7 (r (2 * 0)) (r (2 * 0)) b8 :: lA κ b10 ((r (2 * 0)) * 5) F13 :: gO g9 (r (2 * 0)) (r (2 * 0 + 1)) b10 :: (q4, .inr (10, [.ref g9, .ref g7, .ref g5, .int S14, .int S15, .int (nI K16), .int G17])) :: mw κ a r f q (tb a) w) 1 0 q161 q162 (r (2 * 0)) (r (2 * 0 + 1)) F163 9 8 g9 b10 (r (2 * 0)) (r (2 * 0 + 1)) F13 rfl rfl ⟨by omega, by omega, by omega, by omega⟩ rfl rfl (mok_shp (i := 0) hm (by omega)) x165 hd166) ⟨rfl, yk_X7_isSame⟩ wm_6_19 wm_6_20 wm_6_21 wm_1_7 wm_6_22 ⟨Nat.le_of_ble_eq_true rfl, Nat.le_of_ble_eq_true rfl⟩ ⟨Nat.le_of_ble_eq_true rfl, Nat.le_of_ble_eq_true rfl⟩ rfl rfl rfl rfl hl.1 rfl (Nat.le_of_ble_eq_true rfl) dX10_isSoundNow_149 (fun o w' H locs hp hB => ?_)
                obtain ⟨rfl, hf167, hw9⟩ := hp
                replace hB : Bd κ A s (lA κ q162 ((r (2 * 0)) * 5) F163 :: gO q161 (r (2 * 0)) (r (2 * 0 + 1)) q162 :: lA κ q158 ((r (2 * 0)) * 5) F159 :: gO q157 (r (2 * 0)) (r (2 * 0 + 1)) q158 :: lA κ b6 ((r (2 * 0 + 1)) * 5) F11 :: gO g5 (r (2 * 0 + 1)) (r (2 * 0 + 1)) b6 :: lA κ b8 ((r (2 * 0)) * 5) F12 :: gO g7 (r (2 * 0)) (r (2 * 0)) b8 :: lA κ b10 ((r (2 * 0)) * 5) F13 :: gO g9 (r (2 * 0)) (r (2 * 0 + 1)) b10 :: (q4, .inr (10, [.ref g9, .ref g7, .ref g5, .int S14, .int S15, .int (nI K16), .int G17])) :: mw κ a r f q (tb a) w) H locs := by rw [hw9] at hB; exact hB
                rcases hf167 with rfl | rfl
                · replace hR := ifp rfl hR
                  refine W.eq (g2 := F0 m 152 ls [.int 0, .int y3_42]) rfl ?_
                  refine lv_if_eq (tgt := 159) hx hb dX10_isSoundNow_152 (by decide) (fun _ => ?_) (fun c168 => False.elim (by revert c168; decide))
                  refine lv_iconst (v := 0) hx hb dX10_isSoundNow_159 (by decide) ?_
                  refine lv_iand hx hb dX10_isSoundNow_160 ?_
                  refine lv_istore_n (lv' := [(3, .int (y3_42 &&& 0)), (6, .int (nI y6_42)), (4, .long y4_42), (2, .ref q4), (1, .ref (a (2 + 2 * 0))), (0, .ref (a 0))]) hx hb dX10_isSoundNow_161 rfl hl (by decide) rfl (fun ls hl => ?_)
                  refine lv_iload_n hx hb dX10_isSoundNow_162 rfl (lv_at hl 0 rfl) ?_
                  refine lv_if_eq (tgt := 195) hx hb dX10_isSoundNow_163 (by decide) (fun c169 => ?_) (fun c169 => ?_)
                  · replace hR := ifp c169 hR
                    refine lv_iconst (v := 0) hx hb dX10_isSoundNow_195 (by decide) ?_
                    replace hB : Bd κ A s (lA κ q162 ((r (2 * 0)) * 5) F163 :: gO q161 (r (2 * 0)) (r (2 * 0 + 1)) q162 :: lA κ q158 ((r (2 * 0)) * 5) F159 :: gO q157 (r (2 * 0)) (r (2 * 0 + 1)) q158 :: lA κ b6 ((r (2 * 0 + 1)) * 5) F11 :: gO g5 (r (2 * 0 + 1)) (r (2 * 0 + 1)) b6 :: lA κ b8 ((r (2 * 0)) * 5) F12 :: gO g7 (r (2 * 0)) (r (2 * 0)) b8 :: lA κ b10 ((r (2 * 0)) * 5) F13 :: gO g9 (r (2 * 0)) (r (2 * 0 + 1)) b10 :: mw κ a r f q (tb a) w) H locs := Bd_del 10 hB
                    replace hB : Bd κ A s (lA κ q162 ((r (2 * 0)) * 5) F163 :: gO q161 (r (2 * 0)) (r (2 * 0 + 1)) q162 :: lA κ q158 ((r (2 * 0)) * 5) F159 :: gO q157 (r (2 * 0)) (r (2 * 0 + 1)) q158 :: lA κ b6 ((r (2 * 0 + 1)) * 5) F11 :: gO g5 (r (2 * 0 + 1)) (r (2 * 0 + 1)) b6 :: lA κ b8 ((r (2 * 0)) * 5) F12 :: gO g7 (r (2 * 0)) (r (2 * 0)) b8 :: lA κ b10 ((r (2 * 0)) * 5) F13 :: mw κ a r f q (tb a) w) H locs := Bd_del 9 hB
                    replace hB : Bd κ A s (lA κ q162 ((r (2 * 0)) * 5) F163 :: gO q161 (r (2 * 0)) (r (2 * 0 + 1)) q162 :: lA κ q158 ((r (2 * 0)) * 5) F159 :: gO q157 (r (2 * 0)) (r (2 * 0 + 1)) q158 :: lA κ b6 ((r (2 * 0 + 1)) * 5) F11 :: gO g5 (r (2 * 0 + 1)) (r (2 * 0 + 1)) b6 :: lA κ b8 ((r (2 * 0)) * 5) F12 :: gO g7 (r (2 * 0)) (r (2 * 0)) b8 :: mw κ a r f q (tb a) w) H locs := Bd_del 8 hB
                    replace hB : Bd κ A s (lA κ q162 ((r (2 * 0)) * 5) F163 :: gO q161 (r (2 * 0)) (r (2 * 0 + 1)) q162 :: lA κ q158 ((r (2 * 0)) * 5) F159 :: gO q157 (r (2 * 0)) (r (2 * 0 + 1)) q158 :: lA κ b6 ((r (2 * 0 + 1)) * 5) F11 :: gO g5 (r (2 * 0 + 1)) (r (2 * 0 + 1)) b6 :: lA κ b8 ((r (2 * 0)) * 5) F12 :: mw κ a r f q (tb a) w) H locs := Bd_del 7 hB
                    replace hB : Bd κ A s (lA κ q162 ((r (2 * 0)) * 5) F163 :: gO q161 (r (2 * 0)) (r (2 * 0 + 1)) q162 :: lA κ q158 ((r (2 * 0)) * 5) F159 :: gO q157 (r (2 * 0)) (r (2 * 0 + 1)) q158 :: lA κ b6 ((r (2 * 0 + 1)) * 5) F11 :: gO g5 (r (2 * 0 + 1)) (r (2 * 0 + 1)) b6 :: mw κ a r f q (tb a) w) H locs := Bd_del 6 hB
                    replace hB : Bd κ A s (lA κ q162 ((r (2 * 0)) * 5) F163 :: gO q161 (r (2 * 0)) (r (2 * 0 + 1)) q162 :: lA κ q158 ((r (2 * 0)) * 5) F159 :: gO q157 (r (2 * 0)) (r (2 * 0 + 1)) q158 :: lA κ b6 ((r (2 * 0 + 1)) * 5) F11 :: mw κ a r f q (tb a) w) H locs := Bd_del 5 hB
                    replace hB : Bd κ A s (lA κ q162 ((r (2 * 0)) * 5) F163 :: gO q161 (r (2 * 0)) (r (2 * 0 + 1)) q162 :: lA κ q158 ((r (2 * 0)) * 5) F159 :: gO q157 (r (2 * 0)) (r (2 * 0 + 1)) q158 :: mw κ a r f q (tb a) w) H locs := Bd_del 4 hB
                    replace hB : Bd κ A s (lA κ q162 ((r (2 * 0)) * 5) F163 :: gO q161 (r (2 * 0)) (r (2 * 0 + 1)) q162 :: lA κ q158 ((r (2 * 0)) * 5) F159 :: mw κ a r f q (tb a) w) H locs := Bd_del 3 hB
                    replace hB : Bd κ A s (lA κ q162 ((r (2 * 0)) * 5) F163 :: gO q161 (r (2 * 0)) (r (2 * 0 + 1)) q162 :: mw κ a r f q (tb a) w) H locs := Bd_del 2 hB
                    replace hB : Bd κ A s (lA κ q162 ((r (2 * 0)) * 5) F163 :: mw κ a r f q (tb a) w) H locs := Bd_del 1 hB
                    replace hB : Bd κ A s (mw κ a r f q (tb a) w) H locs := Bd_del 0 hB
                    rw [← hQ]
                    exact end_i hX hB hA3 rfl rfl (by obtain rfl := hR; exact ⟨rfl, (Or.inl rfl), rfl⟩) (Nat.le_of_ble_eq_true rfl) (Nat.le_of_ble_eq_true rfl) dX10_isSoundNow_196
                  · replace hR := ifn c169 hR
                    refine lv_aload_n hx hb dX10_isSoundNow_166 rfl (lv_at hl 4 rfl) ?_
                    refine gf (k0 := 2 + 2 * 0 + 11) hX hB (mwG (i := 0) (a := a) (r := r) (f := f) (q := q) (T := tb a) (w := w) (by omega)) rfl in7 0 (by decide) wm_5_148 rfl rfl dX10_isSoundNow_167 ?_
                    refine lv_aload_n hx hb dX10_isSoundNow_170 rfl (lv_at hl 4 rfl) ?_
                    refine gf (k0 := 2 + 2 * 0 + 11) hX hB (mwG (i := 0) (a := a) (r := r) (f := f) (q := q) (T := tb a) (w := w) (by omega)) rfl in7 1 (by decide) wm_5_152 rfl rfl dX10_isSoundNow_171 ?_
                    refine lv_icmp_ne (tgt := 191) hx hb dX10_isSoundNow_174 (by decide) (fun c170 => ?_) (fun c170 => ?_)
                    · rw [neqP (a := r (2 * 0)) (b := r (2 * 0 + 1)) (by omega) (by omega)] at c170
                      replace hR := ifn c170 hR
                      refine lv_iconst (v := 1) hx hb dX10_isSoundNow_191 (by decide) ?_
                      refine lv_goto (tgt := 196) hx hb dX10_isSoundNow_192 (by decide) ?_
                      replace hB : Bd κ A s (lA κ q162 ((r (2 * 0)) * 5) F163 :: gO q161 (r (2 * 0)) (r (2 * 0 + 1)) q162 :: lA κ q158 ((r (2 * 0)) * 5) F159 :: gO q157 (r (2 * 0)) (r (2 * 0 + 1)) q158 :: lA κ b6 ((r (2 * 0 + 1)) * 5) F11 :: gO g5 (r (2 * 0 + 1)) (r (2 * 0 + 1)) b6 :: lA κ b8 ((r (2 * 0)) * 5) F12 :: gO g7 (r (2 * 0)) (r (2 * 0)) b8 :: lA κ b10 ((r (2 * 0)) * 5) F13 :: gO g9 (r (2 * 0)) (r (2 * 0 + 1)) b10 :: mw κ a r f q (tb a) w) H locs := Bd_del 10 hB
                      replace hB : Bd κ A s (lA κ q162 ((r (2 * 0)) * 5) F163 :: gO q161 (r (2 * 0)) (r (2 * 0 + 1)) q162 :: lA κ q158 ((r (2 * 0)) * 5) F159 :: gO q157 (r (2 * 0)) (r (2 * 0 + 1)) q158 :: lA κ b6 ((r (2 * 0 + 1)) * 5) F11 :: gO g5 (r (2 * 0 + 1)) (r (2 * 0 + 1)) b6 :: lA κ b8 ((r (2 * 0)) * 5) F12 :: gO g7 (r (2 * 0)) (r (2 * 0)) b8 :: lA κ b10 ((r (2 * 0)) * 5) F13 :: mw κ a r f q (tb a) w) H locs := Bd_del 9 hB
                      replace hB : Bd κ A s (lA κ q162 ((r (2 * 0)) * 5) F163 :: gO q161 (r (2 * 0)) (r (2 * 0 + 1)) q162 :: lA κ q158 ((r (2 * 0)) * 5) F159 :: gO q157 (r (2 * 0)) (r (2 * 0 + 1)) q158 :: lA κ b6 ((r (2 * 0 + 1)) * 5) F11 :: gO g5 (r (2 * 0 + 1)) (r (2 * 0 + 1)) b6 :: lA κ b8 ((r (2 * 0)) * 5) F12 :: gO g7 (r (2 * 0)) (r (2 * 0)) b8 :: mw κ a r f q (tb a) w) H locs := Bd_del 8 hB
                      replace hB : Bd κ A s (lA κ q162 ((r (2 * 0)) * 5) F163 :: gO q161 (r (2 * 0)) (r (2 * 0 + 1)) q162 :: lA κ q158 ((r (2 * 0)) * 5) F159 :: gO q157 (r (2 * 0)) (r (2 * 0 + 1)) q158 :: lA κ b6 ((r (2 * 0 + 1)) * 5) F11 :: gO g5 (r (2 * 0 + 1)) (r (2 * 0 + 1)) b6 :: lA κ b8 ((r (2 * 0)) * 5) F12 :: mw κ a r f q (tb a) w) H locs := Bd_del 7 hB
                      replace hB : Bd κ A s (lA κ q162 ((r (2 * 0)) * 5) F163 :: gO q161 (r (2 * 0)) (r (2 * 0 + 1)) q162 :: lA κ q158 ((r (2 * 0)) * 5) F159 :: gO q157 (r (2 * 0)) (r (2 * 0 + 1)) q158 :: lA κ b6 ((r (2 * 0 + 1)) * 5) F11 :: gO g5 (r (2 * 0 + 1)) (r (2 * 0 + 1)) b6 :: mw κ a r f q (tb a) w) H locs := Bd_del 6 hB
                      replace hB : Bd κ A s (lA κ q162 ((r (2 * 0)) * 5) F163 :: gO q161 (r (2 * 0)) (r (2 * 0 + 1)) q162 :: lA κ q158 ((r (2 * 0)) * 5) F159 :: gO q157 (r (2 * 0)) (r (2 * 0 + 1)) q158 :: lA κ b6 ((r (2 * 0 + 1)) * 5) F11 :: mw κ a r f q (tb a) w) H locs := Bd_del 5 hB
                      replace hB : Bd κ A s (lA κ q162 ((r (2 * 0)) * 5) F163 :: gO q161 (r (2 * 0)) (r (2 * 0 + 1)) q162 :: lA κ q158 ((r (2 * 0)) * 5) F159 :: gO q157 (r (2 * 0)) (r (2 * 0 + 1)) q158 :: mw κ a r f q (tb a) w) H locs := Bd_del 4 hB
                      replace hB : Bd κ A s (lA κ q162 ((r (2 * 0)) * 5) F163 :: gO q161 (r (2 * 0)) (r (2 * 0 + 1)) q162 :: lA κ q158 ((r (2 * 0)) * 5) F159 :: mw κ a r f q (tb a) w) H locs := Bd_del 3 hB
                      replace hB : Bd κ A s (lA κ q162 ((r (2 * 0)) * 5) F163 :: gO q161 (r (2 * 0)) (r (2 * 0 + 1)) q162 :: mw κ a r f q (tb a) w) H locs := Bd_del 2 hB
                      replace hB : Bd κ A s (lA κ q162 ((r (2 * 0)) * 5) F163 :: mw κ a r f q (tb a) w) H locs := Bd_del 1 hB
                      replace hB : Bd κ A s (mw κ a r f q (tb a) w) H locs := Bd_del 0 hB
                      rw [← hQ]
                      exact end_i hX hB hA3 rfl rfl (by obtain rfl := hR; exact ⟨rfl, (Or.inr rfl), rfl⟩) (Nat.le_of_ble_eq_true rfl) (Nat.le_of_ble_eq_true rfl) dX10_isSoundNow_196
                    · rw [neqP (a := r (2 * 0)) (b := r (2 * 0 + 1)) (by omega) (by omega)] at c170
                      replace hR := ifp c170 hR
                      refine lv_aload_n hx hb dX10_isSoundNow_177 rfl (lv_at hl 4 rfl) ?_
                      refine call_S (n := 1) (As := [.ref (a (2 + 2 * 0))]) (rest := []) hX hB (k_X10_determinantOf κ l (lA κ q162 ((r (2 * 0)) * 5) F163 :: gO q161 (r (2 * 0)) (r (2 * 0 + 1)) q162 :: lA κ q158 ((r (2 * 0)) * 5) F159 :: gO q157 (r (2 * 0)) (r (2 * 0 + 1)) q158 :: lA κ b6 ((r (2 * 0 + 1)) * 5) F11 :: gO g5 (r (2 * 0 + 1)) (r (2 * 0 + 1)) b6 :: lA κ b8 ((r (2 * 0)) * 5) F12 :: gO g7 (r (2 * 0)) (r (2 * 0)) b8 :: lA κ b10 ((r (2 * 0)) * 5) F13 :: gO g9 (r (2 * 0)) (r (2 * 0 + 1)) b10 :: (q4, .inr (10, [.ref g9, .ref g7, .ref g5, .int S14, .int S15, .int (nI K16), .int G17])) :: mw κ a r f q (tb a) w) (2 + 2 * 0 + 11) (3 + 2 * 0 + 11) (a (2 + 2 * 0)) (a (3 + 2 * 0)) (r (2 * 0)) (r (2 * 0 + 1)) (f 0) (mwG (i := 0) (a := a) (r := r) (f := f) (q := q) (T := tb a) (w := w) (by omega)) (mwA (i := 0) (a := a) (r := r) (f := f) (q := q) (T := tb a) (w := w) (by omega)) (mok_shp (i := 0) hm (by omega)) (by omega)) yk_X10_determinantOf wm_7_76 wm_7_77 wm_1_6 wm_7_78 ⟨Nat.le_of_ble_eq_true rfl, Nat.le_of_ble_eq_true rfl⟩ ⟨Nat.le_of_ble_eq_true rfl, Nat.le_of_ble_eq_true rfl⟩ rfl hl.1 rfl (Nat.le_of_ble_eq_true rfl) dX10_isSoundNow_178 (fun o w' H locs hp hB => ?_)
                      obtain ⟨rfl, hw9⟩ := hp
                      replace hB : Bd κ A s (lA κ q162 ((r (2 * 0)) * 5) F163 :: gO q161 (r (2 * 0)) (r (2 * 0 + 1)) q162 :: lA κ q158 ((r (2 * 0)) * 5) F159 :: gO q157 (r (2 * 0)) (r (2 * 0 + 1)) q158 :: lA κ b6 ((r (2 * 0 + 1)) * 5) F11 :: gO g5 (r (2 * 0 + 1)) (r (2 * 0 + 1)) b6 :: lA κ b8 ((r (2 * 0)) * 5) F12 :: gO g7 (r (2 * 0)) (r (2 * 0)) b8 :: lA κ b10 ((r (2 * 0)) * 5) F13 :: gO g9 (r (2 * 0)) (r (2 * 0 + 1)) b10 :: (q4, .inr (10, [.ref g9, .ref g7, .ref g5, .int S14, .int S15, .int (nI K16), .int G17])) :: mw κ a r f q (tb a) w) H locs := by rw [hw9] at hB; exact hB
                      refine W.eq (g2 := F0 m 181 ls [.long (mnv (f 0) (r (2 * 0 + 1)) (r (2 * 0)) (2 ^ (r (2 * 0)) - 1) (2 ^ (r (2 * 0 + 1)) - 1))]) rfl ?_
                      refine lv_aload_n hx hb dX10_isSoundNow_181 rfl (lv_at hl 4 rfl) ?_
                      refine lv_iconst (v := 0) hx hb dX10_isSoundNow_182 (by decide) ?_
                      refine lv_iconst (v := 0) hx hb dX10_isSoundNow_183 (by decide) ?_
                      refine call_S (n := 3) (As := [.ref (a (2 + 2 * 0)), .int 0, .int 0]) (rest := [.long (mnv (f 0) (r (2 * 0 + 1)) (r (2 * 0)) (2 ^ (r (2 * 0)) - 1) (2 ^ (r (2 * 0 + 1)) - 1))]) hX hB (k_X10_bySequences κ l (lA κ q162 ((r (2 * 0)) * 5) F163 :: gO q161 (r (2 * 0)) (r (2 * 0 + 1)) q162 :: lA κ q158 ((r (2 * 0)) * 5) F159 :: gO q157 (r (2 * 0)) (r (2 * 0 + 1)) q158 :: lA κ b6 ((r (2 * 0 + 1)) * 5) F11 :: gO g5 (r (2 * 0 + 1)) (r (2 * 0 + 1)) b6 :: lA κ b8 ((r (2 * 0)) * 5) F12 :: gO g7 (r (2 * 0)) (r (2 * 0)) b8 :: lA κ b10 ((r (2 * 0)) * 5) F13 :: gO g9 (r (2 * 0)) (r (2 * 0 + 1)) b10 :: (q4, .inr (10, [.ref g9, .ref g7, .ref g5, .int S14, .int S15, .int (nI K16), .int G17])) :: mw κ a r f q (tb a) w) (2 + 2 * 0 + 11) (3 + 2 * 0 + 11) (a (2 + 2 * 0)) (a (3 + 2 * 0)) (r (2 * 0)) (r (2 * 0 + 1)) (f 0) 0 0 0 (mwG (i := 0) (a := a) (r := r) (f := f) (q := q) (T := tb a) (w := w) (by omega)) (mwA (i := 0) (a := a) (r := r) (f := f) (q := q) (T := tb a) (w := w) (by omega)) (mok_shp (i := 0) hm (by omega)) rfl (by omega)) yk_X10_bySequences wm_7_88 wm_7_89 wm_1_6 wm_7_90 ⟨Nat.le_of_ble_eq_true rfl, Nat.le_of_ble_eq_true rfl⟩ ⟨Nat.le_of_ble_eq_true rfl, Nat.le_of_ble_eq_true rfl⟩ rfl hl.1 rfl (Nat.le_of_ble_eq_true rfl) dX10_isSoundNow_184 (fun o w' H locs hp hB => ?_)
                      obtain ⟨rfl, hw9⟩ := hp
                      replace hB : Bd κ A s (lA κ q162 ((r (2 * 0)) * 5) F163 :: gO q161 (r (2 * 0)) (r (2 * 0 + 1)) q162 :: lA κ q158 ((r (2 * 0)) * 5) F159 :: gO q157 (r (2 * 0)) (r (2 * 0 + 1)) q158 :: lA κ b6 ((r (2 * 0 + 1)) * 5) F11 :: gO g5 (r (2 * 0 + 1)) (r (2 * 0 + 1)) b6 :: lA κ b8 ((r (2 * 0)) * 5) F12 :: gO g7 (r (2 * 0)) (r (2 * 0)) b8 :: lA κ b10 ((r (2 * 0)) * 5) F13 :: gO g9 (r (2 * 0)) (r (2 * 0 + 1)) b10 :: (q4, .inr (10, [.ref g9, .ref g7, .ref g5, .int S14, .int S15, .int (nI K16), .int G17])) :: mw κ a r f q (tb a) w) H locs := by rw [hw9] at hB; exact hB
                      refine W.eq (g2 := F0 m 187 ls [.long (bsv (r (2 * 0)) (r (2 * 0 + 1)) (f 0) 4 0 0), .long (mnv (f 0) (r (2 * 0 + 1)) (r (2 * 0)) (2 ^ (r (2 * 0)) - 1) (2 ^ (r (2 * 0 + 1)) - 1))]) rfl ?_
                      refine W.lcmp hx hb dX10_isSoundNow_187 ?_
                      refine lv_if_ne (tgt := 195) hx hb dX10_isSoundNow_188 (by decide) (fun c171 => ?_) (fun c171 => ?_)
                      · replace hR := ifn c171 hR
                        refine lv_iconst (v := 0) hx hb dX10_isSoundNow_195 (by decide) ?_
                        replace hB : Bd κ A s (lA κ q162 ((r (2 * 0)) * 5) F163 :: gO q161 (r (2 * 0)) (r (2 * 0 + 1)) q162 :: lA κ q158 ((r (2 * 0)) * 5) F159 :: gO q157 (r (2 * 0)) (r (2 * 0 + 1)) q158 :: lA κ b6 ((r (2 * 0 + 1)) * 5) F11 :: gO g5 (r (2 * 0 + 1)) (r (2 * 0 + 1)) b6 :: lA κ b8 ((r (2 * 0)) * 5) F12 :: gO g7 (r (2 * 0)) (r (2 * 0)) b8 :: lA κ b10 ((r (2 * 0)) * 5) F13 :: gO g9 (r (2 * 0)) (r (2 * 0 + 1)) b10 :: mw κ a r f q (tb a) w) H locs := Bd_del 10 hB
                        replace hB : Bd κ A s (lA κ q162 ((r (2 * 0)) * 5) F163 :: gO q161 (r (2 * 0)) (r (2 * 0 + 1)) q162 :: lA κ q158 ((r (2 * 0)) * 5) F159 :: gO q157 (r (2 * 0)) (r (2 * 0 + 1)) q158 :: lA κ b6 ((r (2 * 0 + 1)) * 5) F11 :: gO g5 (r (2 * 0 + 1)) (r (2 * 0 + 1)) b6 :: lA κ b8 ((r (2 * 0)) * 5) F12 :: gO g7 (r (2 * 0)) (r (2 * 0)) b8 :: lA κ b10 ((r (2 * 0)) * 5) F13 :: mw κ a r f q (tb a) w) H locs := Bd_del 9 hB
                        replace hB : Bd κ A s (lA κ q162 ((r (2 * 0)) * 5) F163 :: gO q161 (r (2 * 0)) (r (2 * 0 + 1)) q162 :: lA κ q158 ((r (2 * 0)) * 5) F159 :: gO q157 (r (2 * 0)) (r (2 * 0 + 1)) q158 :: lA κ b6 ((r (2 * 0 + 1)) * 5) F11 :: gO g5 (r (2 * 0 + 1)) (r (2 * 0 + 1)) b6 :: lA κ b8 ((r (2 * 0)) * 5) F12 :: gO g7 (r (2 * 0)) (r (2 * 0)) b8 :: mw κ a r f q (tb a) w) H locs := Bd_del 8 hB
                        replace hB : Bd κ A s (lA κ q162 ((r (2 * 0)) * 5) F163 :: gO q161 (r (2 * 0)) (r (2 * 0 + 1)) q162 :: lA κ q158 ((r (2 * 0)) * 5) F159 :: gO q157 (r (2 * 0)) (r (2 * 0 + 1)) q158 :: lA κ b6 ((r (2 * 0 + 1)) * 5) F11 :: gO g5 (r (2 * 0 + 1)) (r (2 * 0 + 1)) b6 :: lA κ b8 ((r (2 * 0)) * 5) F12 :: mw κ a r f q (tb a) w) H locs := Bd_del 7 hB
                        replace hB : Bd κ A s (lA κ q162 ((r (2 * 0)) * 5) F163 :: gO q161 (r (2 * 0)) (r (2 * 0 + 1)) q162 :: lA κ q158 ((r (2 * 0)) * 5) F159 :: gO q157 (r (2 * 0)) (r (2 * 0 + 1)) q158 :: lA κ b6 ((r (2 * 0 + 1)) * 5) F11 :: gO g5 (r (2 * 0 + 1)) (r (2 * 0 + 1)) b6 :: mw κ a r f q (tb a) w) H locs := Bd_del 6 hB
                        replace hB : Bd κ A s (lA κ q162 ((r (2 * 0)) * 5) F163 :: gO q161 (r (2 * 0)) (r (2 * 0 + 1)) q162 :: lA κ q158 ((r (2 * 0)) * 5) F159 :: gO q157 (r (2 * 0)) (r (2 * 0 + 1)) q158 :: lA κ b6 ((r (2 * 0 + 1)) * 5) F11 :: mw κ a r f q (tb a) w) H locs := Bd_del 5 hB
                        replace hB : Bd κ A s (lA κ q162 ((r (2 * 0)) * 5) F163 :: gO q161 (r (2 * 0)) (r (2 * 0 + 1)) q162 :: lA κ q158 ((r (2 * 0)) * 5) F159 :: gO q157 (r (2 * 0)) (r (2 * 0 + 1)) q158 :: mw κ a r f q (tb a) w) H locs := Bd_del 4 hB
                        replace hB : Bd κ A s (lA κ q162 ((r (2 * 0)) * 5) F163 :: gO q161 (r (2 * 0)) (r (2 * 0 + 1)) q162 :: lA κ q158 ((r (2 * 0)) * 5) F159 :: mw κ a r f q (tb a) w) H locs := Bd_del 3 hB
                        replace hB : Bd κ A s (lA κ q162 ((r (2 * 0)) * 5) F163 :: gO q161 (r (2 * 0)) (r (2 * 0 + 1)) q162 :: mw κ a r f q (tb a) w) H locs := Bd_del 2 hB
                        replace hB : Bd κ A s (lA κ q162 ((r (2 * 0)) * 5) F163 :: mw κ a r f q (tb a) w) H locs := Bd_del 1 hB
                        replace hB : Bd κ A s (mw κ a r f q (tb a) w) H locs := Bd_del 0 hB
                        rw [← hQ]
                        exact end_i hX hB hA3 rfl rfl (by obtain rfl := hR; exact ⟨rfl, (Or.inl rfl), rfl⟩) (Nat.le_of_ble_eq_true rfl) (Nat.le_of_ble_eq_true rfl) dX10_isSoundNow_196
                      · replace hR := ifp c171 hR
                        refine lv_iconst (v := 1) hx hb dX10_isSoundNow_191 (by decide) ?_
                        refine lv_goto (tgt := 196) hx hb dX10_isSoundNow_192 (by decide) ?_
                        replace hB : Bd κ A s (lA κ q162 ((r (2 * 0)) * 5) F163 :: gO q161 (r (2 * 0)) (r (2 * 0 + 1)) q162 :: lA κ q158 ((r (2 * 0)) * 5) F159 :: gO q157 (r (2 * 0)) (r (2 * 0 + 1)) q158 :: lA κ b6 ((r (2 * 0 + 1)) * 5) F11 :: gO g5 (r (2 * 0 + 1)) (r (2 * 0 + 1)) b6 :: lA κ b8 ((r (2 * 0)) * 5) F12 :: gO g7 (r (2 * 0)) (r (2 * 0)) b8 :: lA κ b10 ((r (2 * 0)) * 5) F13 :: gO g9 (r (2 * 0)) (r (2 * 0 + 1)) b10 :: mw κ a r f q (tb a) w) H locs := Bd_del 10 hB
                        replace hB : Bd κ A s (lA κ q162 ((r (2 * 0)) * 5) F163 :: gO q161 (r (2 * 0)) (r (2 * 0 + 1)) q162 :: lA κ q158 ((r (2 * 0)) * 5) F159 :: gO q157 (r (2 * 0)) (r (2 * 0 + 1)) q158 :: lA κ b6 ((r (2 * 0 + 1)) * 5) F11 :: gO g5 (r (2 * 0 + 1)) (r (2 * 0 + 1)) b6 :: lA κ b8 ((r (2 * 0)) * 5) F12 :: gO g7 (r (2 * 0)) (r (2 * 0)) b8 :: lA κ b10 ((r (2 * 0)) * 5) F13 :: mw κ a r f q (tb a) w) H locs := Bd_del 9 hB
                        replace hB : Bd κ A s (lA κ q162 ((r (2 * 0)) * 5) F163 :: gO q161 (r (2 * 0)) (r (2 * 0 + 1)) q162 :: lA κ q158 ((r (2 * 0)) * 5) F159 :: gO q157 (r (2 * 0)) (r (2 * 0 + 1)) q158 :: lA κ b6 ((r (2 * 0 + 1)) * 5) F11 :: gO g5 (r (2 * 0 + 1)) (r (2 * 0 + 1)) b6 :: lA κ b8 ((r (2 * 0)) * 5) F12 :: gO g7 (r (2 * 0)) (r (2 * 0)) b8 :: mw κ a r f q (tb a) w) H locs := Bd_del 8 hB
                        replace hB : Bd κ A s (lA κ q162 ((r (2 * 0)) * 5) F163 :: gO q161 (r (2 * 0)) (r (2 * 0 + 1)) q162 :: lA κ q158 ((r (2 * 0)) * 5) F159 :: gO q157 (r (2 * 0)) (r (2 * 0 + 1)) q158 :: lA κ b6 ((r (2 * 0 + 1)) * 5) F11 :: gO g5 (r (2 * 0 + 1)) (r (2 * 0 + 1)) b6 :: lA κ b8 ((r (2 * 0)) * 5) F12 :: mw κ a r f q (tb a) w) H locs := Bd_del 7 hB
                        replace hB : Bd κ A s (lA κ q162 ((r (2 * 0)) * 5) F163 :: gO q161 (r (2 * 0)) (r (2 * 0 + 1)) q162 :: lA κ q158 ((r (2 * 0)) * 5) F159 :: gO q157 (r (2 * 0)) (r (2 * 0 + 1)) q158 :: lA κ b6 ((r (2 * 0 + 1)) * 5) F11 :: gO g5 (r (2 * 0 + 1)) (r (2 * 0 + 1)) b6 :: mw κ a r f q (tb a) w) H locs := Bd_del 6 hB
                        replace hB : Bd κ A s (lA κ q162 ((r (2 * 0)) * 5) F163 :: gO q161 (r (2 * 0)) (r (2 * 0 + 1)) q162 :: lA κ q158 ((r (2 * 0)) * 5) F159 :: gO q157 (r (2 * 0)) (r (2 * 0 + 1)) q158 :: lA κ b6 ((r (2 * 0 + 1)) * 5) F11 :: mw κ a r f q (tb a) w) H locs := Bd_del 5 hB
                        replace hB : Bd κ A s (lA κ q162 ((r (2 * 0)) * 5) F163 :: gO q161 (r (2 * 0)) (r (2 * 0 + 1)) q162 :: lA κ q158 ((r (2 * 0)) * 5) F159 :: gO q157 (r (2 * 0)) (r (2 * 0 + 1)) q158 :: mw κ a r f q (tb a) w) H locs := Bd_del 4 hB
                        replace hB : Bd κ A s (lA κ q162 ((r (2 * 0)) * 5) F163 :: gO q161 (r (2 * 0)) (r (2 * 0 + 1)) q162 :: lA κ q158 ((r (2 * 0)) * 5) F159 :: mw κ a r f q (tb a) w) H locs := Bd_del 3 hB
                        replace hB : Bd κ A s (lA κ q162 ((r (2 * 0)) * 5) F163 :: gO q161 (r (2 * 0)) (r (2 * 0 + 1)) q162 :: mw κ a r f q (tb a) w) H locs := Bd_del 2 hB
                        replace hB : Bd κ A s (lA κ q162 ((r (2 * 0)) * 5) F163 :: mw κ a r f q (tb a) w) H locs := Bd_del 1 hB
                        replace hB : Bd κ A s (mw κ a r f q (tb a) w) H locs := Bd_del 0 hB
                        rw [← hQ]
                        exact end_i hX hB hA3 rfl rfl (by obtain rfl := hR; exact ⟨rfl, (Or.inr rfl), rfl⟩) (Nat.le_of_ble_eq_true rfl) (Nat.le_of_ble_eq_true rfl) dX10_isSoundNow_196
                · replace hR := ifn (by decide) hR
                  refine W.eq (g2 := F0 m 152 ls [.int 1, .int y3_42]) rfl ?_
                  refine lv_if_eq (tgt := 159) hx hb dX10_isSoundNow_152 (by decide) (fun c172 => False.elim (by revert c172; decide)) (fun _ => ?_)
                  refine lv_iconst (v := 1) hx hb dX10_isSoundNow_155 (by decide) ?_
                  refine lv_goto (tgt := 160) hx hb dX10_isSoundNow_156 (by decide) ?_
                  refine lv_iand hx hb dX10_isSoundNow_160 ?_
                  refine lv_istore_n (lv' := [(3, .int (y3_42 &&& 1)), (6, .int (nI y6_42)), (4, .long y4_42), (2, .ref q4), (1, .ref (a (2 + 2 * 0))), (0, .ref (a 0))]) hx hb dX10_isSoundNow_161 rfl hl (by decide) rfl (fun ls hl => ?_)
                  refine lv_iload_n hx hb dX10_isSoundNow_162 rfl (lv_at hl 0 rfl) ?_
                  refine lv_if_eq (tgt := 195) hx hb dX10_isSoundNow_163 (by decide) (fun c173 => ?_) (fun c173 => ?_)
                  · replace hR := ifp c173 hR
                    refine lv_iconst (v := 0) hx hb dX10_isSoundNow_195 (by decide) ?_
                    replace hB : Bd κ A s (lA κ q162 ((r (2 * 0)) * 5) F163 :: gO q161 (r (2 * 0)) (r (2 * 0 + 1)) q162 :: lA κ q158 ((r (2 * 0)) * 5) F159 :: gO q157 (r (2 * 0)) (r (2 * 0 + 1)) q158 :: lA κ b6 ((r (2 * 0 + 1)) * 5) F11 :: gO g5 (r (2 * 0 + 1)) (r (2 * 0 + 1)) b6 :: lA κ b8 ((r (2 * 0)) * 5) F12 :: gO g7 (r (2 * 0)) (r (2 * 0)) b8 :: lA κ b10 ((r (2 * 0)) * 5) F13 :: gO g9 (r (2 * 0)) (r (2 * 0 + 1)) b10 :: mw κ a r f q (tb a) w) H locs := Bd_del 10 hB
                    replace hB : Bd κ A s (lA κ q162 ((r (2 * 0)) * 5) F163 :: gO q161 (r (2 * 0)) (r (2 * 0 + 1)) q162 :: lA κ q158 ((r (2 * 0)) * 5) F159 :: gO q157 (r (2 * 0)) (r (2 * 0 + 1)) q158 :: lA κ b6 ((r (2 * 0 + 1)) * 5) F11 :: gO g5 (r (2 * 0 + 1)) (r (2 * 0 + 1)) b6 :: lA κ b8 ((r (2 * 0)) * 5) F12 :: gO g7 (r (2 * 0)) (r (2 * 0)) b8 :: lA κ b10 ((r (2 * 0)) * 5) F13 :: mw κ a r f q (tb a) w) H locs := Bd_del 9 hB
                    replace hB : Bd κ A s (lA κ q162 ((r (2 * 0)) * 5) F163 :: gO q161 (r (2 * 0)) (r (2 * 0 + 1)) q162 :: lA κ q158 ((r (2 * 0)) * 5) F159 :: gO q157 (r (2 * 0)) (r (2 * 0 + 1)) q158 :: lA κ b6 ((r (2 * 0 + 1)) * 5) F11 :: gO g5 (r (2 * 0 + 1)) (r (2 * 0 + 1)) b6 :: lA κ b8 ((r (2 * 0)) * 5) F12 :: gO g7 (r (2 * 0)) (r (2 * 0)) b8 :: mw κ a r f q (tb a) w) H locs := Bd_del 8 hB
                    replace hB : Bd κ A s (lA κ q162 ((r (2 * 0)) * 5) F163 :: gO q161 (r (2 * 0)) (r (2 * 0 + 1)) q162 :: lA κ q158 ((r (2 * 0)) * 5) F159 :: gO q157 (r (2 * 0)) (r (2 * 0 + 1)) q158 :: lA κ b6 ((r (2 * 0 + 1)) * 5) F11 :: gO g5 (r (2 * 0 + 1)) (r (2 * 0 + 1)) b6 :: lA κ b8 ((r (2 * 0)) * 5) F12 :: mw κ a r f q (tb a) w) H locs := Bd_del 7 hB
                    replace hB : Bd κ A s (lA κ q162 ((r (2 * 0)) * 5) F163 :: gO q161 (r (2 * 0)) (r (2 * 0 + 1)) q162 :: lA κ q158 ((r (2 * 0)) * 5) F159 :: gO q157 (r (2 * 0)) (r (2 * 0 + 1)) q158 :: lA κ b6 ((r (2 * 0 + 1)) * 5) F11 :: gO g5 (r (2 * 0 + 1)) (r (2 * 0 + 1)) b6 :: mw κ a r f q (tb a) w) H locs := Bd_del 6 hB
                    replace hB : Bd κ A s (lA κ q162 ((r (2 * 0)) * 5) F163 :: gO q161 (r (2 * 0)) (r (2 * 0 + 1)) q162 :: lA κ q158 ((r (2 * 0)) * 5) F159 :: gO q157 (r (2 * 0)) (r (2 * 0 + 1)) q158 :: lA κ b6 ((r (2 * 0 + 1)) * 5) F11 :: mw κ a r f q (tb a) w) H locs := Bd_del 5 hB
                    replace hB : Bd κ A s (lA κ q162 ((r (2 * 0)) * 5) F163 :: gO q161 (r (2 * 0)) (r (2 * 0 + 1)) q162 :: lA κ q158 ((r (2 * 0)) * 5) F159 :: gO q157 (r (2 * 0)) (r (2 * 0 + 1)) q158 :: mw κ a r f q (tb a) w) H locs := Bd_del 4 hB
                    replace hB : Bd κ A s (lA κ q162 ((r (2 * 0)) * 5) F163 :: gO q161 (r (2 * 0)) (r (2 * 0 + 1)) q162 :: lA κ q158 ((r (2 * 0)) * 5) F159 :: mw κ a r f q (tb a) w) H locs := Bd_del 3 hB
                    replace hB : Bd κ A s (lA κ q162 ((r (2 * 0)) * 5) F163 :: gO q161 (r (2 * 0)) (r (2 * 0 + 1)) q162 :: mw κ a r f q (tb a) w) H locs := Bd_del 2 hB
                    replace hB : Bd κ A s (lA κ q162 ((r (2 * 0)) * 5) F163 :: mw κ a r f q (tb a) w) H locs := Bd_del 1 hB
                    replace hB : Bd κ A s (mw κ a r f q (tb a) w) H locs := Bd_del 0 hB
                    rw [← hQ]
                    exact end_i hX hB hA3 rfl rfl (by obtain rfl := hR; exact ⟨rfl, (Or.inl rfl), rfl⟩) (Nat.le_of_ble_eq_true rfl) (Nat.le_of_ble_eq_true rfl) dX10_isSoundNow_196
                  · replace hR := ifn c173 hR
                    refine lv_aload_n hx hb dX10_isSoundNow_166 rfl (lv_at hl 4 rfl) ?_
                    refine gf (k0 := 2 + 2 * 0 + 11) hX hB (mwG (i := 0) (a := a) (r := r) (f := f) (q := q) (T := tb a) (w := w) (by omega)) rfl in7 0 (by decide) wm_5_148 rfl rfl dX10_isSoundNow_167 ?_
                    refine lv_aload_n hx hb dX10_isSoundNow_170 rfl (lv_at hl 4 rfl) ?_
                    refine gf (k0 := 2 + 2 * 0 + 11) hX hB (mwG (i := 0) (a := a) (r := r) (f := f) (q := q) (T := tb a) (w := w) (by omega)) rfl in7 1 (by decide) wm_5_152 rfl rfl dX10_isSoundNow_171 ?_
                    refine lv_icmp_ne (tgt := 191) hx hb dX10_isSoundNow_174 (by decide) (fun c174 => ?_) (fun c174 => ?_)
                    · rw [neqP (a := r (2 * 0)) (b := r (2 * 0 + 1)) (by omega) (by omega)] at c174
                      replace hR := ifn c174 hR
                      refine lv_iconst (v := 1) hx hb dX10_isSoundNow_191 (by decide) ?_
                      refine lv_goto (tgt := 196) hx hb dX10_isSoundNow_192 (by decide) ?_
                      replace hB : Bd κ A s (lA κ q162 ((r (2 * 0)) * 5) F163 :: gO q161 (r (2 * 0)) (r (2 * 0 + 1)) q162 :: lA κ q158 ((r (2 * 0)) * 5) F159 :: gO q157 (r (2 * 0)) (r (2 * 0 + 1)) q158 :: lA κ b6 ((r (2 * 0 + 1)) * 5) F11 :: gO g5 (r (2 * 0 + 1)) (r (2 * 0 + 1)) b6 :: lA κ b8 ((r (2 * 0)) * 5) F12 :: gO g7 (r (2 * 0)) (r (2 * 0)) b8 :: lA κ b10 ((r (2 * 0)) * 5) F13 :: gO g9 (r (2 * 0)) (r (2 * 0 + 1)) b10 :: mw κ a r f q (tb a) w) H locs := Bd_del 10 hB
                      replace hB : Bd κ A s (lA κ q162 ((r (2 * 0)) * 5) F163 :: gO q161 (r (2 * 0)) (r (2 * 0 + 1)) q162 :: lA κ q158 ((r (2 * 0)) * 5) F159 :: gO q157 (r (2 * 0)) (r (2 * 0 + 1)) q158 :: lA κ b6 ((r (2 * 0 + 1)) * 5) F11 :: gO g5 (r (2 * 0 + 1)) (r (2 * 0 + 1)) b6 :: lA κ b8 ((r (2 * 0)) * 5) F12 :: gO g7 (r (2 * 0)) (r (2 * 0)) b8 :: lA κ b10 ((r (2 * 0)) * 5) F13 :: mw κ a r f q (tb a) w) H locs := Bd_del 9 hB
                      replace hB : Bd κ A s (lA κ q162 ((r (2 * 0)) * 5) F163 :: gO q161 (r (2 * 0)) (r (2 * 0 + 1)) q162 :: lA κ q158 ((r (2 * 0)) * 5) F159 :: gO q157 (r (2 * 0)) (r (2 * 0 + 1)) q158 :: lA κ b6 ((r (2 * 0 + 1)) * 5) F11 :: gO g5 (r (2 * 0 + 1)) (r (2 * 0 + 1)) b6 :: lA κ b8 ((r (2 * 0)) * 5) F12 :: gO g7 (r (2 * 0)) (r (2 * 0)) b8 :: mw κ a r f q (tb a) w) H locs := Bd_del 8 hB
                      replace hB : Bd κ A s (lA κ q162 ((r (2 * 0)) * 5) F163 :: gO q161 (r (2 * 0)) (r (2 * 0 + 1)) q162 :: lA κ q158 ((r (2 * 0)) * 5) F159 :: gO q157 (r (2 * 0)) (r (2 * 0 + 1)) q158 :: lA κ b6 ((r (2 * 0 + 1)) * 5) F11 :: gO g5 (r (2 * 0 + 1)) (r (2 * 0 + 1)) b6 :: lA κ b8 ((r (2 * 0)) * 5) F12 :: mw κ a r f q (tb a) w) H locs := Bd_del 7 hB
                      replace hB : Bd κ A s (lA κ q162 ((r (2 * 0)) * 5) F163 :: gO q161 (r (2 * 0)) (r (2 * 0 + 1)) q162 :: lA κ q158 ((r (2 * 0)) * 5) F159 :: gO q157 (r (2 * 0)) (r (2 * 0 + 1)) q158 :: lA κ b6 ((r (2 * 0 + 1)) * 5) F11 :: gO g5 (r (2 * 0 + 1)) (r (2 * 0 + 1)) b6 :: mw κ a r f q (tb a) w) H locs := Bd_del 6 hB
                      replace hB : Bd κ A s (lA κ q162 ((r (2 * 0)) * 5) F163 :: gO q161 (r (2 * 0)) (r (2 * 0 + 1)) q162 :: lA κ q158 ((r (2 * 0)) * 5) F159 :: gO q157 (r (2 * 0)) (r (2 * 0 + 1)) q158 :: lA κ b6 ((r (2 * 0 + 1)) * 5) F11 :: mw κ a r f q (tb a) w) H locs := Bd_del 5 hB
                      replace hB : Bd κ A s (lA κ q162 ((r (2 * 0)) * 5) F163 :: gO q161 (r (2 * 0)) (r (2 * 0 + 1)) q162 :: lA κ q158 ((r (2 * 0)) * 5) F159 :: gO q157 (r (2 * 0)) (r (2 * 0 + 1)) q158 :: mw κ a r f q (tb a) w) H locs := Bd_del 4 hB
                      replace hB : Bd κ A s (lA κ q162 ((r (2 * 0)) * 5) F163 :: gO q161 (r (2 * 0)) (r (2 * 0 + 1)) q162 :: lA κ q158 ((r (2 * 0)) * 5) F159 :: mw κ a r f q (tb a) w) H locs := Bd_del 3 hB
                      replace hB : Bd κ A s (lA κ q162 ((r (2 * 0)) * 5) F163 :: gO q161 (r (2 * 0)) (r (2 * 0 + 1)) q162 :: mw κ a r f q (tb a) w) H locs := Bd_del 2 hB
                      replace hB : Bd κ A s (lA κ q162 ((r (2 * 0)) * 5) F163 :: mw κ a r f q (tb a) w) H locs := Bd_del 1 hB
                      replace hB : Bd κ A s (mw κ a r f q (tb a) w) H locs := Bd_del 0 hB
                      rw [← hQ]
                      exact end_i hX hB hA3 rfl rfl (by obtain rfl := hR; exact ⟨rfl, (Or.inr rfl), rfl⟩) (Nat.le_of_ble_eq_true rfl) (Nat.le_of_ble_eq_true rfl) dX10_isSoundNow_196
                    · rw [neqP (a := r (2 * 0)) (b := r (2 * 0 + 1)) (by omega) (by omega)] at c174
                      replace hR := ifp c174 hR
                      refine lv_aload_n hx hb dX10_isSoundNow_177 rfl (lv_at hl 4 rfl) ?_
                      refine call_S (n := 1) (As := [.ref (a (2 + 2 * 0))]) (rest := []) hX hB (k_X10_determinantOf κ l (lA κ q162 ((r (2 * 0)) * 5) F163 :: gO q161 (r (2 * 0)) (r (2 * 0 + 1)) q162 :: lA κ q158 ((r (2 * 0)) * 5) F159 :: gO q157 (r (2 * 0)) (r (2 * 0 + 1)) q158 :: lA κ b6 ((r (2 * 0 + 1)) * 5) F11 :: gO g5 (r (2 * 0 + 1)) (r (2 * 0 + 1)) b6 :: lA κ b8 ((r (2 * 0)) * 5) F12 :: gO g7 (r (2 * 0)) (r (2 * 0)) b8 :: lA κ b10 ((r (2 * 0)) * 5) F13 :: gO g9 (r (2 * 0)) (r (2 * 0 + 1)) b10 :: (q4, .inr (10, [.ref g9, .ref g7, .ref g5, .int S14, .int S15, .int (nI K16), .int G17])) :: mw κ a r f q (tb a) w) (2 + 2 * 0 + 11) (3 + 2 * 0 + 11) (a (2 + 2 * 0)) (a (3 + 2 * 0)) (r (2 * 0)) (r (2 * 0 + 1)) (f 0) (mwG (i := 0) (a := a) (r := r) (f := f) (q := q) (T := tb a) (w := w) (by omega)) (mwA (i := 0) (a := a) (r := r) (f := f) (q := q) (T := tb a) (w := w) (by omega)) (mok_shp (i := 0) hm (by omega)) (by omega)) yk_X10_determinantOf wm_7_76 wm_7_77 wm_1_6 wm_7_78 ⟨Nat.le_of_ble_eq_true rfl, Nat.le_of_ble_eq_true rfl⟩ ⟨Nat.le_of_ble_eq_true rfl, Nat.le_of_ble_eq_true rfl⟩ rfl hl.1 rfl (Nat.le_of_ble_eq_true rfl) dX10_isSoundNow_178 (fun o w' H locs hp hB => ?_)
                      obtain ⟨rfl, hw9⟩ := hp
                      replace hB : Bd κ A s (lA κ q162 ((r (2 * 0)) * 5) F163 :: gO q161 (r (2 * 0)) (r (2 * 0 + 1)) q162 :: lA κ q158 ((r (2 * 0)) * 5) F159 :: gO q157 (r (2 * 0)) (r (2 * 0 + 1)) q158 :: lA κ b6 ((r (2 * 0 + 1)) * 5) F11 :: gO g5 (r (2 * 0 + 1)) (r (2 * 0 + 1)) b6 :: lA κ b8 ((r (2 * 0)) * 5) F12 :: gO g7 (r (2 * 0)) (r (2 * 0)) b8 :: lA κ b10 ((r (2 * 0)) * 5) F13 :: gO g9 (r (2 * 0)) (r (2 * 0 + 1)) b10 :: (q4, .inr (10, [.ref g9, .ref g7, .ref g5, .int S14, .int S15, .int (nI K16), .int G17])) :: mw κ a r f q (tb a) w) H locs := by rw [hw9] at hB; exact hB
                      refine W.eq (g2 := F0 m 181 ls [.long (mnv (f 0) (r (2 * 0 + 1)) (r (2 * 0)) (2 ^ (r (2 * 0)) - 1) (2 ^ (r (2 * 0 + 1)) - 1))]) rfl ?_
                      refine lv_aload_n hx hb dX10_isSoundNow_181 rfl (lv_at hl 4 rfl) ?_
                      refine lv_iconst (v := 0) hx hb dX10_isSoundNow_182 (by decide) ?_
                      refine lv_iconst (v := 0) hx hb dX10_isSoundNow_183 (by decide) ?_
                      refine call_S (n := 3) (As := [.ref (a (2 + 2 * 0)), .int 0, .int 0]) (rest := [.long (mnv (f 0) (r (2 * 0 + 1)) (r (2 * 0)) (2 ^ (r (2 * 0)) - 1) (2 ^ (r (2 * 0 + 1)) - 1))]) hX hB (k_X10_bySequences κ l (lA κ q162 ((r (2 * 0)) * 5) F163 :: gO q161 (r (2 * 0)) (r (2 * 0 + 1)) q162 :: lA κ q158 ((r (2 * 0)) * 5) F159 :: gO q157 (r (2 * 0)) (r (2 * 0 + 1)) q158 :: lA κ b6 ((r (2 * 0 + 1)) * 5) F11 :: gO g5 (r (2 * 0 + 1)) (r (2 * 0 + 1)) b6 :: lA κ b8 ((r (2 * 0)) * 5) F12 :: gO g7 (r (2 * 0)) (r (2 * 0)) b8 :: lA κ b10 ((r (2 * 0)) * 5) F13 :: gO g9 (r (2 * 0)) (r (2 * 0 + 1)) b10 :: (q4, .inr (10, [.ref g9, .ref g7, .ref g5, .int S14, .int S15, .int (nI K16), .int G17])) :: mw κ a r f q (tb a) w) (2 + 2 * 0 + 11) (3 + 2 * 0 + 11) (a (2 + 2 * 0)) (a (3 + 2 * 0)) (r (2 * 0)) (r (2 * 0 + 1)) (f 0) 0 0 0 (mwG (i := 0) (a := a) (r := r) (f := f) (q := q) (T := tb a) (w := w) (by omega)) (mwA (i := 0) (a := a) (r := r) (f := f) (q := q) (T := tb a) (w := w) (by omega)) (mok_shp (i := 0) hm (by omega)) rfl (by omega)) yk_X10_bySequences wm_7_88 wm_7_89 wm_1_6 wm_7_90 ⟨Nat.le_of_ble_eq_true rfl, Nat.le_of_ble_eq_true rfl⟩ ⟨Nat.le_of_ble_eq_true rfl, Nat.le_of_ble_eq_true rfl⟩ rfl hl.1 rfl (Nat.le_of_ble_eq_true rfl) dX10_isSoundNow_184 (fun o w' H locs hp hB => ?_)
                      obtain ⟨rfl, hw9⟩ := hp
                      replace hB : Bd κ A s (lA κ q162 ((r (2 * 0)) * 5) F163 :: gO q161 (r (2 * 0)) (r (2 * 0 + 1)) q162 :: lA κ q158 ((r (2 * 0)) * 5) F159 :: gO q157 (r (2 * 0)) (r (2 * 0 + 1)) q158 :: lA κ b6 ((r (2 * 0 + 1)) * 5) F11 :: gO g5 (r (2 * 0 + 1)) (r (2 * 0 + 1)) b6 :: lA κ b8 ((r (2 * 0)) * 5) F12 :: gO g7 (r (2 * 0)) (r (2 * 0)) b8 :: lA κ b10 ((r (2 * 0)) * 5) F13 :: gO g9 (r (2 * 0)) (r (2 * 0 + 1)) b10 :: (q4, .inr (10, [.ref g9, .ref g7, .ref g5, .int S14, .int S15, .int (nI K16), .int G17])) :: mw κ a r f q (tb a) w) H locs := by rw [hw9] at hB; exact hB
                      refine W.eq (g2 := F0 m 187 ls [.long (bsv (r (2 * 0)) (r (2 * 0 + 1)) (f 0) 4 0 0), .long (mnv (f 0) (r (2 * 0 + 1)) (r (2 * 0)) (2 ^ (r (2 * 0)) - 1) (2 ^ (r (2 * 0 + 1)) - 1))]) rfl ?_
                      refine W.lcmp hx hb dX10_isSoundNow_187 ?_
                      refine lv_if_ne (tgt := 195) hx hb dX10_isSoundNow_188 (by decide) (fun c175 => ?_) (fun c175 => ?_)
                      · replace hR := ifn c175 hR
                        refine lv_iconst (v := 0) hx hb dX10_isSoundNow_195 (by decide) ?_
                        replace hB : Bd κ A s (lA κ q162 ((r (2 * 0)) * 5) F163 :: gO q161 (r (2 * 0)) (r (2 * 0 + 1)) q162 :: lA κ q158 ((r (2 * 0)) * 5) F159 :: gO q157 (r (2 * 0)) (r (2 * 0 + 1)) q158 :: lA κ b6 ((r (2 * 0 + 1)) * 5) F11 :: gO g5 (r (2 * 0 + 1)) (r (2 * 0 + 1)) b6 :: lA κ b8 ((r (2 * 0)) * 5) F12 :: gO g7 (r (2 * 0)) (r (2 * 0)) b8 :: lA κ b10 ((r (2 * 0)) * 5) F13 :: gO g9 (r (2 * 0)) (r (2 * 0 + 1)) b10 :: mw κ a r f q (tb a) w) H locs := Bd_del 10 hB
                        replace hB : Bd κ A s (lA κ q162 ((r (2 * 0)) * 5) F163 :: gO q161 (r (2 * 0)) (r (2 * 0 + 1)) q162 :: lA κ q158 ((r (2 * 0)) * 5) F159 :: gO q157 (r (2 * 0)) (r (2 * 0 + 1)) q158 :: lA κ b6 ((r (2 * 0 + 1)) * 5) F11 :: gO g5 (r (2 * 0 + 1)) (r (2 * 0 + 1)) b6 :: lA κ b8 ((r (2 * 0)) * 5) F12 :: gO g7 (r (2 * 0)) (r (2 * 0)) b8 :: lA κ b10 ((r (2 * 0)) * 5) F13 :: mw κ a r f q (tb a) w) H locs := Bd_del 9 hB
                        replace hB : Bd κ A s (lA κ q162 ((r (2 * 0)) * 5) F163 :: gO q161 (r (2 * 0)) (r (2 * 0 + 1)) q162 :: lA κ q158 ((r (2 * 0)) * 5) F159 :: gO q157 (r (2 * 0)) (r (2 * 0 + 1)) q158 :: lA κ b6 ((r (2 * 0 + 1)) * 5) F11 :: gO g5 (r (2 * 0 + 1)) (r (2 * 0 + 1)) b6 :: lA κ b8 ((r (2 * 0)) * 5) F12 :: gO g7 (r (2 * 0)) (r (2 * 0)) b8 :: mw κ a r f q (tb a) w) H locs := Bd_del 8 hB
                        replace hB : Bd κ A s (lA κ q162 ((r (2 * 0)) * 5) F163 :: gO q161 (r (2 * 0)) (r (2 * 0 + 1)) q162 :: lA κ q158 ((r (2 * 0)) * 5) F159 :: gO q157 (r (2 * 0)) (r (2 * 0 + 1)) q158 :: lA κ b6 ((r (2 * 0 + 1)) * 5) F11 :: gO g5 (r (2 * 0 + 1)) (r (2 * 0 + 1)) b6 :: lA κ b8 ((r (2 * 0)) * 5) F12 :: mw κ a r f q (tb a) w) H locs := Bd_del 7 hB
                        replace hB : Bd κ A s (lA κ q162 ((r (2 * 0)) * 5) F163 :: gO q161 (r (2 * 0)) (r (2 * 0 + 1)) q162 :: lA κ q158 ((r (2 * 0)) * 5) F159 :: gO q157 (r (2 * 0)) (r (2 * 0 + 1)) q158 :: lA κ b6 ((r (2 * 0 + 1)) * 5) F11 :: gO g5 (r (2 * 0 + 1)) (r (2 * 0 + 1)) b6 :: mw κ a r f q (tb a) w) H locs := Bd_del 6 hB
                        replace hB : Bd κ A s (lA κ q162 ((r (2 * 0)) * 5) F163 :: gO q161 (r (2 * 0)) (r (2 * 0 + 1)) q162 :: lA κ q158 ((r (2 * 0)) * 5) F159 :: gO q157 (r (2 * 0)) (r (2 * 0 + 1)) q158 :: lA κ b6 ((r (2 * 0 + 1)) * 5) F11 :: mw κ a r f q (tb a) w) H locs := Bd_del 5 hB
                        replace hB : Bd κ A s (lA κ q162 ((r (2 * 0)) * 5) F163 :: gO q161 (r (2 * 0)) (r (2 * 0 + 1)) q162 :: lA κ q158 ((r (2 * 0)) * 5) F159 :: gO q157 (r (2 * 0)) (r (2 * 0 + 1)) q158 :: mw κ a r f q (tb a) w) H locs := Bd_del 4 hB
                        replace hB : Bd κ A s (lA κ q162 ((r (2 * 0)) * 5) F163 :: gO q161 (r (2 * 0)) (r (2 * 0 + 1)) q162 :: lA κ q158 ((r (2 * 0)) * 5) F159 :: mw κ a r f q (tb a) w) H locs := Bd_del 3 hB
                        replace hB : Bd κ A s (lA κ q162 ((r (2 * 0)) * 5) F163 :: gO q161 (r (2 * 0)) (r (2 * 0 + 1)) q162 :: mw κ a r f q (tb a) w) H locs := Bd_del 2 hB
                        replace hB : Bd κ A s (lA κ q162 ((r (2 * 0)) * 5) F163 :: mw κ a r f q (tb a) w) H locs := Bd_del 1 hB
                        replace hB : Bd κ A s (mw κ a r f q (tb a) w) H locs := Bd_del 0 hB
                        rw [← hQ]
                        exact end_i hX hB hA3 rfl rfl (by obtain rfl := hR; exact ⟨rfl, (Or.inl rfl), rfl⟩) (Nat.le_of_ble_eq_true rfl) (Nat.le_of_ble_eq_true rfl) dX10_isSoundNow_196
                      · replace hR := ifp c175 hR
                        refine lv_iconst (v := 1) hx hb dX10_isSoundNow_191 (by decide) ?_
                        refine lv_goto (tgt := 196) hx hb dX10_isSoundNow_192 (by decide) ?_
                        replace hB : Bd κ A s (lA κ q162 ((r (2 * 0)) * 5) F163 :: gO q161 (r (2 * 0)) (r (2 * 0 + 1)) q162 :: lA κ q158 ((r (2 * 0)) * 5) F159 :: gO q157 (r (2 * 0)) (r (2 * 0 + 1)) q158 :: lA κ b6 ((r (2 * 0 + 1)) * 5) F11 :: gO g5 (r (2 * 0 + 1)) (r (2 * 0 + 1)) b6 :: lA κ b8 ((r (2 * 0)) * 5) F12 :: gO g7 (r (2 * 0)) (r (2 * 0)) b8 :: lA κ b10 ((r (2 * 0)) * 5) F13 :: gO g9 (r (2 * 0)) (r (2 * 0 + 1)) b10 :: mw κ a r f q (tb a) w) H locs := Bd_del 10 hB
                        replace hB : Bd κ A s (lA κ q162 ((r (2 * 0)) * 5) F163 :: gO q161 (r (2 * 0)) (r (2 * 0 + 1)) q162 :: lA κ q158 ((r (2 * 0)) * 5) F159 :: gO q157 (r (2 * 0)) (r (2 * 0 + 1)) q158 :: lA κ b6 ((r (2 * 0 + 1)) * 5) F11 :: gO g5 (r (2 * 0 + 1)) (r (2 * 0 + 1)) b6 :: lA κ b8 ((r (2 * 0)) * 5) F12 :: gO g7 (r (2 * 0)) (r (2 * 0)) b8 :: lA κ b10 ((r (2 * 0)) * 5) F13 :: mw κ a r f q (tb a) w) H locs := Bd_del 9 hB
                        replace hB : Bd κ A s (lA κ q162 ((r (2 * 0)) * 5) F163 :: gO q161 (r (2 * 0)) (r (2 * 0 + 1)) q162 :: lA κ q158 ((r (2 * 0)) * 5) F159 :: gO q157 (r (2 * 0)) (r (2 * 0 + 1)) q158 :: lA κ b6 ((r (2 * 0 + 1)) * 5) F11 :: gO g5 (r (2 * 0 + 1)) (r (2 * 0 + 1)) b6 :: lA κ b8 ((r (2 * 0)) * 5) F12 :: gO g7 (r (2 * 0)) (r (2 * 0)) b8 :: mw κ a r f q (tb a) w) H locs := Bd_del 8 hB
                        replace hB : Bd κ A s (lA κ q162 ((r (2 * 0)) * 5) F163 :: gO q161 (r (2 * 0)) (r (2 * 0 + 1)) q162 :: lA κ q158 ((r (2 * 0)) * 5) F159 :: gO q157 (r (2 * 0)) (r (2 * 0 + 1)) q158 :: lA κ b6 ((r (2 * 0 + 1)) * 5) F11 :: gO g5 (r (2 * 0 + 1)) (r (2 * 0 + 1)) b6 :: lA κ b8 ((r (2 * 0)) * 5) F12 :: mw κ a r f q (tb a) w) H locs := Bd_del 7 hB
                        replace hB : Bd κ A s (lA κ q162 ((r (2 * 0)) * 5) F163 :: gO q161 (r (2 * 0)) (r (2 * 0 + 1)) q162 :: lA κ q158 ((r (2 * 0)) * 5) F159 :: gO q157 (r (2 * 0)) (r (2 * 0 + 1)) q158 :: lA κ b6 ((r (2 * 0 + 1)) * 5) F11 :: gO g5 (r (2 * 0 + 1)) (r (2 * 0 + 1)) b6 :: mw κ a r f q (tb a) w) H locs := Bd_del 6 hB
                        replace hB : Bd κ A s (lA κ q162 ((r (2 * 0)) * 5) F163 :: gO q161 (r (2 * 0)) (r (2 * 0 + 1)) q162 :: lA κ q158 ((r (2 * 0)) * 5) F159 :: gO q157 (r (2 * 0)) (r (2 * 0 + 1)) q158 :: lA κ b6 ((r (2 * 0 + 1)) * 5) F11 :: mw κ a r f q (tb a) w) H locs := Bd_del 5 hB
                        replace hB : Bd κ A s (lA κ q162 ((r (2 * 0)) * 5) F163 :: gO q161 (r (2 * 0)) (r (2 * 0 + 1)) q162 :: lA κ q158 ((r (2 * 0)) * 5) F159 :: gO q157 (r (2 * 0)) (r (2 * 0 + 1)) q158 :: mw κ a r f q (tb a) w) H locs := Bd_del 4 hB
                        replace hB : Bd κ A s (lA κ q162 ((r (2 * 0)) * 5) F163 :: gO q161 (r (2 * 0)) (r (2 * 0 + 1)) q162 :: lA κ q158 ((r (2 * 0)) * 5) F159 :: mw κ a r f q (tb a) w) H locs := Bd_del 3 hB
                        replace hB : Bd κ A s (lA κ q162 ((r (2 * 0)) * 5) F163 :: gO q161 (r (2 * 0)) (r (2 * 0 + 1)) q162 :: mw κ a r f q (tb a) w) H locs := Bd_del 2 hB
                        replace hB : Bd κ A s (lA κ q162 ((r (2 * 0)) * 5) F163 :: mw κ a r f q (tb a) w) H locs := Bd_del 1 hB
                        replace hB : Bd κ A s (mw κ a r f q (tb a) w) H locs := Bd_del 0 hB
                        rw [← hQ]
                        exact end_i hX hB hA3 rfl rfl (by obtain rfl := hR; exact ⟨rfl, (Or.inr rfl), rfl⟩) (Nat.le_of_ble_eq_true rfl) (Nat.le_of_ble_eq_true rfl) dX10_isSoundNow_196
            · rw [nleP (a := r (2 * 0)) (b := y6_42) (by omega) (by omega)] at c149
              replace hR := ifn c149 hR
              refine lv_iload hx hb dX10_isSoundNow_58 (lv_at hl 0 rfl) ?_
              refine lv_aload_n hx hb dX10_isSoundNow_60 rfl (lv_at hl 4 rfl) ?_
              refine gf (k0 := 2 + 2 * 0 + 7) hX hB (mwG (i := 0) (a := a) (r := r) (f := f) (q := q) (T := tb a) (w := w) (by omega)) rfl in7 1 (by decide) wm_5_152 rfl rfl dX10_isSoundNow_61 ?_
              refine lv_icmp_ge (tgt := 111) hx hb dX10_isSoundNow_64 (by decide) (fun c176 => ?_) (fun c176 => ?_)
              · rw [nleP (a := r (2 * 0 + 1)) (b := y6_42) (by omega) (by omega)] at c176
                replace hR := ifp c176 hR
                refine lv_iload_n hx hb dX10_isSoundNow_111 rfl (lv_at hl 2 rfl) ?_
                refine lv_aload_n hx hb dX10_isSoundNow_112 rfl (lv_at hl 3 rfl) ?_
                refine gf (k0 := 6) hX hB rfl rfl in9 6 (by decide) wm_6_234 rfl rfl dX10_isSoundNow_113 ?_
                refine lv_if_ne (tgt := 155) hx hb dX10_isSoundNow_116 (by decide) (fun c177 => False.elim (c177 c144)) (fun _ => ?_)
                refine lv_aload_n hx hb dX10_isSoundNow_119 rfl (lv_at hl 3 rfl) ?_
                refine gf (k0 := 6) hX hB rfl rfl in9 5 (by decide) wm_6_232 rfl rfl dX10_isSoundNow_120 ?_
                refine lv_aload_n hx hb dX10_isSoundNow_123 rfl (lv_at hl 4 rfl) ?_
                obtain ⟨x178, hd179⟩ := ex1 (D_X7_rank (r (2 * 0)) (r (2 * 0 + 1)) (f 0))
                replace hR := bnd1_use hd179 hR
                refine call_V (n := 0) (k0 := (2 + 2 * 0 + 7)) (As := []) (rest := [.int (nI K16), .int y3_42]) hX hB (k_X7_rank κ l (lA κ b6 ((r (2 * 0 + 1)) * 5) F11 :: gO g5 (r (2 * 0 + 1)) (r (2 * 0 + 1)) b6 :: lA κ b8 ((r (2 * 0)) * 5) F12 :: gO g7 (r (2 * 0)) (r (2 * 0)) b8 :: lA κ b10 ((r (2 * 0)) * 5) F13 :: gO g9 (r (2 * 0)) (r (2 * 0 + 1)) b10 :: (q4, .inr (10, [.ref g9, .ref g7, .ref g5, .int S14, .int S15, .int (nI K16), .int G17])) :: mw κ a r f q (tb a) w) (2 + 2 * 0 + 7) (3 + 2 * 0 + 7) (a (2 + 2 * 0)) (a (3 + 2 * 0)) (r (2 * 0)) (r (2 * 0 + 1)) (f 0) (mwG (i := 0) (a := a) (r := r) (f := f) (q := q) (T := tb a) (w := w) (by omega)) (mwA (i := 0) (a := a) (r := r) (f := f) (q := q) (T := tb a) (w := w) (by omega)) (mok_shp (i := 0) hm (by omega)) x178 hd179) ⟨rfl, yk_X7_rank⟩ wm_7_115 wm_7_116 wm_7_117 wm_1_7 wm_7_118 ⟨Nat.le_of_ble_eq_true rfl, Nat.le_of_ble_eq_true rfl⟩ ⟨Nat.le_of_ble_eq_true rfl, Nat.le_of_ble_eq_true rfl⟩ (mwG (i := 0) (a := a) (r := r) (f := f) (q := q) (T := tb a) (w := w) (by omega)) rfl rfl rfl hl.1 rfl (Nat.le_of_ble_eq_true rfl) dX10_isSoundNow_124 (fun o w' H locs hp hB => ?_)
                obtain ⟨rfl, hw9⟩ := hp
                replace hB : Bd κ A s (lA κ b6 ((r (2 * 0 + 1)) * 5) F11 :: gO g5 (r (2 * 0 + 1)) (r (2 * 0 + 1)) b6 :: lA κ b8 ((r (2 * 0)) * 5) F12 :: gO g7 (r (2 * 0)) (r (2 * 0)) b8 :: lA κ b10 ((r (2 * 0)) * 5) F13 :: gO g9 (r (2 * 0)) (r (2 * 0 + 1)) b10 :: (q4, .inr (10, [.ref g9, .ref g7, .ref g5, .int S14, .int S15, .int (nI K16), .int G17])) :: mw κ a r f q (tb a) w) H locs := by rw [hw9] at hB; exact hB
                refine W.eq (g2 := F0 m 127 ls [.int x178, .int (nI K16), .int y3_42]) rfl ?_
                refine lv_icmp_ne (tgt := 159) hx hb dX10_isSoundNow_127 (by decide) (fun c180 => ?_) (fun c180 => ?_)
                · replace hR := ifn c180 hR
                  refine lv_iconst (v := 0) hx hb dX10_isSoundNow_159 (by decide) ?_
                  refine lv_iand hx hb dX10_isSoundNow_160 ?_
                  refine lv_istore_n (lv' := [(3, .int (y3_42 &&& 0)), (6, .int (nI y6_42)), (4, .long y4_42), (2, .ref q4), (1, .ref (a (2 + 2 * 0))), (0, .ref (a 0))]) hx hb dX10_isSoundNow_161 rfl hl (by decide) rfl (fun ls hl => ?_)
                  refine lv_iload_n hx hb dX10_isSoundNow_162 rfl (lv_at hl 0 rfl) ?_
                  refine lv_if_eq (tgt := 195) hx hb dX10_isSoundNow_163 (by decide) (fun c181 => ?_) (fun c181 => ?_)
                  · replace hR := ifp c181 hR
                    refine lv_iconst (v := 0) hx hb dX10_isSoundNow_195 (by decide) ?_
                    replace hB : Bd κ A s (lA κ b6 ((r (2 * 0 + 1)) * 5) F11 :: gO g5 (r (2 * 0 + 1)) (r (2 * 0 + 1)) b6 :: lA κ b8 ((r (2 * 0)) * 5) F12 :: gO g7 (r (2 * 0)) (r (2 * 0)) b8 :: lA κ b10 ((r (2 * 0)) * 5) F13 :: gO g9 (r (2 * 0)) (r (2 * 0 + 1)) b10 :: mw κ a r f q (tb a) w) H locs := Bd_del 6 hB
                    replace hB : Bd κ A s (lA κ b6 ((r (2 * 0 + 1)) * 5) F11 :: gO g5 (r (2 * 0 + 1)) (r (2 * 0 + 1)) b6 :: lA κ b8 ((r (2 * 0)) * 5) F12 :: gO g7 (r (2 * 0)) (r (2 * 0)) b8 :: lA κ b10 ((r (2 * 0)) * 5) F13 :: mw κ a r f q (tb a) w) H locs := Bd_del 5 hB
                    replace hB : Bd κ A s (lA κ b6 ((r (2 * 0 + 1)) * 5) F11 :: gO g5 (r (2 * 0 + 1)) (r (2 * 0 + 1)) b6 :: lA κ b8 ((r (2 * 0)) * 5) F12 :: gO g7 (r (2 * 0)) (r (2 * 0)) b8 :: mw κ a r f q (tb a) w) H locs := Bd_del 4 hB
                    replace hB : Bd κ A s (lA κ b6 ((r (2 * 0 + 1)) * 5) F11 :: gO g5 (r (2 * 0 + 1)) (r (2 * 0 + 1)) b6 :: lA κ b8 ((r (2 * 0)) * 5) F12 :: mw κ a r f q (tb a) w) H locs := Bd_del 3 hB
                    replace hB : Bd κ A s (lA κ b6 ((r (2 * 0 + 1)) * 5) F11 :: gO g5 (r (2 * 0 + 1)) (r (2 * 0 + 1)) b6 :: mw κ a r f q (tb a) w) H locs := Bd_del 2 hB
                    replace hB : Bd κ A s (lA κ b6 ((r (2 * 0 + 1)) * 5) F11 :: mw κ a r f q (tb a) w) H locs := Bd_del 1 hB
                    replace hB : Bd κ A s (mw κ a r f q (tb a) w) H locs := Bd_del 0 hB
                    rw [← hQ]
                    exact end_i hX hB hA3 rfl rfl (by obtain rfl := hR; exact ⟨rfl, (Or.inl rfl), rfl⟩) (Nat.le_of_ble_eq_true rfl) (Nat.le_of_ble_eq_true rfl) dX10_isSoundNow_196
                  · replace hR := ifn c181 hR
                    refine lv_aload_n hx hb dX10_isSoundNow_166 rfl (lv_at hl 4 rfl) ?_
                    refine gf (k0 := 2 + 2 * 0 + 7) hX hB (mwG (i := 0) (a := a) (r := r) (f := f) (q := q) (T := tb a) (w := w) (by omega)) rfl in7 0 (by decide) wm_5_148 rfl rfl dX10_isSoundNow_167 ?_
                    refine lv_aload_n hx hb dX10_isSoundNow_170 rfl (lv_at hl 4 rfl) ?_
                    refine gf (k0 := 2 + 2 * 0 + 7) hX hB (mwG (i := 0) (a := a) (r := r) (f := f) (q := q) (T := tb a) (w := w) (by omega)) rfl in7 1 (by decide) wm_5_152 rfl rfl dX10_isSoundNow_171 ?_
                    refine lv_icmp_ne (tgt := 191) hx hb dX10_isSoundNow_174 (by decide) (fun c182 => ?_) (fun c182 => ?_)
                    · rw [neqP (a := r (2 * 0)) (b := r (2 * 0 + 1)) (by omega) (by omega)] at c182
                      replace hR := ifn c182 hR
                      refine lv_iconst (v := 1) hx hb dX10_isSoundNow_191 (by decide) ?_
                      refine lv_goto (tgt := 196) hx hb dX10_isSoundNow_192 (by decide) ?_
                      replace hB : Bd κ A s (lA κ b6 ((r (2 * 0 + 1)) * 5) F11 :: gO g5 (r (2 * 0 + 1)) (r (2 * 0 + 1)) b6 :: lA κ b8 ((r (2 * 0)) * 5) F12 :: gO g7 (r (2 * 0)) (r (2 * 0)) b8 :: lA κ b10 ((r (2 * 0)) * 5) F13 :: gO g9 (r (2 * 0)) (r (2 * 0 + 1)) b10 :: mw κ a r f q (tb a) w) H locs := Bd_del 6 hB
                      replace hB : Bd κ A s (lA κ b6 ((r (2 * 0 + 1)) * 5) F11 :: gO g5 (r (2 * 0 + 1)) (r (2 * 0 + 1)) b6 :: lA κ b8 ((r (2 * 0)) * 5) F12 :: gO g7 (r (2 * 0)) (r (2 * 0)) b8 :: lA κ b10 ((r (2 * 0)) * 5) F13 :: mw κ a r f q (tb a) w) H locs := Bd_del 5 hB
                      replace hB : Bd κ A s (lA κ b6 ((r (2 * 0 + 1)) * 5) F11 :: gO g5 (r (2 * 0 + 1)) (r (2 * 0 + 1)) b6 :: lA κ b8 ((r (2 * 0)) * 5) F12 :: gO g7 (r (2 * 0)) (r (2 * 0)) b8 :: mw κ a r f q (tb a) w) H locs := Bd_del 4 hB
                      replace hB : Bd κ A s (lA κ b6 ((r (2 * 0 + 1)) * 5) F11 :: gO g5 (r (2 * 0 + 1)) (r (2 * 0 + 1)) b6 :: lA κ b8 ((r (2 * 0)) * 5) F12 :: mw κ a r f q (tb a) w) H locs := Bd_del 3 hB
                      replace hB : Bd κ A s (lA κ b6 ((r (2 * 0 + 1)) * 5) F11 :: gO g5 (r (2 * 0 + 1)) (r (2 * 0 + 1)) b6 :: mw κ a r f q (tb a) w) H locs := Bd_del 2 hB
                      replace hB : Bd κ A s (lA κ b6 ((r (2 * 0 + 1)) * 5) F11 :: mw κ a r f q (tb a) w) H locs := Bd_del 1 hB
                      replace hB : Bd κ A s (mw κ a r f q (tb a) w) H locs := Bd_del 0 hB
                      rw [← hQ]
                      exact end_i hX hB hA3 rfl rfl (by obtain rfl := hR; exact ⟨rfl, (Or.inr rfl), rfl⟩) (Nat.le_of_ble_eq_true rfl) (Nat.le_of_ble_eq_true rfl) dX10_isSoundNow_196
                    · rw [neqP (a := r (2 * 0)) (b := r (2 * 0 + 1)) (by omega) (by omega)] at c182
                      replace hR := ifp c182 hR
                      refine lv_aload_n hx hb dX10_isSoundNow_177 rfl (lv_at hl 4 rfl) ?_
                      refine call_S (n := 1) (As := [.ref (a (2 + 2 * 0))]) (rest := []) hX hB (k_X10_determinantOf κ l (lA κ b6 ((r (2 * 0 + 1)) * 5) F11 :: gO g5 (r (2 * 0 + 1)) (r (2 * 0 + 1)) b6 :: lA κ b8 ((r (2 * 0)) * 5) F12 :: gO g7 (r (2 * 0)) (r (2 * 0)) b8 :: lA κ b10 ((r (2 * 0)) * 5) F13 :: gO g9 (r (2 * 0)) (r (2 * 0 + 1)) b10 :: (q4, .inr (10, [.ref g9, .ref g7, .ref g5, .int S14, .int S15, .int (nI K16), .int G17])) :: mw κ a r f q (tb a) w) (2 + 2 * 0 + 7) (3 + 2 * 0 + 7) (a (2 + 2 * 0)) (a (3 + 2 * 0)) (r (2 * 0)) (r (2 * 0 + 1)) (f 0) (mwG (i := 0) (a := a) (r := r) (f := f) (q := q) (T := tb a) (w := w) (by omega)) (mwA (i := 0) (a := a) (r := r) (f := f) (q := q) (T := tb a) (w := w) (by omega)) (mok_shp (i := 0) hm (by omega)) (by omega)) yk_X10_determinantOf wm_7_76 wm_7_77 wm_1_6 wm_7_78 ⟨Nat.le_of_ble_eq_true rfl, Nat.le_of_ble_eq_true rfl⟩ ⟨Nat.le_of_ble_eq_true rfl, Nat.le_of_ble_eq_true rfl⟩ rfl hl.1 rfl (Nat.le_of_ble_eq_true rfl) dX10_isSoundNow_178 (fun o w' H locs hp hB => ?_)
                      obtain ⟨rfl, hw9⟩ := hp
                      replace hB : Bd κ A s (lA κ b6 ((r (2 * 0 + 1)) * 5) F11 :: gO g5 (r (2 * 0 + 1)) (r (2 * 0 + 1)) b6 :: lA κ b8 ((r (2 * 0)) * 5) F12 :: gO g7 (r (2 * 0)) (r (2 * 0)) b8 :: lA κ b10 ((r (2 * 0)) * 5) F13 :: gO g9 (r (2 * 0)) (r (2 * 0 + 1)) b10 :: (q4, .inr (10, [.ref g9, .ref g7, .ref g5, .int S14, .int S15, .int (nI K16), .int G17])) :: mw κ a r f q (tb a) w) H locs := by rw [hw9] at hB; exact hB
                      refine W.eq (g2 := F0 m 181 ls [.long (mnv (f 0) (r (2 * 0 + 1)) (r (2 * 0)) (2 ^ (r (2 * 0)) - 1) (2 ^ (r (2 * 0 + 1)) - 1))]) rfl ?_
                      refine lv_aload_n hx hb dX10_isSoundNow_181 rfl (lv_at hl 4 rfl) ?_
                      refine lv_iconst (v := 0) hx hb dX10_isSoundNow_182 (by decide) ?_
                      refine lv_iconst (v := 0) hx hb dX10_isSoundNow_183 (by decide) ?_
                      refine call_S (n := 3) (As := [.ref (a (2 + 2 * 0)), .int 0, .int 0]) (rest := [.long (mnv (f 0) (r (2 * 0 + 1)) (r (2 * 0)) (2 ^ (r (2 * 0)) - 1) (2 ^ (r (2 * 0 + 1)) - 1))]) hX hB (k_X10_bySequences κ l (lA κ b6 ((r (2 * 0 + 1)) * 5) F11 :: gO g5 (r (2 * 0 + 1)) (r (2 * 0 + 1)) b6 :: lA κ b8 ((r (2 * 0)) * 5) F12 :: gO g7 (r (2 * 0)) (r (2 * 0)) b8 :: lA κ b10 ((r (2 * 0)) * 5) F13 :: gO g9 (r (2 * 0)) (r (2 * 0 + 1)) b10 :: (q4, .inr (10, [.ref g9, .ref g7, .ref g5, .int S14, .int S15, .int (nI K16), .int G17])) :: mw κ a r f q (tb a) w) (2 + 2 * 0 + 7) (3 + 2 * 0 + 7) (a (2 + 2 * 0)) (a (3 + 2 * 0)) (r (2 * 0)) (r (2 * 0 + 1)) (f 0) 0 0 0 (mwG (i := 0) (a := a) (r := r) (f := f) (q := q) (T := tb a) (w := w) (by omega)) (mwA (i := 0) (a := a) (r := r) (f := f) (q := q) (T := tb a) (w := w) (by omega)) (mok_shp (i := 0) hm (by omega)) rfl (by omega)) yk_X10_bySequences wm_7_88 wm_7_89 wm_1_6 wm_7_90 ⟨Nat.le_of_ble_eq_true rfl, Nat.le_of_ble_eq_true rfl⟩ ⟨Nat.le_of_ble_eq_true rfl, Nat.le_of_ble_eq_true rfl⟩ rfl hl.1 rfl (Nat.le_of_ble_eq_true rfl) dX10_isSoundNow_184 (fun o w' H locs hp hB => ?_)
                      obtain ⟨rfl, hw9⟩ := hp
                      replace hB : Bd κ A s (lA κ b6 ((r (2 * 0 + 1)) * 5) F11 :: gO g5 (r (2 * 0 + 1)) (r (2 * 0 + 1)) b6 :: lA κ b8 ((r (2 * 0)) * 5) F12 :: gO g7 (r (2 * 0)) (r (2 * 0)) b8 :: lA κ b10 ((r (2 * 0)) * 5) F13 :: gO g9 (r (2 * 0)) (r (2 * 0 + 1)) b10 :: (q4, .inr (10, [.ref g9, .ref g7, .ref g5, .int S14, .int S15, .int (nI K16), .int G17])) :: mw κ a r f q (tb a) w) H locs := by rw [hw9] at hB; exact hB
                      refine W.eq (g2 := F0 m 187 ls [.long (bsv (r (2 * 0)) (r (2 * 0 + 1)) (f 0) 4 0 0), .long (mnv (f 0) (r (2 * 0 + 1)) (r (2 * 0)) (2 ^ (r (2 * 0)) - 1) (2 ^ (r (2 * 0 + 1)) - 1))]) rfl ?_
                      refine W.lcmp hx hb dX10_isSoundNow_187 ?_
                      refine lv_if_ne (tgt := 195) hx hb dX10_isSoundNow_188 (by decide) (fun c183 => ?_) (fun c183 => ?_)
                      · replace hR := ifn c183 hR
                        refine lv_iconst (v := 0) hx hb dX10_isSoundNow_195 (by decide) ?_
                        replace hB : Bd κ A s (lA κ b6 ((r (2 * 0 + 1)) * 5) F11 :: gO g5 (r (2 * 0 + 1)) (r (2 * 0 + 1)) b6 :: lA κ b8 ((r (2 * 0)) * 5) F12 :: gO g7 (r (2 * 0)) (r (2 * 0)) b8 :: lA κ b10 ((r (2 * 0)) * 5) F13 :: gO g9 (r (2 * 0)) (r (2 * 0 + 1)) b10 :: mw κ a r f q (tb a) w) H locs := Bd_del 6 hB
                        replace hB : Bd κ A s (lA κ b6 ((r (2 * 0 + 1)) * 5) F11 :: gO g5 (r (2 * 0 + 1)) (r (2 * 0 + 1)) b6 :: lA κ b8 ((r (2 * 0)) * 5) F12 :: gO g7 (r (2 * 0)) (r (2 * 0)) b8 :: lA κ b10 ((r (2 * 0)) * 5) F13 :: mw κ a r f q (tb a) w) H locs := Bd_del 5 hB
                        replace hB : Bd κ A s (lA κ b6 ((r (2 * 0 + 1)) * 5) F11 :: gO g5 (r (2 * 0 + 1)) (r (2 * 0 + 1)) b6 :: lA κ b8 ((r (2 * 0)) * 5) F12 :: gO g7 (r (2 * 0)) (r (2 * 0)) b8 :: mw κ a r f q (tb a) w) H locs := Bd_del 4 hB
                        replace hB : Bd κ A s (lA κ b6 ((r (2 * 0 + 1)) * 5) F11 :: gO g5 (r (2 * 0 + 1)) (r (2 * 0 + 1)) b6 :: lA κ b8 ((r (2 * 0)) * 5) F12 :: mw κ a r f q (tb a) w) H locs := Bd_del 3 hB
                        replace hB : Bd κ A s (lA κ b6 ((r (2 * 0 + 1)) * 5) F11 :: gO g5 (r (2 * 0 + 1)) (r (2 * 0 + 1)) b6 :: mw κ a r f q (tb a) w) H locs := Bd_del 2 hB
                        replace hB : Bd κ A s (lA κ b6 ((r (2 * 0 + 1)) * 5) F11 :: mw κ a r f q (tb a) w) H locs := Bd_del 1 hB
                        replace hB : Bd κ A s (mw κ a r f q (tb a) w) H locs := Bd_del 0 hB
                        rw [← hQ]
                        exact end_i hX hB hA3 rfl rfl (by obtain rfl := hR; exact ⟨rfl, (Or.inl rfl), rfl⟩) (Nat.le_of_ble_eq_true rfl) (Nat.le_of_ble_eq_true rfl) dX10_isSoundNow_196
                      · replace hR := ifp c183 hR
                        refine lv_iconst (v := 1) hx hb dX10_isSoundNow_191 (by decide) ?_
                        refine lv_goto (tgt := 196) hx hb dX10_isSoundNow_192 (by decide) ?_
                        replace hB : Bd κ A s (lA κ b6 ((r (2 * 0 + 1)) * 5) F11 :: gO g5 (r (2 * 0 + 1)) (r (2 * 0 + 1)) b6 :: lA κ b8 ((r (2 * 0)) * 5) F12 :: gO g7 (r (2 * 0)) (r (2 * 0)) b8 :: lA κ b10 ((r (2 * 0)) * 5) F13 :: gO g9 (r (2 * 0)) (r (2 * 0 + 1)) b10 :: mw κ a r f q (tb a) w) H locs := Bd_del 6 hB
                        replace hB : Bd κ A s (lA κ b6 ((r (2 * 0 + 1)) * 5) F11 :: gO g5 (r (2 * 0 + 1)) (r (2 * 0 + 1)) b6 :: lA κ b8 ((r (2 * 0)) * 5) F12 :: gO g7 (r (2 * 0)) (r (2 * 0)) b8 :: lA κ b10 ((r (2 * 0)) * 5) F13 :: mw κ a r f q (tb a) w) H locs := Bd_del 5 hB
                        replace hB : Bd κ A s (lA κ b6 ((r (2 * 0 + 1)) * 5) F11 :: gO g5 (r (2 * 0 + 1)) (r (2 * 0 + 1)) b6 :: lA κ b8 ((r (2 * 0)) * 5) F12 :: gO g7 (r (2 * 0)) (r (2 * 0)) b8 :: mw κ a r f q (tb a) w) H locs := Bd_del 4 hB
                        replace hB : Bd κ A s (lA κ b6 ((r (2 * 0 + 1)) * 5) F11 :: gO g5 (r (2 * 0 + 1)) (r (2 * 0 + 1)) b6 :: lA κ b8 ((r (2 * 0)) * 5) F12 :: mw κ a r f q (tb a) w) H locs := Bd_del 3 hB
                        replace hB : Bd κ A s (lA κ b6 ((r (2 * 0 + 1)) * 5) F11 :: gO g5 (r (2 * 0 + 1)) (r (2 * 0 + 1)) b6 :: mw κ a r f q (tb a) w) H locs := Bd_del 2 hB
                        replace hB : Bd κ A s (lA κ b6 ((r (2 * 0 + 1)) * 5) F11 :: mw κ a r f q (tb a) w) H locs := Bd_del 1 hB
                        replace hB : Bd κ A s (mw κ a r f q (tb a) w) H locs := Bd_del 0 hB
                        rw [← hQ]
                        exact end_i hX hB hA3 rfl rfl (by obtain rfl := hR; exact ⟨rfl, (Or.inr rfl), rfl⟩) (Nat.le_of_ble_eq_true rfl) (Nat.le_of_ble_eq_true rfl) dX10_isSoundNow_196
                · replace hR := ifp c180 hR
                  refine lv_aload_n hx hb dX10_isSoundNow_130 rfl (lv_at hl 3 rfl) ?_
                  refine gf (k0 := 6) hX hB rfl rfl in9 1 (by decide) wm_6_224 rfl rfl dX10_isSoundNow_131 ?_
                  refine lv_aload_n hx hb dX10_isSoundNow_134 rfl (lv_at hl 4 rfl) ?_
                  obtain ⟨F186, hd187⟩ := ex1 (D_X7_product (r (2 * 0)) (r (2 * 0)) F12 (r (2 * 0)) (r (2 * 0 + 1)) (f 0))
                  replace hR := bnd1_use hd187 hR
                  refine call_V (n := 1) (k0 := 3) (As := [.ref (a (2 + 2 * 0))]) (rest := [.int y3_42]) hX hB (k_X7_product κ l (lA κ b6 ((r (2 * 0 + 1)) * 5) F11 :: gO g5 (r (2 * 0 + 1)) (r (2 * 0 + 1)) b6 :: lA κ b8 ((r (2 * 0)) * 5) F12 :: gO g7 (r (2 * 0)) (r (2 * 0)) b8 :: lA κ b10 ((r (2 * 0)) * 5) F13 :: gO g9 (r (2 * 0)) (r (2 * 0 + 1)) b10 :: (q4, .inr (10, [.ref g9, .ref g7, .ref g5, .int S14, .int S15, .int (nI K16), .int G17])) :: mw κ a r f q (tb a) w) 3 2 g7 b8 (r (2 * 0)) (r (2 * 0)) F12 (2 + 2 * 0 + 7) (3 + 2 * 0 + 7) (a (2 + 2 * 0)) (a (3 + 2 * 0)) (r (2 * 0)) (r (2 * 0 + 1)) (f 0) rfl rfl ⟨by omega, by omega, by omega, by omega⟩ (mwG (i := 0) (a := a) (r := r) (f := f) (q := q) (T := tb a) (w := w) (by omega)) (mwA (i := 0) (a := a) (r := r) (f := f) (q := q) (T := tb a) (w := w) (by omega)) (mok_shp (i := 0) hm (by omega)) (by omega) F186 hd187) ⟨rfl, yk_X7_product⟩ wm_6_116 wm_6_117 wm_6_118 wm_1_7 wm_6_119 ⟨Nat.le_of_ble_eq_true rfl, Nat.le_of_ble_eq_true rfl⟩ ⟨Nat.le_of_ble_eq_true rfl, Nat.le_of_ble_eq_true rfl⟩ rfl rfl rfl rfl hl.1 rfl (Nat.le_of_ble_eq_true rfl) dX10_isSoundNow_135 (fun o w' H locs hp hB => ?_)
                  obtain ⟨q184, q185, rfl, hw9⟩ := hp
                  replace hB : Bd κ A s (lA κ q185 ((r (2 * 0)) * 5) F186 :: gO q184 (r (2 * 0)) (r (2 * 0 + 1)) q185 :: lA κ b6 ((r (2 * 0 + 1)) * 5) F11 :: gO g5 (r (2 * 0 + 1)) (r (2 * 0 + 1)) b6 :: lA κ b8 ((r (2 * 0)) * 5) F12 :: gO g7 (r (2 * 0)) (r (2 * 0)) b8 :: lA κ b10 ((r (2 * 0)) * 5) F13 :: gO g9 (r (2 * 0)) (r (2 * 0 + 1)) b10 :: (q4, .inr (10, [.ref g9, .ref g7, .ref g5, .int S14, .int S15, .int (nI K16), .int G17])) :: mw κ a r f q (tb a) w) H locs := by rw [hw9] at hB; exact hB
                  refine W.eq (g2 := F0 m 138 ls [.ref q184, .int y3_42]) rfl ?_
                  refine lv_aload_n hx hb dX10_isSoundNow_138 rfl (lv_at hl 3 rfl) ?_
                  refine gf (k0 := 8) hX hB rfl rfl in9 2 (by decide) wm_6_226 rfl rfl dX10_isSoundNow_139 ?_
                  obtain ⟨F190, hd191⟩ := ex1 (D_X7_product (r (2 * 0)) (r (2 * 0 + 1)) F186 (r (2 * 0 + 1)) (r (2 * 0 + 1)) F11)
                  replace hR := bnd1_use hd191 hR
                  refine call_V (n := 1) (k0 := 1) (As := [.ref g5]) (rest := [.int y3_42]) hX hB (k_X7_product κ l (lA κ q185 ((r (2 * 0)) * 5) F186 :: gO q184 (r (2 * 0)) (r (2 * 0 + 1)) q185 :: lA κ b6 ((r (2 * 0 + 1)) * 5) F11 :: gO g5 (r (2 * 0 + 1)) (r (2 * 0 + 1)) b6 :: lA κ b8 ((r (2 * 0)) * 5) F12 :: gO g7 (r (2 * 0)) (r (2 * 0)) b8 :: lA κ b10 ((r (2 * 0)) * 5) F13 :: gO g9 (r (2 * 0)) (r (2 * 0 + 1)) b10 :: (q4, .inr (10, [.ref g9, .ref g7, .ref g5, .int S14, .int S15, .int (nI K16), .int G17])) :: mw κ a r f q (tb a) w) 1 0 q184 q185 (r (2 * 0)) (r (2 * 0 + 1)) F186 3 2 g5 b6 (r (2 * 0 + 1)) (r (2 * 0 + 1)) F11 rfl rfl ⟨by omega, by omega, by omega, by omega⟩ rfl rfl ⟨by omega, by omega, by omega, by omega⟩ (by omega) F190 hd191) ⟨rfl, yk_X7_product⟩ wm_6_116 wm_6_117 wm_6_118 wm_1_7 wm_6_119 ⟨Nat.le_of_ble_eq_true rfl, Nat.le_of_ble_eq_true rfl⟩ ⟨Nat.le_of_ble_eq_true rfl, Nat.le_of_ble_eq_true rfl⟩ rfl rfl rfl rfl hl.1 rfl (Nat.le_of_ble_eq_true rfl) dX10_isSoundNow_142 (fun o w' H locs hp hB => ?_)
                  obtain ⟨q188, q189, rfl, hw9⟩ := hp
                  replace hB : Bd κ A s (lA κ q189 ((r (2 * 0)) * 5) F190 :: gO q188 (r (2 * 0)) (r (2 * 0 + 1)) q189 :: lA κ q185 ((r (2 * 0)) * 5) F186 :: gO q184 (r (2 * 0)) (r (2 * 0 + 1)) q185 :: lA κ b6 ((r (2 * 0 + 1)) * 5) F11 :: gO g5 (r (2 * 0 + 1)) (r (2 * 0 + 1)) b6 :: lA κ b8 ((r (2 * 0)) * 5) F12 :: gO g7 (r (2 * 0)) (r (2 * 0)) b8 :: lA κ b10 ((r (2 * 0)) * 5) F13 :: gO g9 (r (2 * 0)) (r (2 * 0 + 1)) b10 :: (q4, .inr (10, [.ref g9, .ref g7, .ref g5, .int S14, .int S15, .int (nI K16), .int G17])) :: mw κ a r f q (tb a) w) H locs := by rw [hw9] at hB; exact hB
                  refine W.eq (g2 := F0 m 145 ls [.ref q188, .int y3_42]) rfl ?_
                  refine lv_aload_n hx hb dX10_isSoundNow_145 rfl (lv_at hl 3 rfl) ?_
                  refine gf (k0 := 10) hX hB rfl rfl in9 0 (by decide) wm_6_222 rfl rfl dX10_isSoundNow_146 ?_
                  obtain ⟨x192, hd193⟩ := ex1 (D_X7_isSame (r (2 * 0)) (r (2 * 0 + 1)) F190 (r (2 * 0)) (r (2 * 0 + 1)) F13)
                  replace hR := bnd1_use hd193 hR
                  refine call_V (n := 1) (k0 := 1) (As := [.ref g9]) (rest := [.int y3_42]) hX hB (k_X7_isSame κ l (lA κ q189 ((r (2 * 0)) * 5) F190 :: gO q188 (r (2 * 0)) (r (2 * 0 + 1)) q189 :: lA κ q185 ((r (2 * 0)) * 5) F186 :: gO q184 (r (2 * 0)) (r (2 * 0 + 1)) q185 :: lA κ b6 ((r (2 * 0 + 1)) * 5) F11 :: gO g5 (r (2 * 0 + 1)) (r (2 * 0 + 1)) b6 :: lA κ b8 ((r (2 * 0)) * 5) F12 :: gO g7 (r (2 * 0)) (r (2 * 0)) b8 :: lA κ b10 ((r (2 * 0)) * 5) F13 :: gO g9 (r (2 * 0)) (r (2 * 0 + 1)) b10 :: (q4, .inr (10, [.ref g9, .ref g7, .ref g5, .int S14, .int S15, .int (nI K16), .int G17])) :: mw κ a r f q (tb a) w) 1 0 q188 q189 (r (2 * 0)) (r (2 * 0 + 1)) F190 9 8 g9 b10 (r (2 * 0)) (r (2 * 0 + 1)) F13 rfl rfl ⟨by omega, by omega, by omega, by omega⟩ rfl rfl (mok_shp (i := 0) hm (by omega)) x192 hd193) ⟨rfl, yk_X7_isSame⟩ wm_6_19 wm_6_20 wm_6_21 wm_1_7 wm_6_22 ⟨Nat.le_of_ble_eq_true rfl, Nat.le_of_ble_eq_true rfl⟩ ⟨Nat.le_of_ble_eq_true rfl, Nat.le_of_ble_eq_true rfl⟩ rfl rfl rfl rfl hl.1 rfl (Nat.le_of_ble_eq_true rfl) dX10_isSoundNow_149 (fun o w' H locs hp hB => ?_)
                  obtain ⟨rfl, hf194, hw9⟩ := hp
                  replace hB : Bd κ A s (lA κ q189 ((r (2 * 0)) * 5) F190 :: gO q188 (r (2 * 0)) (r (2 * 0 + 1)) q189 :: lA κ q185 ((r (2 * 0)) * 5) F186 :: gO q184 (r (2 * 0)) (r (2 * 0 + 1)) q185 :: lA κ b6 ((r (2 * 0 + 1)) * 5) F11 :: gO g5 (r (2 * 0 + 1)) (r (2 * 0 + 1)) b6 :: lA κ b8 ((r (2 * 0)) * 5) F12 :: gO g7 (r (2 * 0)) (r (2 * 0)) b8 :: lA κ b10 ((r (2 * 0)) * 5) F13 :: gO g9 (r (2 * 0)) (r (2 * 0 + 1)) b10 :: (q4, .inr (10, [.ref g9, .ref g7, .ref g5, .int S14, .int S15, .int (nI K16), .int G17])) :: mw κ a r f q (tb a) w) H locs := by rw [hw9] at hB; exact hB
                  rcases hf194 with rfl | rfl
                  · replace hR := ifp rfl hR
                    refine W.eq (g2 := F0 m 152 ls [.int 0, .int y3_42]) rfl ?_
                    refine lv_if_eq (tgt := 159) hx hb dX10_isSoundNow_152 (by decide) (fun _ => ?_) (fun c195 => False.elim (by revert c195; decide))
                    refine lv_iconst (v := 0) hx hb dX10_isSoundNow_159 (by decide) ?_
                    refine lv_iand hx hb dX10_isSoundNow_160 ?_
                    refine lv_istore_n (lv' := [(3, .int (y3_42 &&& 0)), (6, .int (nI y6_42)), (4, .long y4_42), (2, .ref q4), (1, .ref (a (2 + 2 * 0))), (0, .ref (a 0))]) hx hb dX10_isSoundNow_161 rfl hl (by decide) rfl (fun ls hl => ?_)
                    refine lv_iload_n hx hb dX10_isSoundNow_162 rfl (lv_at hl 0 rfl) ?_
                    refine lv_if_eq (tgt := 195) hx hb dX10_isSoundNow_163 (by decide) (fun c196 => ?_) (fun c196 => ?_)
                    · replace hR := ifp c196 hR
                      refine lv_iconst (v := 0) hx hb dX10_isSoundNow_195 (by decide) ?_
                      replace hB : Bd κ A s (lA κ q189 ((r (2 * 0)) * 5) F190 :: gO q188 (r (2 * 0)) (r (2 * 0 + 1)) q189 :: lA κ q185 ((r (2 * 0)) * 5) F186 :: gO q184 (r (2 * 0)) (r (2 * 0 + 1)) q185 :: lA κ b6 ((r (2 * 0 + 1)) * 5) F11 :: gO g5 (r (2 * 0 + 1)) (r (2 * 0 + 1)) b6 :: lA κ b8 ((r (2 * 0)) * 5) F12 :: gO g7 (r (2 * 0)) (r (2 * 0)) b8 :: lA κ b10 ((r (2 * 0)) * 5) F13 :: gO g9 (r (2 * 0)) (r (2 * 0 + 1)) b10 :: mw κ a r f q (tb a) w) H locs := Bd_del 10 hB
                      replace hB : Bd κ A s (lA κ q189 ((r (2 * 0)) * 5) F190 :: gO q188 (r (2 * 0)) (r (2 * 0 + 1)) q189 :: lA κ q185 ((r (2 * 0)) * 5) F186 :: gO q184 (r (2 * 0)) (r (2 * 0 + 1)) q185 :: lA κ b6 ((r (2 * 0 + 1)) * 5) F11 :: gO g5 (r (2 * 0 + 1)) (r (2 * 0 + 1)) b6 :: lA κ b8 ((r (2 * 0)) * 5) F12 :: gO g7 (r (2 * 0)) (r (2 * 0)) b8 :: lA κ b10 ((r (2 * 0)) * 5) F13 :: mw κ a r f q (tb a) w) H locs := Bd_del 9 hB
                      replace hB : Bd κ A s (lA κ q189 ((r (2 * 0)) * 5) F190 :: gO q188 (r (2 * 0)) (r (2 * 0 + 1)) q189 :: lA κ q185 ((r (2 * 0)) * 5) F186 :: gO q184 (r (2 * 0)) (r (2 * 0 + 1)) q185 :: lA κ b6 ((r (2 * 0 + 1)) * 5) F11 :: gO g5 (r (2 * 0 + 1)) (r (2 * 0 + 1)) b6 :: lA κ b8 ((r (2 * 0)) * 5) F12 :: gO g7 (r (2 * 0)) (r (2 * 0)) b8 :: mw κ a r f q (tb a) w) H locs := Bd_del 8 hB
                      replace hB : Bd κ A s (lA κ q189 ((r (2 * 0)) * 5) F190 :: gO q188 (r (2 * 0)) (r (2 * 0 + 1)) q189 :: lA κ q185 ((r (2 * 0)) * 5) F186 :: gO q184 (r (2 * 0)) (r (2 * 0 + 1)) q185 :: lA κ b6 ((r (2 * 0 + 1)) * 5) F11 :: gO g5 (r (2 * 0 + 1)) (r (2 * 0 + 1)) b6 :: lA κ b8 ((r (2 * 0)) * 5) F12 :: mw κ a r f q (tb a) w) H locs := Bd_del 7 hB
                      replace hB : Bd κ A s (lA κ q189 ((r (2 * 0)) * 5) F190 :: gO q188 (r (2 * 0)) (r (2 * 0 + 1)) q189 :: lA κ q185 ((r (2 * 0)) * 5) F186 :: gO q184 (r (2 * 0)) (r (2 * 0 + 1)) q185 :: lA κ b6 ((r (2 * 0 + 1)) * 5) F11 :: gO g5 (r (2 * 0 + 1)) (r (2 * 0 + 1)) b6 :: mw κ a r f q (tb a) w) H locs := Bd_del 6 hB
                      replace hB : Bd κ A s (lA κ q189 ((r (2 * 0)) * 5) F190 :: gO q188 (r (2 * 0)) (r (2 * 0 + 1)) q189 :: lA κ q185 ((r (2 * 0)) * 5) F186 :: gO q184 (r (2 * 0)) (r (2 * 0 + 1)) q185 :: lA κ b6 ((r (2 * 0 + 1)) * 5) F11 :: mw κ a r f q (tb a) w) H locs := Bd_del 5 hB
                      replace hB : Bd κ A s (lA κ q189 ((r (2 * 0)) * 5) F190 :: gO q188 (r (2 * 0)) (r (2 * 0 + 1)) q189 :: lA κ q185 ((r (2 * 0)) * 5) F186 :: gO q184 (r (2 * 0)) (r (2 * 0 + 1)) q185 :: mw κ a r f q (tb a) w) H locs := Bd_del 4 hB
                      replace hB : Bd κ A s (lA κ q189 ((r (2 * 0)) * 5) F190 :: gO q188 (r (2 * 0)) (r (2 * 0 + 1)) q189 :: lA κ q185 ((r (2 * 0)) * 5) F186 :: mw κ a r f q (tb a) w) H locs := Bd_del 3 hB
                      replace hB : Bd κ A s (lA κ q189 ((r (2 * 0)) * 5) F190 :: gO q188 (r (2 * 0)) (r (2 * 0 + 1)) q189 :: mw κ a r f q (tb a) w) H locs := Bd_del 2 hB
                      replace hB : Bd κ A s (lA κ q189 ((r (2 * 0)) * 5) F190 :: mw κ a r f q (tb a) w) H locs := Bd_del 1 hB
                      replace hB : Bd κ A s (mw κ a r f q (tb a) w) H locs := Bd_del 0 hB
                      rw [← hQ]
                      exact end_i hX hB hA3 rfl rfl (by obtain rfl := hR; exact ⟨rfl, (Or.inl rfl), rfl⟩) (Nat.le_of_ble_eq_true rfl) (Nat.le_of_ble_eq_true rfl) dX10_isSoundNow_196
                    · replace hR := ifn c196 hR
                      refine lv_aload_n hx hb dX10_isSoundNow_166 rfl (lv_at hl 4 rfl) ?_
                      refine gf (k0 := 2 + 2 * 0 + 11) hX hB (mwG (i := 0) (a := a) (r := r) (f := f) (q := q) (T := tb a) (w := w) (by omega)) rfl in7 0 (by decide) wm_5_148 rfl rfl dX10_isSoundNow_167 ?_
                      refine lv_aload_n hx hb dX10_isSoundNow_170 rfl (lv_at hl 4 rfl) ?_
                      refine gf (k0 := 2 + 2 * 0 + 11) hX hB (mwG (i := 0) (a := a) (r := r) (f := f) (q := q) (T := tb a) (w := w) (by omega)) rfl in7 1 (by decide) wm_5_152 rfl rfl dX10_isSoundNow_171 ?_
                      refine lv_icmp_ne (tgt := 191) hx hb dX10_isSoundNow_174 (by decide) (fun c197 => ?_) (fun c197 => ?_)
                      · rw [neqP (a := r (2 * 0)) (b := r (2 * 0 + 1)) (by omega) (by omega)] at c197
                        replace hR := ifn c197 hR
                        refine lv_iconst (v := 1) hx hb dX10_isSoundNow_191 (by decide) ?_
                        refine lv_goto (tgt := 196) hx hb dX10_isSoundNow_192 (by decide) ?_
                        replace hB : Bd κ A s (lA κ q189 ((r (2 * 0)) * 5) F190 :: gO q188 (r (2 * 0)) (r (2 * 0 + 1)) q189 :: lA κ q185 ((r (2 * 0)) * 5) F186 :: gO q184 (r (2 * 0)) (r (2 * 0 + 1)) q185 :: lA κ b6 ((r (2 * 0 + 1)) * 5) F11 :: gO g5 (r (2 * 0 + 1)) (r (2 * 0 + 1)) b6 :: lA κ b8 ((r (2 * 0)) * 5) F12 :: gO g7 (r (2 * 0)) (r (2 * 0)) b8 :: lA κ b10 ((r (2 * 0)) * 5) F13 :: gO g9 (r (2 * 0)) (r (2 * 0 + 1)) b10 :: mw κ a r f q (tb a) w) H locs := Bd_del 10 hB
                        replace hB : Bd κ A s (lA κ q189 ((r (2 * 0)) * 5) F190 :: gO q188 (r (2 * 0)) (r (2 * 0 + 1)) q189 :: lA κ q185 ((r (2 * 0)) * 5) F186 :: gO q184 (r (2 * 0)) (r (2 * 0 + 1)) q185 :: lA κ b6 ((r (2 * 0 + 1)) * 5) F11 :: gO g5 (r (2 * 0 + 1)) (r (2 * 0 + 1)) b6 :: lA κ b8 ((r (2 * 0)) * 5) F12 :: gO g7 (r (2 * 0)) (r (2 * 0)) b8 :: lA κ b10 ((r (2 * 0)) * 5) F13 :: mw κ a r f q (tb a) w) H locs := Bd_del 9 hB
                        replace hB : Bd κ A s (lA κ q189 ((r (2 * 0)) * 5) F190 :: gO q188 (r (2 * 0)) (r (2 * 0 + 1)) q189 :: lA κ q185 ((r (2 * 0)) * 5) F186 :: gO q184 (r (2 * 0)) (r (2 * 0 + 1)) q185 :: lA κ b6 ((r (2 * 0 + 1)) * 5) F11 :: gO g5 (r (2 * 0 + 1)) (r (2 * 0 + 1)) b6 :: lA κ b8 ((r (2 * 0)) * 5) F12 :: gO g7 (r (2 * 0)) (r (2 * 0)) b8 :: mw κ a r f q (tb a) w) H locs := Bd_del 8 hB
                        replace hB : Bd κ A s (lA κ q189 ((r (2 * 0)) * 5) F190 :: gO q188 (r (2 * 0)) (r (2 * 0 + 1)) q189 :: lA κ q185 ((r (2 * 0)) * 5) F186 :: gO q184 (r (2 * 0)) (r (2 * 0 + 1)) q185 :: lA κ b6 ((r (2 * 0 + 1)) * 5) F11 :: gO g5 (r (2 * 0 + 1)) (r (2 * 0 + 1)) b6 :: lA κ b8 ((r (2 * 0)) * 5) F12 :: mw κ a r f q (tb a) w) H locs := Bd_del 7 hB
                        replace hB : Bd κ A s (lA κ q189 ((r (2 * 0)) * 5) F190 :: gO q188 (r (2 * 0)) (r (2 * 0 + 1)) q189 :: lA κ q185 ((r (2 * 0)) * 5) F186 :: gO q184 (r (2 * 0)) (r (2 * 0 + 1)) q185 :: lA κ b6 ((r (2 * 0 + 1)) * 5) F11 :: gO g5 (r (2 * 0 + 1)) (r (2 * 0 + 1)) b6 :: mw κ a r f q (tb a) w) H locs := Bd_del 6 hB
                        replace hB : Bd κ A s (lA κ q189 ((r (2 * 0)) * 5) F190 :: gO q188 (r (2 * 0)) (r (2 * 0 + 1)) q189 :: lA κ q185 ((r (2 * 0)) * 5) F186 :: gO q184 (r (2 * 0)) (r (2 * 0 + 1)) q185 :: lA κ b6 ((r (2 * 0 + 1)) * 5) F11 :: mw κ a r f q (tb a) w) H locs := Bd_del 5 hB
                        replace hB : Bd κ A s (lA κ q189 ((r (2 * 0)) * 5) F190 :: gO q188 (r (2 * 0)) (r (2 * 0 + 1)) q189 :: lA κ q185 ((r (2 * 0)) * 5) F186 :: gO q184 (r (2 * 0)) (r (2 * 0 + 1)) q185 :: mw κ a r f q (tb a) w) H locs := Bd_del 4 hB
                        replace hB : Bd κ A s (lA κ q189 ((r (2 * 0)) * 5) F190 :: gO q188 (r (2 * 0)) (r (2 * 0 + 1)) q189 :: lA κ q185 ((r (2 * 0)) * 5) F186 :: mw κ a r f q (tb a) w) H locs := Bd_del 3 hB
                        replace hB : Bd κ A s (lA κ q189 ((r (2 * 0)) * 5) F190 :: gO q188 (r (2 * 0)) (r (2 * 0 + 1)) q189 :: mw κ a r f q (tb a) w) H locs := Bd_del 2 hB
                        replace hB : Bd κ A s (lA κ q189 ((r (2 * 0)) * 5) F190 :: mw κ a r f q (tb a) w) H locs := Bd_del 1 hB
                        replace hB : Bd κ A s (mw κ a r f q (tb a) w) H locs := Bd_del 0 hB
                        rw [← hQ]
                        exact end_i hX hB hA3 rfl rfl (by obtain rfl := hR; exact ⟨rfl, (Or.inr rfl), rfl⟩) (Nat.le_of_ble_eq_true rfl) (Nat.le_of_ble_eq_true rfl) dX10_isSoundNow_196
                      · rw [neqP (a := r (2 * 0)) (b := r (2 * 0 + 1)) (by omega) (by omega)] at c197
                        replace hR := ifp c197 hR
                        refine lv_aload_n hx hb dX10_isSoundNow_177 rfl (lv_at hl 4 rfl) ?_
                        refine call_S (n := 1) (As := [.ref (a (2 + 2 * 0))]) (rest := []) hX hB (k_X10_determinantOf κ l (lA κ q189 ((r (2 * 0)) * 5) F190 :: gO q188 (r (2 * 0)) (r (2 * 0 + 1)) q189 :: lA κ q185 ((r (2 * 0)) * 5) F186 :: gO q184 (r (2 * 0)) (r (2 * 0 + 1)) q185 :: lA κ b6 ((r (2 * 0 + 1)) * 5) F11 :: gO g5 (r (2 * 0 + 1)) (r (2 * 0 + 1)) b6 :: lA κ b8 ((r (2 * 0)) * 5) F12 :: gO g7 (r (2 * 0)) (r (2 * 0)) b8 :: lA κ b10 ((r (2 * 0)) * 5) F13 :: gO g9 (r (2 * 0)) (r (2 * 0 + 1)) b10 :: (q4, .inr (10, [.ref g9, .ref g7, .ref g5, .int S14, .int S15, .int (nI K16), .int G17])) :: mw κ a r f q (tb a) w) (2 + 2 * 0 + 11) (3 + 2 * 0 + 11) (a (2 + 2 * 0)) (a (3 + 2 * 0)) (r (2 * 0)) (r (2 * 0 + 1)) (f 0) (mwG (i := 0) (a := a) (r := r) (f := f) (q := q) (T := tb a) (w := w) (by omega)) (mwA (i := 0) (a := a) (r := r) (f := f) (q := q) (T := tb a) (w := w) (by omega)) (mok_shp (i := 0) hm (by omega)) (by omega)) yk_X10_determinantOf wm_7_76 wm_7_77 wm_1_6 wm_7_78 ⟨Nat.le_of_ble_eq_true rfl, Nat.le_of_ble_eq_true rfl⟩ ⟨Nat.le_of_ble_eq_true rfl, Nat.le_of_ble_eq_true rfl⟩ rfl hl.1 rfl (Nat.le_of_ble_eq_true rfl) dX10_isSoundNow_178 (fun o w' H locs hp hB => ?_)
                        obtain ⟨rfl, hw9⟩ := hp
                        replace hB : Bd κ A s (lA κ q189 ((r (2 * 0)) * 5) F190 :: gO q188 (r (2 * 0)) (r (2 * 0 + 1)) q189 :: lA κ q185 ((r (2 * 0)) * 5) F186 :: gO q184 (r (2 * 0)) (r (2 * 0 + 1)) q185 :: lA κ b6 ((r (2 * 0 + 1)) * 5) F11 :: gO g5 (r (2 * 0 + 1)) (r (2 * 0 + 1)) b6 :: lA κ b8 ((r (2 * 0)) * 5) F12 :: gO g7 (r (2 * 0)) (r (2 * 0)) b8 :: lA κ b10 ((r (2 * 0)) * 5) F13 :: gO g9 (r (2 * 0)) (r (2 * 0 + 1)) b10 :: (q4, .inr (10, [.ref g9, .ref g7, .ref g5, .int S14, .int S15, .int (nI K16), .int G17])) :: mw κ a r f q (tb a) w) H locs := by rw [hw9] at hB; exact hB
                        refine W.eq (g2 := F0 m 181 ls [.long (mnv (f 0) (r (2 * 0 + 1)) (r (2 * 0)) (2 ^ (r (2 * 0)) - 1) (2 ^ (r (2 * 0 + 1)) - 1))]) rfl ?_
                        refine lv_aload_n hx hb dX10_isSoundNow_181 rfl (lv_at hl 4 rfl) ?_
                        refine lv_iconst (v := 0) hx hb dX10_isSoundNow_182 (by decide) ?_
                        refine lv_iconst (v := 0) hx hb dX10_isSoundNow_183 (by decide) ?_
                        refine call_S (n := 3) (As := [.ref (a (2 + 2 * 0)), .int 0, .int 0]) (rest := [.long (mnv (f 0) (r (2 * 0 + 1)) (r (2 * 0)) (2 ^ (r (2 * 0)) - 1) (2 ^ (r (2 * 0 + 1)) - 1))]) hX hB (k_X10_bySequences κ l (lA κ q189 ((r (2 * 0)) * 5) F190 :: gO q188 (r (2 * 0)) (r (2 * 0 + 1)) q189 :: lA κ q185 ((r (2 * 0)) * 5) F186 :: gO q184 (r (2 * 0)) (r (2 * 0 + 1)) q185 :: lA κ b6 ((r (2 * 0 + 1)) * 5) F11 :: gO g5 (r (2 * 0 + 1)) (r (2 * 0 + 1)) b6 :: lA κ b8 ((r (2 * 0)) * 5) F12 :: gO g7 (r (2 * 0)) (r (2 * 0)) b8 :: lA κ b10 ((r (2 * 0)) * 5) F13 :: gO g9 (r (2 * 0)) (r (2 * 0 + 1)) b10 :: (q4, .inr (10, [.ref g9, .ref g7, .ref g5, .int S14, .int S15, .int (nI K16), .int G17])) :: mw κ a r f q (tb a) w) (2 + 2 * 0 + 11) (3 + 2 * 0 + 11) (a (2 + 2 * 0)) (a (3 + 2 * 0)) (r (2 * 0)) (r (2 * 0 + 1)) (f 0) 0 0 0 (mwG (i := 0) (a := a) (r := r) (f := f) (q := q) (T := tb a) (w := w) (by omega)) (mwA (i := 0) (a := a) (r := r) (f := f) (q := q) (T := tb a) (w := w) (by omega)) (mok_shp (i := 0) hm (by omega)) rfl (by omega)) yk_X10_bySequences wm_7_88 wm_7_89 wm_1_6 wm_7_90 ⟨Nat.le_of_ble_eq_true rfl, Nat.le_of_ble_eq_true rfl⟩ ⟨Nat.le_of_ble_eq_true rfl, Nat.le_of_ble_eq_true rfl⟩ rfl hl.1 rfl (Nat.le_of_ble_eq_true rfl) dX10_isSoundNow_184 (fun o w' H locs hp hB => ?_)
                        obtain ⟨rfl, hw9⟩ := hp
                        replace hB : Bd κ A s (lA κ q189 ((r (2 * 0)) * 5) F190 :: gO q188 (r (2 * 0)) (r (2 * 0 + 1)) q189 :: lA κ q185 ((r (2 * 0)) * 5) F186 :: gO q184 (r (2 * 0)) (r (2 * 0 + 1)) q185 :: lA κ b6 ((r (2 * 0 + 1)) * 5) F11 :: gO g5 (r (2 * 0 + 1)) (r (2 * 0 + 1)) b6 :: lA κ b8 ((r (2 * 0)) * 5) F12 :: gO g7 (r (2 * 0)) (r (2 * 0)) b8 :: lA κ b10 ((r (2 * 0)) * 5) F13 :: gO g9 (r (2 * 0)) (r (2 * 0 + 1)) b10 :: (q4, .inr (10, [.ref g9, .ref g7, .ref g5, .int S14, .int S15, .int (nI K16), .int G17])) :: mw κ a r f q (tb a) w) H locs := by rw [hw9] at hB; exact hB
                        refine W.eq (g2 := F0 m 187 ls [.long (bsv (r (2 * 0)) (r (2 * 0 + 1)) (f 0) 4 0 0), .long (mnv (f 0) (r (2 * 0 + 1)) (r (2 * 0)) (2 ^ (r (2 * 0)) - 1) (2 ^ (r (2 * 0 + 1)) - 1))]) rfl ?_
                        refine W.lcmp hx hb dX10_isSoundNow_187 ?_
                        refine lv_if_ne (tgt := 195) hx hb dX10_isSoundNow_188 (by decide) (fun c198 => ?_) (fun c198 => ?_)
                        · replace hR := ifn c198 hR
                          refine lv_iconst (v := 0) hx hb dX10_isSoundNow_195 (by decide) ?_
                          replace hB : Bd κ A s (lA κ q189 ((r (2 * 0)) * 5) F190 :: gO q188 (r (2 * 0)) (r (2 * 0 + 1)) q189 :: lA κ q185 ((r (2 * 0)) * 5) F186 :: gO q184 (r (2 * 0)) (r (2 * 0 + 1)) q185 :: lA κ b6 ((r (2 * 0 + 1)) * 5) F11 :: gO g5 (r (2 * 0 + 1)) (r (2 * 0 + 1)) b6 :: lA κ b8 ((r (2 * 0)) * 5) F12 :: gO g7 (r (2 * 0)) (r (2 * 0)) b8 :: lA κ b10 ((r (2 * 0)) * 5) F13 :: gO g9 (r (2 * 0)) (r (2 * 0 + 1)) b10 :: mw κ a r f q (tb a) w) H locs := Bd_del 10 hB
                          replace hB : Bd κ A s (lA κ q189 ((r (2 * 0)) * 5) F190 :: gO q188 (r (2 * 0)) (r (2 * 0 + 1)) q189 :: lA κ q185 ((r (2 * 0)) * 5) F186 :: gO q184 (r (2 * 0)) (r (2 * 0 + 1)) q185 :: lA κ b6 ((r (2 * 0 + 1)) * 5) F11 :: gO g5 (r (2 * 0 + 1)) (r (2 * 0 + 1)) b6 :: lA κ b8 ((r (2 * 0)) * 5) F12 :: gO g7 (r (2 * 0)) (r (2 * 0)) b8 :: lA κ b10 ((r (2 * 0)) * 5) F13 :: mw κ a r f q (tb a) w) H locs := Bd_del 9 hB
                          replace hB : Bd κ A s (lA κ q189 ((r (2 * 0)) * 5) F190 :: gO q188 (r (2 * 0)) (r (2 * 0 + 1)) q189 :: lA κ q185 ((r (2 * 0)) * 5) F186 :: gO q184 (r (2 * 0)) (r (2 * 0 + 1)) q185 :: lA κ b6 ((r (2 * 0 + 1)) * 5) F11 :: gO g5 (r (2 * 0 + 1)) (r (2 * 0 + 1)) b6 :: lA κ b8 ((r (2 * 0)) * 5) F12 :: gO g7 (r (2 * 0)) (r (2 * 0)) b8 :: mw κ a r f q (tb a) w) H locs := Bd_del 8 hB
                          replace hB : Bd κ A s (lA κ q189 ((r (2 * 0)) * 5) F190 :: gO q188 (r (2 * 0)) (r (2 * 0 + 1)) q189 :: lA κ q185 ((r (2 * 0)) * 5) F186 :: gO q184 (r (2 * 0)) (r (2 * 0 + 1)) q185 :: lA κ b6 ((r (2 * 0 + 1)) * 5) F11 :: gO g5 (r (2 * 0 + 1)) (r (2 * 0 + 1)) b6 :: lA κ b8 ((r (2 * 0)) * 5) F12 :: mw κ a r f q (tb a) w) H locs := Bd_del 7 hB
                          replace hB : Bd κ A s (lA κ q189 ((r (2 * 0)) * 5) F190 :: gO q188 (r (2 * 0)) (r (2 * 0 + 1)) q189 :: lA κ q185 ((r (2 * 0)) * 5) F186 :: gO q184 (r (2 * 0)) (r (2 * 0 + 1)) q185 :: lA κ b6 ((r (2 * 0 + 1)) * 5) F11 :: gO g5 (r (2 * 0 + 1)) (r (2 * 0 + 1)) b6 :: mw κ a r f q (tb a) w) H locs := Bd_del 6 hB
                          replace hB : Bd κ A s (lA κ q189 ((r (2 * 0)) * 5) F190 :: gO q188 (r (2 * 0)) (r (2 * 0 + 1)) q189 :: lA κ q185 ((r (2 * 0)) * 5) F186 :: gO q184 (r (2 * 0)) (r (2 * 0 + 1)) q185 :: lA κ b6 ((r (2 * 0 + 1)) * 5) F11 :: mw κ a r f q (tb a) w) H locs := Bd_del 5 hB
                          replace hB : Bd κ A s (lA κ q189 ((r (2 * 0)) * 5) F190 :: gO q188 (r (2 * 0)) (r (2 * 0 + 1)) q189 :: lA κ q185 ((r (2 * 0)) * 5) F186 :: gO q184 (r (2 * 0)) (r (2 * 0 + 1)) q185 :: mw κ a r f q (tb a) w) H locs := Bd_del 4 hB
                          replace hB : Bd κ A s (lA κ q189 ((r (2 * 0)) * 5) F190 :: gO q188 (r (2 * 0)) (r (2 * 0 + 1)) q189 :: lA κ q185 ((r (2 * 0)) * 5) F186 :: mw κ a r f q (tb a) w) H locs := Bd_del 3 hB
                          replace hB : Bd κ A s (lA κ q189 ((r (2 * 0)) * 5) F190 :: gO q188 (r (2 * 0)) (r (2 * 0 + 1)) q189 :: mw κ a r f q (tb a) w) H locs := Bd_del 2 hB
                          replace hB : Bd κ A s (lA κ q189 ((r (2 * 0)) * 5) F190 :: mw κ a r f q (tb a) w) H locs := Bd_del 1 hB
                          replace hB : Bd κ A s (mw κ a r f q (tb a) w) H locs := Bd_del 0 hB
                          rw [← hQ]
                          exact end_i hX hB hA3 rfl rfl (by obtain rfl := hR; exact ⟨rfl, (Or.inl rfl), rfl⟩) (Nat.le_of_ble_eq_true rfl) (Nat.le_of_ble_eq_true rfl) dX10_isSoundNow_196
                        · replace hR := ifp c198 hR
                          refine lv_iconst (v := 1) hx hb dX10_isSoundNow_191 (by decide) ?_
                          refine lv_goto (tgt := 196) hx hb dX10_isSoundNow_192 (by decide) ?_
                          replace hB : Bd κ A s (lA κ q189 ((r (2 * 0)) * 5) F190 :: gO q188 (r (2 * 0)) (r (2 * 0 + 1)) q189 :: lA κ q185 ((r (2 * 0)) * 5) F186 :: gO q184 (r (2 * 0)) (r (2 * 0 + 1)) q185 :: lA κ b6 ((r (2 * 0 + 1)) * 5) F11 :: gO g5 (r (2 * 0 + 1)) (r (2 * 0 + 1)) b6 :: lA κ b8 ((r (2 * 0)) * 5) F12 :: gO g7 (r (2 * 0)) (r (2 * 0)) b8 :: lA κ b10 ((r (2 * 0)) * 5) F13 :: gO g9 (r (2 * 0)) (r (2 * 0 + 1)) b10 :: mw κ a r f q (tb a) w) H locs := Bd_del 10 hB
                          replace hB : Bd κ A s (lA κ q189 ((r (2 * 0)) * 5) F190 :: gO q188 (r (2 * 0)) (r (2 * 0 + 1)) q189 :: lA κ q185 ((r (2 * 0)) * 5) F186 :: gO q184 (r (2 * 0)) (r (2 * 0 + 1)) q185 :: lA κ b6 ((r (2 * 0 + 1)) * 5) F11 :: gO g5 (r (2 * 0 + 1)) (r (2 * 0 + 1)) b6 :: lA κ b8 ((r (2 * 0)) * 5) F12 :: gO g7 (r (2 * 0)) (r (2 * 0)) b8 :: lA κ b10 ((r (2 * 0)) * 5) F13 :: mw κ a r f q (tb a) w) H locs := Bd_del 9 hB
                          replace hB : Bd κ A s (lA κ q189 ((r (2 * 0)) * 5) F190 :: gO q188 (r (2 * 0)) (r (2 * 0 + 1)) q189 :: lA κ q185 ((r (2 * 0)) * 5) F186 :: gO q184 (r (2 * 0)) (r (2 * 0 + 1)) q185 :: lA κ b6 ((r (2 * 0 + 1)) * 5) F11 :: gO g5 (r (2 * 0 + 1)) (r (2 * 0 + 1)) b6 :: lA κ b8 ((r (2 * 0)) * 5) F12 :: gO g7 (r (2 * 0)) (r (2 * 0)) b8 :: mw κ a r f q (tb a) w) H locs := Bd_del 8 hB
                          replace hB : Bd κ A s (lA κ q189 ((r (2 * 0)) * 5) F190 :: gO q188 (r (2 * 0)) (r (2 * 0 + 1)) q189 :: lA κ q185 ((r (2 * 0)) * 5) F186 :: gO q184 (r (2 * 0)) (r (2 * 0 + 1)) q185 :: lA κ b6 ((r (2 * 0 + 1)) * 5) F11 :: gO g5 (r (2 * 0 + 1)) (r (2 * 0 + 1)) b6 :: lA κ b8 ((r (2 * 0)) * 5) F12 :: mw κ a r f q (tb a) w) H locs := Bd_del 7 hB
                          replace hB : Bd κ A s (lA κ q189 ((r (2 * 0)) * 5) F190 :: gO q188 (r (2 * 0)) (r (2 * 0 + 1)) q189 :: lA κ q185 ((r (2 * 0)) * 5) F186 :: gO q184 (r (2 * 0)) (r (2 * 0 + 1)) q185 :: lA κ b6 ((r (2 * 0 + 1)) * 5) F11 :: gO g5 (r (2 * 0 + 1)) (r (2 * 0 + 1)) b6 :: mw κ a r f q (tb a) w) H locs := Bd_del 6 hB
                          replace hB : Bd κ A s (lA κ q189 ((r (2 * 0)) * 5) F190 :: gO q188 (r (2 * 0)) (r (2 * 0 + 1)) q189 :: lA κ q185 ((r (2 * 0)) * 5) F186 :: gO q184 (r (2 * 0)) (r (2 * 0 + 1)) q185 :: lA κ b6 ((r (2 * 0 + 1)) * 5) F11 :: mw κ a r f q (tb a) w) H locs := Bd_del 5 hB
                          replace hB : Bd κ A s (lA κ q189 ((r (2 * 0)) * 5) F190 :: gO q188 (r (2 * 0)) (r (2 * 0 + 1)) q189 :: lA κ q185 ((r (2 * 0)) * 5) F186 :: gO q184 (r (2 * 0)) (r (2 * 0 + 1)) q185 :: mw κ a r f q (tb a) w) H locs := Bd_del 4 hB
                          replace hB : Bd κ A s (lA κ q189 ((r (2 * 0)) * 5) F190 :: gO q188 (r (2 * 0)) (r (2 * 0 + 1)) q189 :: lA κ q185 ((r (2 * 0)) * 5) F186 :: mw κ a r f q (tb a) w) H locs := Bd_del 3 hB
                          replace hB : Bd κ A s (lA κ q189 ((r (2 * 0)) * 5) F190 :: gO q188 (r (2 * 0)) (r (2 * 0 + 1)) q189 :: mw κ a r f q (tb a) w) H locs := Bd_del 2 hB
                          replace hB : Bd κ A s (lA κ q189 ((r (2 * 0)) * 5) F190 :: mw κ a r f q (tb a) w) H locs := Bd_del 1 hB
                          replace hB : Bd κ A s (mw κ a r f q (tb a) w) H locs := Bd_del 0 hB
                          rw [← hQ]
                          exact end_i hX hB hA3 rfl rfl (by obtain rfl := hR; exact ⟨rfl, (Or.inr rfl), rfl⟩) (Nat.le_of_ble_eq_true rfl) (Nat.le_of_ble_eq_true rfl) dX10_isSoundNow_196
                  · replace hR := ifn (by decide) hR
                    refine W.eq (g2 := F0 m 152 ls [.int 1, .int y3_42]) rfl ?_
                    refine lv_if_eq (tgt := 159) hx hb dX10_isSoundNow_152 (by decide) (fun c199 => False.elim (by revert c199; decide)) (fun _ => ?_)
                    refine lv_iconst (v := 1) hx hb dX10_isSoundNow_155 (by decide) ?_
                    refine lv_goto (tgt := 160) hx hb dX10_isSoundNow_156 (by decide) ?_
                    refine lv_iand hx hb dX10_isSoundNow_160 ?_
                    refine lv_istore_n (lv' := [(3, .int (y3_42 &&& 1)), (6, .int (nI y6_42)), (4, .long y4_42), (2, .ref q4), (1, .ref (a (2 + 2 * 0))), (0, .ref (a 0))]) hx hb dX10_isSoundNow_161 rfl hl (by decide) rfl (fun ls hl => ?_)
                    refine lv_iload_n hx hb dX10_isSoundNow_162 rfl (lv_at hl 0 rfl) ?_
                    refine lv_if_eq (tgt := 195) hx hb dX10_isSoundNow_163 (by decide) (fun c200 => ?_) (fun c200 => ?_)
                    · replace hR := ifp c200 hR
                      refine lv_iconst (v := 0) hx hb dX10_isSoundNow_195 (by decide) ?_
                      replace hB : Bd κ A s (lA κ q189 ((r (2 * 0)) * 5) F190 :: gO q188 (r (2 * 0)) (r (2 * 0 + 1)) q189 :: lA κ q185 ((r (2 * 0)) * 5) F186 :: gO q184 (r (2 * 0)) (r (2 * 0 + 1)) q185 :: lA κ b6 ((r (2 * 0 + 1)) * 5) F11 :: gO g5 (r (2 * 0 + 1)) (r (2 * 0 + 1)) b6 :: lA κ b8 ((r (2 * 0)) * 5) F12 :: gO g7 (r (2 * 0)) (r (2 * 0)) b8 :: lA κ b10 ((r (2 * 0)) * 5) F13 :: gO g9 (r (2 * 0)) (r (2 * 0 + 1)) b10 :: mw κ a r f q (tb a) w) H locs := Bd_del 10 hB
                      replace hB : Bd κ A s (lA κ q189 ((r (2 * 0)) * 5) F190 :: gO q188 (r (2 * 0)) (r (2 * 0 + 1)) q189 :: lA κ q185 ((r (2 * 0)) * 5) F186 :: gO q184 (r (2 * 0)) (r (2 * 0 + 1)) q185 :: lA κ b6 ((r (2 * 0 + 1)) * 5) F11 :: gO g5 (r (2 * 0 + 1)) (r (2 * 0 + 1)) b6 :: lA κ b8 ((r (2 * 0)) * 5) F12 :: gO g7 (r (2 * 0)) (r (2 * 0)) b8 :: lA κ b10 ((r (2 * 0)) * 5) F13 :: mw κ a r f q (tb a) w) H locs := Bd_del 9 hB
                      replace hB : Bd κ A s (lA κ q189 ((r (2 * 0)) * 5) F190 :: gO q188 (r (2 * 0)) (r (2 * 0 + 1)) q189 :: lA κ q185 ((r (2 * 0)) * 5) F186 :: gO q184 (r (2 * 0)) (r (2 * 0 + 1)) q185 :: lA κ b6 ((r (2 * 0 + 1)) * 5) F11 :: gO g5 (r (2 * 0 + 1)) (r (2 * 0 + 1)) b6 :: lA κ b8 ((r (2 * 0)) * 5) F12 :: gO g7 (r (2 * 0)) (r (2 * 0)) b8 :: mw κ a r f q (tb a) w) H locs := Bd_del 8 hB
                      replace hB : Bd κ A s (lA κ q189 ((r (2 * 0)) * 5) F190 :: gO q188 (r (2 * 0)) (r (2 * 0 + 1)) q189 :: lA κ q185 ((r (2 * 0)) * 5) F186 :: gO q184 (r (2 * 0)) (r (2 * 0 + 1)) q185 :: lA κ b6 ((r (2 * 0 + 1)) * 5) F11 :: gO g5 (r (2 * 0 + 1)) (r (2 * 0 + 1)) b6 :: lA κ b8 ((r (2 * 0)) * 5) F12 :: mw κ a r f q (tb a) w) H locs := Bd_del 7 hB
                      replace hB : Bd κ A s (lA κ q189 ((r (2 * 0)) * 5) F190 :: gO q188 (r (2 * 0)) (r (2 * 0 + 1)) q189 :: lA κ q185 ((r (2 * 0)) * 5) F186 :: gO q184 (r (2 * 0)) (r (2 * 0 + 1)) q185 :: lA κ b6 ((r (2 * 0 + 1)) * 5) F11 :: gO g5 (r (2 * 0 + 1)) (r (2 * 0 + 1)) b6 :: mw κ a r f q (tb a) w) H locs := Bd_del 6 hB
                      replace hB : Bd κ A s (lA κ q189 ((r (2 * 0)) * 5) F190 :: gO q188 (r (2 * 0)) (r (2 * 0 + 1)) q189 :: lA κ q185 ((r (2 * 0)) * 5) F186 :: gO q184 (r (2 * 0)) (r (2 * 0 + 1)) q185 :: lA κ b6 ((r (2 * 0 + 1)) * 5) F11 :: mw κ a r f q (tb a) w) H locs := Bd_del 5 hB
                      replace hB : Bd κ A s (lA κ q189 ((r (2 * 0)) * 5) F190 :: gO q188 (r (2 * 0)) (r (2 * 0 + 1)) q189 :: lA κ q185 ((r (2 * 0)) * 5) F186 :: gO q184 (r (2 * 0)) (r (2 * 0 + 1)) q185 :: mw κ a r f q (tb a) w) H locs := Bd_del 4 hB
                      replace hB : Bd κ A s (lA κ q189 ((r (2 * 0)) * 5) F190 :: gO q188 (r (2 * 0)) (r (2 * 0 + 1)) q189 :: lA κ q185 ((r (2 * 0)) * 5) F186 :: mw κ a r f q (tb a) w) H locs := Bd_del 3 hB
                      replace hB : Bd κ A s (lA κ q189 ((r (2 * 0)) * 5) F190 :: gO q188 (r (2 * 0)) (r (2 * 0 + 1)) q189 :: mw κ a r f q (tb a) w) H locs := Bd_del 2 hB
                      replace hB : Bd κ A s (lA κ q189 ((r (2 * 0)) * 5) F190 :: mw κ a r f q (tb a) w) H locs := Bd_del 1 hB
                      replace hB : Bd κ A s (mw κ a r f q (tb a) w) H locs := Bd_del 0 hB
                      rw [← hQ]
                      exact end_i hX hB hA3 rfl rfl (by obtain rfl := hR; exact ⟨rfl, (Or.inl rfl), rfl⟩) (Nat.le_of_ble_eq_true rfl) (Nat.le_of_ble_eq_true rfl) dX10_isSoundNow_196
                    · replace hR := ifn c200 hR
                      refine lv_aload_n hx hb dX10_isSoundNow_166 rfl (lv_at hl 4 rfl) ?_
                      refine gf (k0 := 2 + 2 * 0 + 11) hX hB (mwG (i := 0) (a := a) (r := r) (f := f) (q := q) (T := tb a) (w := w) (by omega)) rfl in7 0 (by decide) wm_5_148 rfl rfl dX10_isSoundNow_167 ?_
                      refine lv_aload_n hx hb dX10_isSoundNow_170 rfl (lv_at hl 4 rfl) ?_
                      refine gf (k0 := 2 + 2 * 0 + 11) hX hB (mwG (i := 0) (a := a) (r := r) (f := f) (q := q) (T := tb a) (w := w) (by omega)) rfl in7 1 (by decide) wm_5_152 rfl rfl dX10_isSoundNow_171 ?_
                      refine lv_icmp_ne (tgt := 191) hx hb dX10_isSoundNow_174 (by decide) (fun c201 => ?_) (fun c201 => ?_)
                      · rw [neqP (a := r (2 * 0)) (b := r (2 * 0 + 1)) (by omega) (by omega)] at c201
                        replace hR := ifn c201 hR
                        refine lv_iconst (v := 1) hx hb dX10_isSoundNow_191 (by decide) ?_
                        refine lv_goto (tgt := 196) hx hb dX10_isSoundNow_192 (by decide) ?_
                        replace hB : Bd κ A s (lA κ q189 ((r (2 * 0)) * 5) F190 :: gO q188 (r (2 * 0)) (r (2 * 0 + 1)) q189 :: lA κ q185 ((r (2 * 0)) * 5) F186 :: gO q184 (r (2 * 0)) (r (2 * 0 + 1)) q185 :: lA κ b6 ((r (2 * 0 + 1)) * 5) F11 :: gO g5 (r (2 * 0 + 1)) (r (2 * 0 + 1)) b6 :: lA κ b8 ((r (2 * 0)) * 5) F12 :: gO g7 (r (2 * 0)) (r (2 * 0)) b8 :: lA κ b10 ((r (2 * 0)) * 5) F13 :: gO g9 (r (2 * 0)) (r (2 * 0 + 1)) b10 :: mw κ a r f q (tb a) w) H locs := Bd_del 10 hB
                        replace hB : Bd κ A s (lA κ q189 ((r (2 * 0)) * 5) F190 :: gO q188 (r (2 * 0)) (r (2 * 0 + 1)) q189 :: lA κ q185 ((r (2 * 0)) * 5) F186 :: gO q184 (r (2 * 0)) (r (2 * 0 + 1)) q185 :: lA κ b6 ((r (2 * 0 + 1)) * 5) F11 :: gO g5 (r (2 * 0 + 1)) (r (2 * 0 + 1)) b6 :: lA κ b8 ((r (2 * 0)) * 5) F12 :: gO g7 (r (2 * 0)) (r (2 * 0)) b8 :: lA κ b10 ((r (2 * 0)) * 5) F13 :: mw κ a r f q (tb a) w) H locs := Bd_del 9 hB
                        replace hB : Bd κ A s (lA κ q189 ((r (2 * 0)) * 5) F190 :: gO q188 (r (2 * 0)) (r (2 * 0 + 1)) q189 :: lA κ q185 ((r (2 * 0)) * 5) F186 :: gO q184 (r (2 * 0)) (r (2 * 0 + 1)) q185 :: lA κ b6 ((r (2 * 0 + 1)) * 5) F11 :: gO g5 (r (2 * 0 + 1)) (r (2 * 0 + 1)) b6 :: lA κ b8 ((r (2 * 0)) * 5) F12 :: gO g7 (r (2 * 0)) (r (2 * 0)) b8 :: mw κ a r f q (tb a) w) H locs := Bd_del 8 hB
                        replace hB : Bd κ A s (lA κ q189 ((r (2 * 0)) * 5) F190 :: gO q188 (r (2 * 0)) (r (2 * 0 + 1)) q189 :: lA κ q185 ((r (2 * 0)) * 5) F186 :: gO q184 (r (2 * 0)) (r (2 * 0 + 1)) q185 :: lA κ b6 ((r (2 * 0 + 1)) * 5) F11 :: gO g5 (r (2 * 0 + 1)) (r (2 * 0 + 1)) b6 :: lA κ b8 ((r (2 * 0)) * 5) F12 :: mw κ a r f q (tb a) w) H locs := Bd_del 7 hB
                        replace hB : Bd κ A s (lA κ q189 ((r (2 * 0)) * 5) F190 :: gO q188 (r (2 * 0)) (r (2 * 0 + 1)) q189 :: lA κ q185 ((r (2 * 0)) * 5) F186 :: gO q184 (r (2 * 0)) (r (2 * 0 + 1)) q185 :: lA κ b6 ((r (2 * 0 + 1)) * 5) F11 :: gO g5 (r (2 * 0 + 1)) (r (2 * 0 + 1)) b6 :: mw κ a r f q (tb a) w) H locs := Bd_del 6 hB
                        replace hB : Bd κ A s (lA κ q189 ((r (2 * 0)) * 5) F190 :: gO q188 (r (2 * 0)) (r (2 * 0 + 1)) q189 :: lA κ q185 ((r (2 * 0)) * 5) F186 :: gO q184 (r (2 * 0)) (r (2 * 0 + 1)) q185 :: lA κ b6 ((r (2 * 0 + 1)) * 5) F11 :: mw κ a r f q (tb a) w) H locs := Bd_del 5 hB
                        replace hB : Bd κ A s (lA κ q189 ((r (2 * 0)) * 5) F190 :: gO q188 (r (2 * 0)) (r (2 * 0 + 1)) q189 :: lA κ q185 ((r (2 * 0)) * 5) F186 :: gO q184 (r (2 * 0)) (r (2 * 0 + 1)) q185 :: mw κ a r f q (tb a) w) H locs := Bd_del 4 hB
                        replace hB : Bd κ A s (lA κ q189 ((r (2 * 0)) * 5) F190 :: gO q188 (r (2 * 0)) (r (2 * 0 + 1)) q189 :: lA κ q185 ((r (2 * 0)) * 5) F186 :: mw κ a r f q (tb a) w) H locs := Bd_del 3 hB
                        replace hB : Bd κ A s (lA κ q189 ((r (2 * 0)) * 5) F190 :: gO q188 (r (2 * 0)) (r (2 * 0 + 1)) q189 :: mw κ a r f q (tb a) w) H locs := Bd_del 2 hB
                        replace hB : Bd κ A s (lA κ q189 ((r (2 * 0)) * 5) F190 :: mw κ a r f q (tb a) w) H locs := Bd_del 1 hB
                        replace hB : Bd κ A s (mw κ a r f q (tb a) w) H locs := Bd_del 0 hB
                        rw [← hQ]
                        exact end_i hX hB hA3 rfl rfl (by obtain rfl := hR; exact ⟨rfl, (Or.inr rfl), rfl⟩) (Nat.le_of_ble_eq_true rfl) (Nat.le_of_ble_eq_true rfl) dX10_isSoundNow_196
                      · rw [neqP (a := r (2 * 0)) (b := r (2 * 0 + 1)) (by omega) (by omega)] at c201
                        replace hR := ifp c201 hR
                        refine lv_aload_n hx hb dX10_isSoundNow_177 rfl (lv_at hl 4 rfl) ?_
                        refine call_S (n := 1) (As := [.ref (a (2 + 2 * 0))]) (rest := []) hX hB (k_X10_determinantOf κ l (lA κ q189 ((r (2 * 0)) * 5) F190 :: gO q188 (r (2 * 0)) (r (2 * 0 + 1)) q189 :: lA κ q185 ((r (2 * 0)) * 5) F186 :: gO q184 (r (2 * 0)) (r (2 * 0 + 1)) q185 :: lA κ b6 ((r (2 * 0 + 1)) * 5) F11 :: gO g5 (r (2 * 0 + 1)) (r (2 * 0 + 1)) b6 :: lA κ b8 ((r (2 * 0)) * 5) F12 :: gO g7 (r (2 * 0)) (r (2 * 0)) b8 :: lA κ b10 ((r (2 * 0)) * 5) F13 :: gO g9 (r (2 * 0)) (r (2 * 0 + 1)) b10 :: (q4, .inr (10, [.ref g9, .ref g7, .ref g5, .int S14, .int S15, .int (nI K16), .int G17])) :: mw κ a r f q (tb a) w) (2 + 2 * 0 + 11) (3 + 2 * 0 + 11) (a (2 + 2 * 0)) (a (3 + 2 * 0)) (r (2 * 0)) (r (2 * 0 + 1)) (f 0) (mwG (i := 0) (a := a) (r := r) (f := f) (q := q) (T := tb a) (w := w) (by omega)) (mwA (i := 0) (a := a) (r := r) (f := f) (q := q) (T := tb a) (w := w) (by omega)) (mok_shp (i := 0) hm (by omega)) (by omega)) yk_X10_determinantOf wm_7_76 wm_7_77 wm_1_6 wm_7_78 ⟨Nat.le_of_ble_eq_true rfl, Nat.le_of_ble_eq_true rfl⟩ ⟨Nat.le_of_ble_eq_true rfl, Nat.le_of_ble_eq_true rfl⟩ rfl hl.1 rfl (Nat.le_of_ble_eq_true rfl) dX10_isSoundNow_178 (fun o w' H locs hp hB => ?_)
                        obtain ⟨rfl, hw9⟩ := hp
                        replace hB : Bd κ A s (lA κ q189 ((r (2 * 0)) * 5) F190 :: gO q188 (r (2 * 0)) (r (2 * 0 + 1)) q189 :: lA κ q185 ((r (2 * 0)) * 5) F186 :: gO q184 (r (2 * 0)) (r (2 * 0 + 1)) q185 :: lA κ b6 ((r (2 * 0 + 1)) * 5) F11 :: gO g5 (r (2 * 0 + 1)) (r (2 * 0 + 1)) b6 :: lA κ b8 ((r (2 * 0)) * 5) F12 :: gO g7 (r (2 * 0)) (r (2 * 0)) b8 :: lA κ b10 ((r (2 * 0)) * 5) F13 :: gO g9 (r (2 * 0)) (r (2 * 0 + 1)) b10 :: (q4, .inr (10, [.ref g9, .ref g7, .ref g5, .int S14, .int S15, .int (nI K16), .int G17])) :: mw κ a r f q (tb a) w) H locs := by rw [hw9] at hB; exact hB
                        refine W.eq (g2 := F0 m 181 ls [.long (mnv (f 0) (r (2 * 0 + 1)) (r (2 * 0)) (2 ^ (r (2 * 0)) - 1) (2 ^ (r (2 * 0 + 1)) - 1))]) rfl ?_
                        refine lv_aload_n hx hb dX10_isSoundNow_181 rfl (lv_at hl 4 rfl) ?_
                        refine lv_iconst (v := 0) hx hb dX10_isSoundNow_182 (by decide) ?_
                        refine lv_iconst (v := 0) hx hb dX10_isSoundNow_183 (by decide) ?_
                        refine call_S (n := 3) (As := [.ref (a (2 + 2 * 0)), .int 0, .int 0]) (rest := [.long (mnv (f 0) (r (2 * 0 + 1)) (r (2 * 0)) (2 ^ (r (2 * 0)) - 1) (2 ^ (r (2 * 0 + 1)) - 1))]) hX hB (k_X10_bySequences κ l (lA κ q189 ((r (2 * 0)) * 5) F190 :: gO q188 (r (2 * 0)) (r (2 * 0 + 1)) q189 :: lA κ q185 ((r (2 * 0)) * 5) F186 :: gO q184 (r (2 * 0)) (r (2 * 0 + 1)) q185 :: lA κ b6 ((r (2 * 0 + 1)) * 5) F11 :: gO g5 (r (2 * 0 + 1)) (r (2 * 0 + 1)) b6 :: lA κ b8 ((r (2 * 0)) * 5) F12 :: gO g7 (r (2 * 0)) (r (2 * 0)) b8 :: lA κ b10 ((r (2 * 0)) * 5) F13 :: gO g9 (r (2 * 0)) (r (2 * 0 + 1)) b10 :: (q4, .inr (10, [.ref g9, .ref g7, .ref g5, .int S14, .int S15, .int (nI K16), .int G17])) :: mw κ a r f q (tb a) w) (2 + 2 * 0 + 11) (3 + 2 * 0 + 11) (a (2 + 2 * 0)) (a (3 + 2 * 0)) (r (2 * 0)) (r (2 * 0 + 1)) (f 0) 0 0 0 (mwG (i := 0) (a := a) (r := r) (f := f) (q := q) (T := tb a) (w := w) (by omega)) (mwA (i := 0) (a := a) (r := r) (f := f) (q := q) (T := tb a) (w := w) (by omega)) (mok_shp (i := 0) hm (by omega)) rfl (by omega)) yk_X10_bySequences wm_7_88 wm_7_89 wm_1_6 wm_7_90 ⟨Nat.le_of_ble_eq_true rfl, Nat.le_of_ble_eq_true rfl⟩ ⟨Nat.le_of_ble_eq_true rfl, Nat.le_of_ble_eq_true rfl⟩ rfl hl.1 rfl (Nat.le_of_ble_eq_true rfl) dX10_isSoundNow_184 (fun o w' H locs hp hB => ?_)
                        obtain ⟨rfl, hw9⟩ := hp
                        replace hB : Bd κ A s (lA κ q189 ((r (2 * 0)) * 5) F190 :: gO q188 (r (2 * 0)) (r (2 * 0 + 1)) q189 :: lA κ q185 ((r (2 * 0)) * 5) F186 :: gO q184 (r (2 * 0)) (r (2 * 0 + 1)) q185 :: lA κ b6 ((r (2 * 0 + 1)) * 5) F11 :: gO g5 (r (2 * 0 + 1)) (r (2 * 0 + 1)) b6 :: lA κ b8 ((r (2 * 0)) * 5) F12 :: gO g7 (r (2 * 0)) (r (2 * 0)) b8 :: lA κ b10 ((r (2 * 0)) * 5) F13 :: gO g9 (r (2 * 0)) (r (2 * 0 + 1)) b10 :: (q4, .inr (10, [.ref g9, .ref g7, .ref g5, .int S14, .int S15, .int (nI K16), .int G17])) :: mw κ a r f q (tb a) w) H locs := by rw [hw9] at hB; exact hB
                        refine W.eq (g2 := F0 m 187 ls [.long (bsv (r (2 * 0)) (r (2 * 0 + 1)) (f 0) 4 0 0), .long (mnv (f 0) (r (2 * 0 + 1)) (r (2 * 0)) (2 ^ (r (2 * 0)) - 1) (2 ^ (r (2 * 0 + 1)) - 1))]) rfl ?_
                        refine W.lcmp hx hb dX10_isSoundNow_187 ?_
                        refine lv_if_ne (tgt := 195) hx hb dX10_isSoundNow_188 (by decide) (fun c202 => ?_) (fun c202 => ?_)
                        · replace hR := ifn c202 hR
                          refine lv_iconst (v := 0) hx hb dX10_isSoundNow_195 (by decide) ?_
                          replace hB : Bd κ A s (lA κ q189 ((r (2 * 0)) * 5) F190 :: gO q188 (r (2 * 0)) (r (2 * 0 + 1)) q189 :: lA κ q185 ((r (2 * 0)) * 5) F186 :: gO q184 (r (2 * 0)) (r (2 * 0 + 1)) q185 :: lA κ b6 ((r (2 * 0 + 1)) * 5) F11 :: gO g5 (r (2 * 0 + 1)) (r (2 * 0 + 1)) b6 :: lA κ b8 ((r (2 * 0)) * 5) F12 :: gO g7 (r (2 * 0)) (r (2 * 0)) b8 :: lA κ b10 ((r (2 * 0)) * 5) F13 :: gO g9 (r (2 * 0)) (r (2 * 0 + 1)) b10 :: mw κ a r f q (tb a) w) H locs := Bd_del 10 hB
                          replace hB : Bd κ A s (lA κ q189 ((r (2 * 0)) * 5) F190 :: gO q188 (r (2 * 0)) (r (2 * 0 + 1)) q189 :: lA κ q185 ((r (2 * 0)) * 5) F186 :: gO q184 (r (2 * 0)) (r (2 * 0 + 1)) q185 :: lA κ b6 ((r (2 * 0 + 1)) * 5) F11 :: gO g5 (r (2 * 0 + 1)) (r (2 * 0 + 1)) b6 :: lA κ b8 ((r (2 * 0)) * 5) F12 :: gO g7 (r (2 * 0)) (r (2 * 0)) b8 :: lA κ b10 ((r (2 * 0)) * 5) F13 :: mw κ a r f q (tb a) w) H locs := Bd_del 9 hB
                          replace hB : Bd κ A s (lA κ q189 ((r (2 * 0)) * 5) F190 :: gO q188 (r (2 * 0)) (r (2 * 0 + 1)) q189 :: lA κ q185 ((r (2 * 0)) * 5) F186 :: gO q184 (r (2 * 0)) (r (2 * 0 + 1)) q185 :: lA κ b6 ((r (2 * 0 + 1)) * 5) F11 :: gO g5 (r (2 * 0 + 1)) (r (2 * 0 + 1)) b6 :: lA κ b8 ((r (2 * 0)) * 5) F12 :: gO g7 (r (2 * 0)) (r (2 * 0)) b8 :: mw κ a r f q (tb a) w) H locs := Bd_del 8 hB
                          replace hB : Bd κ A s (lA κ q189 ((r (2 * 0)) * 5) F190 :: gO q188 (r (2 * 0)) (r (2 * 0 + 1)) q189 :: lA κ q185 ((r (2 * 0)) * 5) F186 :: gO q184 (r (2 * 0)) (r (2 * 0 + 1)) q185 :: lA κ b6 ((r (2 * 0 + 1)) * 5) F11 :: gO g5 (r (2 * 0 + 1)) (r (2 * 0 + 1)) b6 :: lA κ b8 ((r (2 * 0)) * 5) F12 :: mw κ a r f q (tb a) w) H locs := Bd_del 7 hB
                          replace hB : Bd κ A s (lA κ q189 ((r (2 * 0)) * 5) F190 :: gO q188 (r (2 * 0)) (r (2 * 0 + 1)) q189 :: lA κ q185 ((r (2 * 0)) * 5) F186 :: gO q184 (r (2 * 0)) (r (2 * 0 + 1)) q185 :: lA κ b6 ((r (2 * 0 + 1)) * 5) F11 :: gO g5 (r (2 * 0 + 1)) (r (2 * 0 + 1)) b6 :: mw κ a r f q (tb a) w) H locs := Bd_del 6 hB
                          replace hB : Bd κ A s (lA κ q189 ((r (2 * 0)) * 5) F190 :: gO q188 (r (2 * 0)) (r (2 * 0 + 1)) q189 :: lA κ q185 ((r (2 * 0)) * 5) F186 :: gO q184 (r (2 * 0)) (r (2 * 0 + 1)) q185 :: lA κ b6 ((r (2 * 0 + 1)) * 5) F11 :: mw κ a r f q (tb a) w) H locs := Bd_del 5 hB
                          replace hB : Bd κ A s (lA κ q189 ((r (2 * 0)) * 5) F190 :: gO q188 (r (2 * 0)) (r (2 * 0 + 1)) q189 :: lA κ q185 ((r (2 * 0)) * 5) F186 :: gO q184 (r (2 * 0)) (r (2 * 0 + 1)) q185 :: mw κ a r f q (tb a) w) H locs := Bd_del 4 hB
                          replace hB : Bd κ A s (lA κ q189 ((r (2 * 0)) * 5) F190 :: gO q188 (r (2 * 0)) (r (2 * 0 + 1)) q189 :: lA κ q185 ((r (2 * 0)) * 5) F186 :: mw κ a r f q (tb a) w) H locs := Bd_del 3 hB
                          replace hB : Bd κ A s (lA κ q189 ((r (2 * 0)) * 5) F190 :: gO q188 (r (2 * 0)) (r (2 * 0 + 1)) q189 :: mw κ a r f q (tb a) w) H locs := Bd_del 2 hB
                          replace hB : Bd κ A s (lA κ q189 ((r (2 * 0)) * 5) F190 :: mw κ a r f q (tb a) w) H locs := Bd_del 1 hB
                          replace hB : Bd κ A s (mw κ a r f q (tb a) w) H locs := Bd_del 0 hB
                          rw [← hQ]
                          exact end_i hX hB hA3 rfl rfl (by obtain rfl := hR; exact ⟨rfl, (Or.inl rfl), rfl⟩) (Nat.le_of_ble_eq_true rfl) (Nat.le_of_ble_eq_true rfl) dX10_isSoundNow_196
                        · replace hR := ifp c202 hR
                          refine lv_iconst (v := 1) hx hb dX10_isSoundNow_191 (by decide) ?_
                          refine lv_goto (tgt := 196) hx hb dX10_isSoundNow_192 (by decide) ?_
                          replace hB : Bd κ A s (lA κ q189 ((r (2 * 0)) * 5) F190 :: gO q188 (r (2 * 0)) (r (2 * 0 + 1)) q189 :: lA κ q185 ((r (2 * 0)) * 5) F186 :: gO q184 (r (2 * 0)) (r (2 * 0 + 1)) q185 :: lA κ b6 ((r (2 * 0 + 1)) * 5) F11 :: gO g5 (r (2 * 0 + 1)) (r (2 * 0 + 1)) b6 :: lA κ b8 ((r (2 * 0)) * 5) F12 :: gO g7 (r (2 * 0)) (r (2 * 0)) b8 :: lA κ b10 ((r (2 * 0)) * 5) F13 :: gO g9 (r (2 * 0)) (r (2 * 0 + 1)) b10 :: mw κ a r f q (tb a) w) H locs := Bd_del 10 hB
                          replace hB : Bd κ A s (lA κ q189 ((r (2 * 0)) * 5) F190 :: gO q188 (r (2 * 0)) (r (2 * 0 + 1)) q189 :: lA κ q185 ((r (2 * 0)) * 5) F186 :: gO q184 (r (2 * 0)) (r (2 * 0 + 1)) q185 :: lA κ b6 ((r (2 * 0 + 1)) * 5) F11 :: gO g5 (r (2 * 0 + 1)) (r (2 * 0 + 1)) b6 :: lA κ b8 ((r (2 * 0)) * 5) F12 :: gO g7 (r (2 * 0)) (r (2 * 0)) b8 :: lA κ b10 ((r (2 * 0)) * 5) F13 :: mw κ a r f q (tb a) w) H locs := Bd_del 9 hB
                          replace hB : Bd κ A s (lA κ q189 ((r (2 * 0)) * 5) F190 :: gO q188 (r (2 * 0)) (r (2 * 0 + 1)) q189 :: lA κ q185 ((r (2 * 0)) * 5) F186 :: gO q184 (r (2 * 0)) (r (2 * 0 + 1)) q185 :: lA κ b6 ((r (2 * 0 + 1)) * 5) F11 :: gO g5 (r (2 * 0 + 1)) (r (2 * 0 + 1)) b6 :: lA κ b8 ((r (2 * 0)) * 5) F12 :: gO g7 (r (2 * 0)) (r (2 * 0)) b8 :: mw κ a r f q (tb a) w) H locs := Bd_del 8 hB
                          replace hB : Bd κ A s (lA κ q189 ((r (2 * 0)) * 5) F190 :: gO q188 (r (2 * 0)) (r (2 * 0 + 1)) q189 :: lA κ q185 ((r (2 * 0)) * 5) F186 :: gO q184 (r (2 * 0)) (r (2 * 0 + 1)) q185 :: lA κ b6 ((r (2 * 0 + 1)) * 5) F11 :: gO g5 (r (2 * 0 + 1)) (r (2 * 0 + 1)) b6 :: lA κ b8 ((r (2 * 0)) * 5) F12 :: mw κ a r f q (tb a) w) H locs := Bd_del 7 hB
                          replace hB : Bd κ A s (lA κ q189 ((r (2 * 0)) * 5) F190 :: gO q188 (r (2 * 0)) (r (2 * 0 + 1)) q189 :: lA κ q185 ((r (2 * 0)) * 5) F186 :: gO q184 (r (2 * 0)) (r (2 * 0 + 1)) q185 :: lA κ b6 ((r (2 * 0 + 1)) * 5) F11 :: gO g5 (r (2 * 0 + 1)) (r (2 * 0 + 1)) b6 :: mw κ a r f q (tb a) w) H locs := Bd_del 6 hB
                          replace hB : Bd κ A s (lA κ q189 ((r (2 * 0)) * 5) F190 :: gO q188 (r (2 * 0)) (r (2 * 0 + 1)) q189 :: lA κ q185 ((r (2 * 0)) * 5) F186 :: gO q184 (r (2 * 0)) (r (2 * 0 + 1)) q185 :: lA κ b6 ((r (2 * 0 + 1)) * 5) F11 :: mw κ a r f q (tb a) w) H locs := Bd_del 5 hB
                          replace hB : Bd κ A s (lA κ q189 ((r (2 * 0)) * 5) F190 :: gO q188 (r (2 * 0)) (r (2 * 0 + 1)) q189 :: lA κ q185 ((r (2 * 0)) * 5) F186 :: gO q184 (r (2 * 0)) (r (2 * 0 + 1)) q185 :: mw κ a r f q (tb a) w) H locs := Bd_del 4 hB
                          replace hB : Bd κ A s (lA κ q189 ((r (2 * 0)) * 5) F190 :: gO q188 (r (2 * 0)) (r (2 * 0 + 1)) q189 :: lA κ q185 ((r (2 * 0)) * 5) F186 :: mw κ a r f q (tb a) w) H locs := Bd_del 3 hB
                          replace hB : Bd κ A s (lA κ q189 ((r (2 * 0)) * 5) F190 :: gO q188 (r (2 * 0)) (r (2 * 0 + 1)) q189 :: mw κ a r f q (tb a) w) H locs := Bd_del 2 hB
                          replace hB : Bd κ A s (lA κ q189 ((r (2 * 0)) * 5) F190 :: mw κ a r f q (tb a) w) H locs := Bd_del 1 hB
                          replace hB : Bd κ A s (mw κ a r f q (tb a) w) H locs := Bd_del 0 hB
                          rw [← hQ]
                          exact end_i hX hB hA3 rfl rfl (by obtain rfl := hR; exact ⟨rfl, (Or.inr rfl), rfl⟩) (Nat.le_of_ble_eq_true rfl) (Nat.le_of_ble_eq_true rfl) dX10_isSoundNow_196
              · rw [nleP (a := r (2 * 0 + 1)) (b := y6_42) (by omega) (by omega)] at c176
                replace hR := ifn c176 hR
                refine lv_lload hx hb dX10_isSoundNow_67 (lv_at hl 1 rfl) ?_
                refine lv_aload_n hx hb dX10_isSoundNow_69 rfl (lv_at hl 3 rfl) ?_
                refine gf (k0 := 6) hX hB rfl rfl in9 0 (by decide) wm_6_222 rfl rfl dX10_isSoundNow_70 ?_
                refine lv_iload hx hb dX10_isSoundNow_73 (lv_at hl 0 rfl) ?_
                refine lv_iload hx hb dX10_isSoundNow_75 (lv_at hl 0 rfl) ?_
                refine call_V (n := 2) (k0 := 5) (As := [.int (nI y6_42), .int (nI y6_42)]) (rest := [.long y4_42]) hX hB (k_X7_at κ l (lA κ b6 ((r (2 * 0 + 1)) * 5) F11 :: gO g5 (r (2 * 0 + 1)) (r (2 * 0 + 1)) b6 :: lA κ b8 ((r (2 * 0)) * 5) F12 :: gO g7 (r (2 * 0)) (r (2 * 0)) b8 :: lA κ b10 ((r (2 * 0)) * 5) F13 :: gO g9 (r (2 * 0)) (r (2 * 0 + 1)) b10 :: (q4, .inr (10, [.ref g9, .ref g7, .ref g5, .int S14, .int S15, .int (nI K16), .int G17])) :: mw κ a r f q (tb a) w) 5 4 g9 b10 (r (2 * 0)) (r (2 * 0 + 1)) F13 (nI y6_42) y6_42 (nI y6_42) y6_42 rfl rfl (mok_shp (i := 0) hm (by omega)) rfl rfl (by omega)) ⟨rfl, yk_X7_at⟩ wm_5_237 wm_5_238 wm_5_239 wm_1_7 wm_6_0 ⟨Nat.le_of_ble_eq_true rfl, Nat.le_of_ble_eq_true rfl⟩ ⟨Nat.le_of_ble_eq_true rfl, Nat.le_of_ble_eq_true rfl⟩ rfl rfl rfl rfl hl.1 rfl (Nat.le_of_ble_eq_true rfl) dX10_isSoundNow_77 (fun o w' H locs hp hB => ?_)
                obtain ⟨rfl, hw9⟩ := hp
                replace hB : Bd κ A s (lA κ b6 ((r (2 * 0 + 1)) * 5) F11 :: gO g5 (r (2 * 0 + 1)) (r (2 * 0 + 1)) b6 :: lA κ b8 ((r (2 * 0)) * 5) F12 :: gO g7 (r (2 * 0)) (r (2 * 0)) b8 :: lA κ b10 ((r (2 * 0)) * 5) F13 :: gO g9 (r (2 * 0)) (r (2 * 0 + 1)) b10 :: (q4, .inr (10, [.ref g9, .ref g7, .ref g5, .int S14, .int S15, .int (nI K16), .int G17])) :: mw κ a r f q (tb a) w) H locs := by rw [hw9] at hB; exact hB
                refine W.eq (g2 := F0 m 80 ls [.long (F13 (y6_42 * 5 + y6_42)), .long y4_42]) rfl ?_
                refine lv_lmul hx hb dX10_isSoundNow_80 ?_
                refine lv_lstore (lv' := [(4, .long (y4_42 * (F13 (y6_42 * 5 + y6_42)))), (6, .int (nI y6_42)), (3, .int y3_42), (2, .ref q4), (1, .ref (a (2 + 2 * 0))), (0, .ref (a 0))]) hx hb dX10_isSoundNow_81 hl (by decide) rfl (fun ls hl => ?_)
                refine lv_iload_n hx hb dX10_isSoundNow_83 rfl (lv_at hl 2 rfl) ?_
                refine lv_lload hx hb dX10_isSoundNow_84 (lv_at hl 0 rfl) ?_
                refine lv_aload_n hx hb dX10_isSoundNow_86 rfl (lv_at hl 4 rfl) ?_
                refine lv_iload hx hb dX10_isSoundNow_87 (lv_at hl 1 rfl) ?_
                refine lv_iconst (v := 1) hx hb dX10_isSoundNow_89 (by decide) ?_
                refine lv_iadd hx hb dX10_isSoundNow_90 ?_
                refine eqi (y := nI (y6_42 + 1)) (nI_add y6_42 1) ?_
                obtain ⟨x203, hd204⟩ := ex1 (D_X7_divisor (r (2 * 0)) (r (2 * 0 + 1)) (f 0) (nI (y6_42 + 1)))
                replace hR := bnd1_use hd204 hR
                refine call_V (n := 1) (k0 := (2 + 2 * 0 + 7)) (As := [.int (nI (y6_42 + 1))]) (rest := [.long (y4_42 * (F13 (y6_42 * 5 + y6_42))), .int y3_42]) hX hB (k_X7_divisor κ l (lA κ b6 ((r (2 * 0 + 1)) * 5) F11 :: gO g5 (r (2 * 0 + 1)) (r (2 * 0 + 1)) b6 :: lA κ b8 ((r (2 * 0)) * 5) F12 :: gO g7 (r (2 * 0)) (r (2 * 0)) b8 :: lA κ b10 ((r (2 * 0)) * 5) F13 :: gO g9 (r (2 * 0)) (r (2 * 0 + 1)) b10 :: (q4, .inr (10, [.ref g9, .ref g7, .ref g5, .int S14, .int S15, .int (nI K16), .int G17])) :: mw κ a r f q (tb a) w) (2 + 2 * 0 + 7) (3 + 2 * 0 + 7) (a (2 + 2 * 0)) (a (3 + 2 * 0)) (r (2 * 0)) (r (2 * 0 + 1)) (f 0) (nI (y6_42 + 1)) (mwG (i := 0) (a := a) (r := r) (f := f) (q := q) (T := tb a) (w := w) (by omega)) (mwA (i := 0) (a := a) (r := r) (f := f) (q := q) (T := tb a) (w := w) (by omega)) (mok_shp (i := 0) hm (by omega)) x203 hd204) ⟨rfl, yk_X7_divisor⟩ wm_7_101 wm_7_102 wm_7_103 wm_1_7 wm_7_104 ⟨Nat.le_of_ble_eq_true rfl, Nat.le_of_ble_eq_true rfl⟩ ⟨Nat.le_of_ble_eq_true rfl, Nat.le_of_ble_eq_true rfl⟩ (mwG (i := 0) (a := a) (r := r) (f := f) (q := q) (T := tb a) (w := w) (by omega)) rfl rfl rfl hl.1 rfl (Nat.le_of_ble_eq_true rfl) dX10_isSoundNow_91 (fun o w' H locs hp hB => ?_)
                obtain ⟨rfl, hw9⟩ := hp
                replace hB : Bd κ A s (lA κ b6 ((r (2 * 0 + 1)) * 5) F11 :: gO g5 (r (2 * 0 + 1)) (r (2 * 0 + 1)) b6 :: lA κ b8 ((r (2 * 0)) * 5) F12 :: gO g7 (r (2 * 0)) (r (2 * 0)) b8 :: lA κ b10 ((r (2 * 0)) * 5) F13 :: gO g9 (r (2 * 0)) (r (2 * 0 + 1)) b10 :: (q4, .inr (10, [.ref g9, .ref g7, .ref g5, .int S14, .int S15, .int (nI K16), .int G17])) :: mw κ a r f q (tb a) w) H locs := by rw [hw9] at hB; exact hB
                refine W.eq (g2 := F0 m 94 ls [.long x203, .long (y4_42 * (F13 (y6_42 * 5 + y6_42))), .int y3_42]) rfl ?_
                refine W.lcmp hx hb dX10_isSoundNow_94 ?_
                refine lv_if_ne (tgt := 102) hx hb dX10_isSoundNow_95 (by decide) (fun c205 => ?_) (fun c205 => ?_)
                · replace hR := ifn c205 hR
                  refine lv_iconst (v := 0) hx hb dX10_isSoundNow_102 (by decide) ?_
                  refine lv_iand hx hb dX10_isSoundNow_103 ?_
                  refine lv_istore_n (lv' := [(3, .int (y3_42 &&& 0)), (4, .long (y4_42 * (F13 (y6_42 * 5 + y6_42)))), (6, .int (nI y6_42)), (2, .ref q4), (1, .ref (a (2 + 2 * 0))), (0, .ref (a 0))]) hx hb dX10_isSoundNow_104 rfl hl (by decide) rfl (fun ls hl => ?_)
                  refine lv_iinc (v := nI (y6_42 + 1)) (lv' := [(6, .int (nI (y6_42 + 1))), (3, .int (y3_42 &&& 0)), (4, .long (y4_42 * (F13 (y6_42 * 5 + y6_42)))), (2, .ref q4), (1, .ref (a (2 + 2 * 0))), (0, .ref (a 0))]) hx hb dX10_isSoundNow_105 hl (k := 2) rfl (nI_add y6_42 1) (by decide) rfl (fun ls hl => ?_)
                  refine lv_goto (tgt := 42) hx hb dX10_isSoundNow_108 (by decide) ?_
                  exact ih42 (y6_42 + 1) (y4_42 * (F13 (y6_42 * 5 + y6_42))) (y3_42 &&& 0) _ _ (by omega) (by omega) hR hB _ (lv_sub hl [0, 2, 1, 3, 4, 5] rfl)
                · replace hR := ifp c205 hR
                  refine lv_iconst (v := 1) hx hb dX10_isSoundNow_98 (by decide) ?_
                  refine lv_goto (tgt := 103) hx hb dX10_isSoundNow_99 (by decide) ?_
                  refine lv_iand hx hb dX10_isSoundNow_103 ?_
                  refine lv_istore_n (lv' := [(3, .int (y3_42 &&& 1)), (4, .long (y4_42 * (F13 (y6_42 * 5 + y6_42)))), (6, .int (nI y6_42)), (2, .ref q4), (1, .ref (a (2 + 2 * 0))), (0, .ref (a 0))]) hx hb dX10_isSoundNow_104 rfl hl (by decide) rfl (fun ls hl => ?_)
                  refine lv_iinc (v := nI (y6_42 + 1)) (lv' := [(6, .int (nI (y6_42 + 1))), (3, .int (y3_42 &&& 1)), (4, .long (y4_42 * (F13 (y6_42 * 5 + y6_42)))), (2, .ref q4), (1, .ref (a (2 + 2 * 0))), (0, .ref (a 0))]) hx hb dX10_isSoundNow_105 hl (k := 2) rfl (nI_add y6_42 1) (by decide) rfl (fun ls hl => ?_)
                  refine lv_goto (tgt := 42) hx hb dX10_isSoundNow_108 (by decide) ?_
                  exact ih42 (y6_42 + 1) (y4_42 * (F13 (y6_42 * 5 + y6_42))) (y3_42 &&& 1) _ _ (by omega) (by omega) hR hB _ (lv_sub hl [0, 2, 1, 3, 4, 5] rfl)
      exact lp42 _ 0 1 1 _ _ (by omega) (Nat.lt_succ_self _) hR hB _ hl
    · replace c3 : ¬ nI (r (2 * 0 + 1)) ≤ nI 3 := c3
      rw [nleP (by omega) (by omega)] at c3
      replace hR := ifn c3 hR
      refine lv_iconst (v := 1) hx hb dX10_isSoundNow_23 (by decide) ?_
      rw [← hQ]
      exact end_i hX hB hA3 rfl rfl (by obtain rfl := hR; exact ⟨rfl, (Or.inr rfl), rfl⟩) (Nat.le_of_ble_eq_true rfl) (Nat.le_of_ble_eq_true rfl) dX10_isSoundNow_24
noncomputable def D_X10_isSound (r : Nat → Nat) (f : Nat → Nat → Int64) (q : Nat → Int32) : Int32 × (Nat → Int32) := bnd1 (D_X10_isSoundNow r f (va_up q 3 0)) (fun (x1 : Int32) => (if x1 = 0 then (0, va_up q 3 0) else (1, va_up q 3 0)))
theorem D_X10_isSound_s {r : Nat → Nat} {f : Nat → Nat → Int64} {q : Nat → Int32} : D_X10_isSound r f q = bnd1 (D_X10_isSoundNow r f (va_up q 3 0)) (fun (x1 : Int32) => (if x1 = 0 then (0, va_up q 3 0) else (1, va_up q 3 0))) := rfl
set_option maxHeartbeats 4000000 in
set_option maxRecDepth 100000 in
theorem k_X10_isSound (κ : Kt) (l : Launch) (w : va_W) (a r : Nat → Nat) (f : Nat → Nat → Int64) (q : Nat → Int32) (hm : mok r f) (o_x : Int32) (o_q' : Nat → Int32) (hR : D_X10_isSound r f q = (o_x, o_q')) : CM κ l yX10_isSound cX10_isSound 1 (some .boolean) 133 3063 11 122 [.ref (a 0)] (mw κ a r f q (tb a) w) (fun o w' => o = some (.int o_x) ∧ (o_x = 0 ∨ o_x = 1) ∧ (o_q' 2 = q 2 ∧ o_q' 0 = q 0 ∧ o_q' 1 = q 1) ∧ w' = mw κ a r f o_q' (tb a) w) := by
  refine CM_begin (plainFor_of_name pn_RX10) (Nat.le_of_ble_eq_true rfl) ?_
  intro p e s m args below meth c A Q hX hnm hA3 hQ hB ls hl
  have hx := hX.1.1
  have hb := hX.1.2.1
  have hl : lv_has ls 1 [(0, .ref (a 0))] := hl
  replace hR := (D_X10_isSound_s).symm.trans hR
  refine lv_aload_n hx hb dX10_isSound_0 rfl (lv_at hl 0 rfl) ?_
  refine lv_iconst (v := 0) hx hb dX10_isSound_1 (by decide) ?_
  refine pf (ty := .int) (k0 := 0) hX hB (mw0x (a := a) (r := r) (f := f) (q := q) (T := tb a) (w := w) rfl) rfl in10 tyX10_ok nmX10 4 (by decide) wm_5_166 rfl rfl rfl rfl rfl (Nat.le_of_ble_eq_true rfl) (w1 := mw κ a r f (va_up q 3 0) (tb a) w) (mwQ3x rfl _) dX10_isSound_2 (fun H locs hB => ?_)
  refine lv_aload_n hx hb dX10_isSound_5 rfl (lv_at hl 0 rfl) ?_
  obtain ⟨x1, hd2⟩ := ex1 (D_X10_isSoundNow r f (va_up q 3 0))
  replace hR := bnd1_use hd2 hR
  refine call_V (n := 0) (k0 := 0) (As := []) (rest := []) hX hB (k_X10_isSoundNow κ l w a r f (va_up q 3 0) hm x1 hd2) ⟨rfl, yk_X10_isSoundNow⟩ wm_7_174 wm_7_176 wp_50 wm_1_6 wm_7_177 ⟨Nat.le_of_ble_eq_true rfl, Nat.le_of_ble_eq_true rfl⟩ ⟨Nat.le_of_ble_eq_true rfl, Nat.le_of_ble_eq_true rfl⟩ (mw0x (a := a) (r := r) (f := f) (q := (va_up q 3 0)) (T := tb a) (w := w) rfl) rfl rfl rfl hl.1 rfl (Nat.le_of_ble_eq_true rfl) dX10_isSound_6 (fun o w' H locs hp hB => ?_)
  obtain ⟨rfl, hf3, hw9⟩ := hp
  replace hB : Bd κ A s (mw κ a r f (va_up q 3 0) (tb a) w) H locs := by rw [hw9] at hB; exact hB
  rcases hf3 with rfl | rfl
  · replace hR := ifp rfl hR
    refine W.eq (g2 := F0 m 9 ls [.int 0]) rfl ?_
    rw [← hQ]
    exact end_i hX hB hA3 rfl rfl (by obtain ⟨rfl, rfl⟩ := pr2 hR; exact ⟨rfl, (Or.inl rfl), ⟨rfl, rfl, rfl⟩, rfl⟩) (Nat.le_of_ble_eq_true rfl) (Nat.le_of_ble_eq_true rfl) dX10_isSound_9
  · replace hR := ifn (by decide) hR
    refine W.eq (g2 := F0 m 9 ls [.int 1]) rfl ?_
    rw [← hQ]
    exact end_i hX hB hA3 rfl rfl (by obtain ⟨rfl, rfl⟩ := pr2 hR; exact ⟨rfl, (Or.inr rfl), ⟨rfl, rfl, rfl⟩, rfl⟩) (Nat.le_of_ble_eq_true rfl) (Nat.le_of_ble_eq_true rfl) dX10_isSound_9
noncomputable def D_X10_digest_120 (r : Nat → Nat) (f : Nat → Nat → Int64) (q : Nat → Int32) (nn : Nat) : Nat → Int64 → Int64 × (Nat → Int32) := @Nat.rec (fun _ => Nat → Int64 → Int64 × (Nat → Int32)) (fun _ _ => default) (fun _ lb120 (y3_120 : Nat) (y1_120 : Int64) => (if (4 : Nat) ≤ y3_120 then bnd1 (D_X10_isSoundNow r f (va_up q 3 0)) (fun (x73 : Int32) => (if x73 = 0 then ((y1_120 * 31) + ((0).toInt64), va_up q 3 0) else ((y1_120 * 31) + ((1).toInt64), va_up q 3 0))) else bnd1 (D_X10_houseNow r f (va_up q 3 0) (nI y3_120)) (fun (x78 : Int32) => (lb120 (y3_120 + 1) ((y1_120 * 31) + ((x78).toInt64)))))) nn
theorem D_X10_digest_120_s {r : Nat → Nat} {f : Nat → Nat → Int64} {q : Nat → Int32} {nn : Nat} {y3_120 : Nat} {y1_120 : Int64} : D_X10_digest_120 r f q (nn + 1) y3_120 y1_120 = (if (4 : Nat) ≤ y3_120 then bnd1 (D_X10_isSoundNow r f (va_up q 3 0)) (fun (x73 : Int32) => (if x73 = 0 then ((y1_120 * 31) + ((0).toInt64), va_up q 3 0) else ((y1_120 * 31) + ((1).toInt64), va_up q 3 0))) else bnd1 (D_X10_houseNow r f (va_up q 3 0) (nI y3_120)) (fun (x78 : Int32) => ((D_X10_digest_120 r f q nn) (y3_120 + 1) ((y1_120 * 31) + ((x78).toInt64))))) := rfl
noncomputable def D_X10_digest_74 (r : Nat → Nat) (f : Nat → Nat → Int64) (y5_21 : Nat) (lb61 : Nat → Int64 → Int64 × (Nat → Int32)) (y7_61 : Nat) (nn : Nat) : Nat → Int64 → Int64 × (Nat → Int32) := @Nat.rec (fun _ => Nat → Int64 → Int64 × (Nat → Int32)) (fun _ _ => default) (fun _ lb74 (y8_74 : Nat) (y1_74 : Int64) => (if (r (2 * y5_21 + 1)) ≤ y8_74 then (lb61 (y7_61 + 1) y1_74) else (lb74 (y8_74 + 1) ((y1_74 * 31) + ((f y5_21) (y7_61 * 5 + y8_74)))))) nn
theorem D_X10_digest_74_s {r : Nat → Nat} {f : Nat → Nat → Int64} {y5_21 : Nat} {lb61 : Nat → Int64 → Int64 × (Nat → Int32)} {y7_61 : Nat} {nn : Nat} {y8_74 : Nat} {y1_74 : Int64} : D_X10_digest_74 r f y5_21 lb61 y7_61 (nn + 1) y8_74 y1_74 = (if (r (2 * y5_21 + 1)) ≤ y8_74 then (lb61 (y7_61 + 1) y1_74) else ((D_X10_digest_74 r f y5_21 lb61 y7_61 nn) (y8_74 + 1) ((y1_74 * 31) + ((f y5_21) (y7_61 * 5 + y8_74))))) := rfl
noncomputable def D_X10_digest_61 (r : Nat → Nat) (f : Nat → Nat → Int64) (lb21 : Nat → Int64 → Int64 × (Nat → Int32)) (y5_21 : Nat) (nn : Nat) : Nat → Int64 → Int64 × (Nat → Int32) := @Nat.rec (fun _ => Nat → Int64 → Int64 × (Nat → Int32)) (fun _ _ => default) (fun _ lb61 (y7_61 : Nat) (y1_61 : Int64) => (if (r (2 * y5_21)) ≤ y7_61 then (lb21 (y5_21 + 1) y1_61) else (D_X10_digest_74 r f y5_21 lb61 y7_61 ((r (2 * y5_21 + 1)) + 1 - 0 + 1) 0 y1_61))) nn
theorem D_X10_digest_61_s {r : Nat → Nat} {f : Nat → Nat → Int64} {lb21 : Nat → Int64 → Int64 × (Nat → Int32)} {y5_21 : Nat} {nn : Nat} {y7_61 : Nat} {y1_61 : Int64} : D_X10_digest_61 r f lb21 y5_21 (nn + 1) y7_61 y1_61 = (if (r (2 * y5_21)) ≤ y7_61 then (lb21 (y5_21 + 1) y1_61) else (D_X10_digest_74 r f y5_21 (D_X10_digest_61 r f lb21 y5_21 nn) y7_61 ((r (2 * y5_21 + 1)) + 1 - 0 + 1) 0 y1_61)) := rfl
noncomputable def D_X10_digest_21 (r : Nat → Nat) (f : Nat → Nat → Int64) (q : Nat → Int32) (nn : Nat) : Nat → Int64 → Int64 × (Nat → Int32) := @Nat.rec (fun _ => Nat → Int64 → Int64 × (Nat → Int32)) (fun _ _ => default) (fun _ lb21 (y5_21 : Nat) (y1_21 : Int64) => (if (4 : Nat) ≤ y5_21 then (D_X10_digest_120 r f q (4 + 1 - 0 + 1) 0 y1_21) else (D_X10_digest_61 r f lb21 y5_21 ((r (2 * y5_21)) + 1 - 0 + 1) 0 ((((y1_21 * 31) + (((nI (r (2 * y5_21)))).toInt64)) * 31) + (((nI (r (2 * y5_21 + 1)))).toInt64))))) nn
theorem D_X10_digest_21_s {r : Nat → Nat} {f : Nat → Nat → Int64} {q : Nat → Int32} {nn : Nat} {y5_21 : Nat} {y1_21 : Int64} : D_X10_digest_21 r f q (nn + 1) y5_21 y1_21 = (if (4 : Nat) ≤ y5_21 then (D_X10_digest_120 r f q (4 + 1 - 0 + 1) 0 y1_21) else (D_X10_digest_61 r f (D_X10_digest_21 r f q nn) y5_21 ((r (2 * y5_21)) + 1 - 0 + 1) 0 ((((y1_21 * 31) + (((nI (r (2 * y5_21)))).toInt64)) * 31) + (((nI (r (2 * y5_21 + 1)))).toInt64)))) := rfl
noncomputable def D_X10_digest (r : Nat → Nat) (f : Nat → Nat → Int64) (q : Nat → Int32) : Int64 × (Nat → Int32) := (D_X10_digest_21 r f q (4 + 1 - 0 + 1) 0 8032)
theorem D_X10_digest_s {r : Nat → Nat} {f : Nat → Nat → Int64} {q : Nat → Int32} : D_X10_digest r f q = (D_X10_digest_21 r f q (4 + 1 - 0 + 1) 0 8032) := rfl
set_option maxHeartbeats 4000000 in
set_option maxRecDepth 100000 in
theorem k_X10_digest (κ : Kt) (l : Launch) (w : va_W) (a r : Nat → Nat) (f : Nat → Nat → Int64) (q : Nat → Int32) (hm : mok r f) (o_x : Int64) (o_q' : Nat → Int32) (hR : D_X10_digest r f q = (o_x, o_q')) : CM κ l yX10_digest cX10_digest 9 (some .long) 133 3063 11 122 [.ref (a 0)] (mw κ a r f q (tb a) w) (fun o w' => o = some (.long o_x) ∧ (o_q' 2 = q 2 ∧ o_q' 0 = q 0 ∧ o_q' 1 = q 1) ∧ w' = mw κ a r f o_q' (tb a) w) := by
  refine CM_begin (plainFor_of_name pn_RX10) (Nat.le_of_ble_eq_true rfl) ?_
  intro p e s m args below meth c A Q hX hnm hA3 hQ hB ls hl
  have hx := hX.1.1
  have hb := hX.1.2.1
  have hl : lv_has ls 9 [(0, .ref (a 0))] := hl
  replace hR := (D_X10_digest_s).symm.trans hR
  refine lv_aload_n hx hb dX10_digest_0 rfl (lv_at hl 0 rfl) ?_
  refine lv_iconst (v := 0) hx hb dX10_digest_1 (by decide) ?_
  refine pf (ty := .int) (k0 := 0) hX hB (mw0x (a := a) (r := r) (f := f) (q := q) (T := tb a) (w := w) rfl) rfl in10 tyX10_ok nmX10 4 (by decide) wm_5_166 rfl rfl rfl rfl rfl (Nat.le_of_ble_eq_true rfl) (w1 := mw κ a r f (va_up q 3 0) (tb a) w) (mwQ3x rfl _) dX10_digest_2 (fun H locs hB => ?_)
  refine lv_ldc2 (own := RX10) (v := 8032) hx hb hX.1.2.2.2.1 (hX.1.2.2.2.2 _ wm_7_182) dX10_digest_5 ?_
  refine lv_lstore_n (lv' := [(1, .long 8032), (0, .ref (a 0))]) hx hb dX10_digest_8 rfl hl (by decide) rfl (fun ls hl => ?_)
  refine lv_aload_n hx hb dX10_digest_9 rfl (lv_at hl 1 rfl) ?_
  refine gf (k0 := 0) hX hB (mw0x (a := a) (r := r) (f := f) (q := (va_up q 3 0)) (T := tb a) (w := w) rfl) rfl in10 0 (by decide) wm_5_162 rfl rfl dX10_digest_10 ?_
  refine lv_astore_n (lv' := [(3, .ref (a 1)), (1, .long 8032), (0, .ref (a 0))]) hx hb dX10_digest_13 rfl hl (by decide) rfl (fun ls hl => ?_)
  refine lv_aload_n hx hb dX10_digest_14 rfl (lv_at hl 0 rfl) ?_
  refine alenM (k0 := 1) (v := 4) hX hB (mw1 (a := a) (r := r) (f := f) (q := (va_up q 3 0)) (T := tb a) (w := w)) rfl dX10_digest_15 ?_
  refine lv_istore (lv' := [(4, .int 4), (3, .ref (a 1)), (1, .long 8032), (0, .ref (a 0))]) hx hb dX10_digest_16 hl (by decide) rfl (fun ls hl => ?_)
  refine lv_iconst (v := 0) hx hb dX10_digest_18 (by decide) ?_
  refine lv_istore (lv' := [(5, .int 0), (4, .int 4), (3, .ref (a 1)), (1, .long 8032), (0, .ref (a 0))]) hx hb dX10_digest_19 hl (by decide) rfl (fun ls hl => ?_)
  have lp21 : ∀ (nn21 : Nat) (y5_21 : Nat) (y1_21 : Int64) (H : Heap) (locs : List Loc), (y5_21 ≤ 4) → 4 + 1 - y5_21 < nn21 → D_X10_digest_21 r f q nn21 y5_21 y1_21 = (o_x, o_q') → Bd κ A s (mw κ a r f (va_up q 3 0) (tb a) w) H locs → ∀ ls : Array Slot, lv_has ls 9 [(5, .int (nI y5_21)), (4, .int 4), (3, .ref (a 1)), (1, .long y1_21), (0, .ref (a 0))] → W p l e (Rm 133 3063 11 122) s m args below meth c H locs (0) (0) Q (F0 m 21 ls []) := by
    intro nn21
    induction nn21 with
    | zero => intro y5_21 y1_21 H locs hn5_21 hμ; exact absurd hμ (Nat.not_lt_zero _)
    | succ nn21 ih21 =>
      intro y5_21 y1_21 H locs hn5_21 hμ21 hR hB ls hl
      replace hR := (D_X10_digest_21_s).symm.trans hR
      refine lv_iload hx hb dX10_digest_21 (lv_at hl 0 rfl) ?_
      refine lv_iload hx hb dX10_digest_23 (lv_at hl 1 rfl) ?_
      refine lv_icmp_ge (tgt := 118) hx hb dX10_digest_25 (by decide) (fun c54 => ?_) (fun c54 => ?_)
      · replace c54 : nI 4 ≤ nI y5_21 := c54
        rw [nleP (by omega) (by omega)] at c54
        replace hR := ifp c54 hR
        refine lv_iconst (v := 0) hx hb dX10_digest_118 (by decide) ?_
        refine lv_istore_n (lv' := [(3, .int 0), (5, .int (nI y5_21)), (4, .int 4), (1, .long y1_21), (0, .ref (a 0))]) hx hb dX10_digest_119 rfl hl (by decide) rfl (fun ls hl => ?_)
        have lp120 : ∀ (nn120 : Nat) (y3_120 : Nat) (y1_120 : Int64) (H : Heap) (locs : List Loc), (y3_120 ≤ 4) → 4 + 1 - y3_120 < nn120 → D_X10_digest_120 r f q nn120 y3_120 y1_120 = (o_x, o_q') → Bd κ A s (mw κ a r f (va_up q 3 0) (tb a) w) H locs → ∀ ls : Array Slot, lv_has ls 9 [(3, .int (nI y3_120)), (5, .int (nI y5_21)), (4, .int 4), (1, .long y1_120), (0, .ref (a 0))] → W p l e (Rm 133 3063 11 122) s m args below meth c H locs (0) (0) Q (F0 m 120 ls []) := by
          intro nn120
          induction nn120 with
          | zero => intro y3_120 y1_120 H locs hn3_120 hμ; exact absurd hμ (Nat.not_lt_zero _)
          | succ nn120 ih120 =>
            intro y3_120 y1_120 H locs hn3_120 hμ120 hR hB ls hl
            replace hR := (D_X10_digest_120_s).symm.trans hR
            refine lv_iload_n hx hb dX10_digest_120 rfl (lv_at hl 0 rfl) ?_
            refine lv_iconst (v := 4) hx hb dX10_digest_121 (by decide) ?_
            refine lv_icmp_ge (tgt := 144) hx hb dX10_digest_122 (by decide) (fun c72 => ?_) (fun c72 => ?_)
            · replace c72 : nI 4 ≤ nI y3_120 := c72
              rw [nleP (by omega) (by omega)] at c72
              replace hR := ifp c72 hR
              refine lv_lload_n hx hb dX10_digest_144 rfl (lv_at hl 3 rfl) ?_
              refine lv_ldc2 (own := RX10) (v := 31) hx hb hX.1.2.2.2.1 (hX.1.2.2.2.2 _ wm_7_183) dX10_digest_145 ?_
              refine lv_lmul hx hb dX10_digest_148 ?_
              refine lv_aload_n hx hb dX10_digest_149 rfl (lv_at hl 4 rfl) ?_
              obtain ⟨x73, hd74⟩ := ex1 (D_X10_isSoundNow r f (va_up q 3 0))
              replace hR := bnd1_use hd74 hR
              refine call_V (n := 0) (k0 := 0) (As := []) (rest := [.long (y1_120 * 31)]) hX hB (k_X10_isSoundNow κ l w a r f (va_up q 3 0) hm x73 hd74) ⟨rfl, yk_X10_isSoundNow⟩ wm_7_174 wm_7_176 wp_50 wm_1_6 wm_7_177 ⟨Nat.le_of_ble_eq_true rfl, Nat.le_of_ble_eq_true rfl⟩ ⟨Nat.le_of_ble_eq_true rfl, Nat.le_of_ble_eq_true rfl⟩ (mw0x (a := a) (r := r) (f := f) (q := (va_up q 3 0)) (T := tb a) (w := w) rfl) rfl rfl rfl hl.1 rfl (Nat.le_of_ble_eq_true rfl) dX10_digest_150 (fun o w' H locs hp hB => ?_)
              obtain ⟨rfl, hf75, hw9⟩ := hp
              replace hB : Bd κ A s (mw κ a r f (va_up q 3 0) (tb a) w) H locs := by rw [hw9] at hB; exact hB
              rcases hf75 with rfl | rfl
              · replace hR := ifp rfl hR
                refine W.eq (g2 := F0 m 153 ls [.int 0, .long (y1_120 * 31)]) rfl ?_
                refine lv_if_eq (tgt := 160) hx hb dX10_digest_153 (by decide) (fun _ => ?_) (fun c76 => False.elim (by revert c76; decide))
                refine lv_iconst (v := 0) hx hb dX10_digest_160 (by decide) ?_
                refine lv_i2l hx hb dX10_digest_161 rfl ?_
                refine lv_ladd hx hb dX10_digest_162 ?_
                rw [← hQ]
                exact end_l hX hB hA3 rfl (by obtain ⟨rfl, rfl⟩ := pr2 hR; exact ⟨rfl, ⟨rfl, rfl, rfl⟩, rfl⟩) (Nat.le_of_ble_eq_true rfl) (Nat.le_of_ble_eq_true rfl) dX10_digest_163
              · replace hR := ifn (by decide) hR
                refine W.eq (g2 := F0 m 153 ls [.int 1, .long (y1_120 * 31)]) rfl ?_
                refine lv_if_eq (tgt := 160) hx hb dX10_digest_153 (by decide) (fun c77 => False.elim (by revert c77; decide)) (fun _ => ?_)
                refine lv_iconst (v := 1) hx hb dX10_digest_156 (by decide) ?_
                refine lv_goto (tgt := 161) hx hb dX10_digest_157 (by decide) ?_
                refine lv_i2l hx hb dX10_digest_161 rfl ?_
                refine lv_ladd hx hb dX10_digest_162 ?_
                rw [← hQ]
                exact end_l hX hB hA3 rfl (by obtain ⟨rfl, rfl⟩ := pr2 hR; exact ⟨rfl, ⟨rfl, rfl, rfl⟩, rfl⟩) (Nat.le_of_ble_eq_true rfl) (Nat.le_of_ble_eq_true rfl) dX10_digest_163
            · replace c72 : ¬ nI 4 ≤ nI y3_120 := c72
              rw [nleP (by omega) (by omega)] at c72
              replace hR := ifn c72 hR
              refine lv_lload_n hx hb dX10_digest_125 rfl (lv_at hl 3 rfl) ?_
              refine lv_ldc2 (own := RX10) (v := 31) hx hb hX.1.2.2.2.1 (hX.1.2.2.2.2 _ wm_7_183) dX10_digest_126 ?_
              refine lv_lmul hx hb dX10_digest_129 ?_
              refine lv_aload_n hx hb dX10_digest_130 rfl (lv_at hl 4 rfl) ?_
              refine lv_iload_n hx hb dX10_digest_131 rfl (lv_at hl 0 rfl) ?_
              obtain ⟨x78, hd79⟩ := ex1 (D_X10_houseNow r f (va_up q 3 0) (nI y3_120))
              replace hR := bnd1_use hd79 hR
              refine call_V (n := 1) (k0 := 0) (As := [.int (nI y3_120)]) (rest := [.long (y1_120 * 31)]) hX hB (k_X10_houseNow κ l w a r f (va_up q 3 0) (nI y3_120) hm x78 hd79) ⟨rfl, yk_X10_houseNow⟩ wm_7_162 wm_7_164 wp_49 wm_1_6 wm_7_165 ⟨Nat.le_of_ble_eq_true rfl, Nat.le_of_ble_eq_true rfl⟩ ⟨Nat.le_of_ble_eq_true rfl, Nat.le_of_ble_eq_true rfl⟩ (mw0x (a := a) (r := r) (f := f) (q := (va_up q 3 0)) (T := tb a) (w := w) rfl) rfl rfl rfl hl.1 rfl (Nat.le_of_ble_eq_true rfl) dX10_digest_132 (fun o w' H locs hp hB => ?_)
              obtain ⟨rfl, hw9⟩ := hp
              replace hB : Bd κ A s (mw κ a r f (va_up q 3 0) (tb a) w) H locs := by rw [hw9] at hB; exact hB
              refine W.eq (g2 := F0 m 135 ls [.int x78, .long (y1_120 * 31)]) rfl ?_
              refine lv_i2l hx hb dX10_digest_135 rfl ?_
              refine lv_ladd hx hb dX10_digest_136 ?_
              refine lv_lstore_n (lv' := [(1, .long ((y1_120 * 31) + ((x78).toInt64))), (3, .int (nI y3_120)), (5, .int (nI y5_21)), (4, .int 4), (0, .ref (a 0))]) hx hb dX10_digest_137 rfl hl (by decide) rfl (fun ls hl => ?_)
              refine lv_iinc (v := nI (y3_120 + 1)) (lv' := [(3, .int (nI (y3_120 + 1))), (1, .long ((y1_120 * 31) + ((x78).toInt64))), (5, .int (nI y5_21)), (4, .int 4), (0, .ref (a 0))]) hx hb dX10_digest_138 hl (k := 1) rfl (nI_add y3_120 1) (by decide) rfl (fun ls hl => ?_)
              refine lv_goto (tgt := 120) hx hb dX10_digest_141 (by decide) ?_
              exact ih120 (y3_120 + 1) ((y1_120 * 31) + ((x78).toInt64)) _ _ (by omega) (by omega) hR hB _ (lv_sub hl [0, 2, 3, 1, 4] rfl)
        exact lp120 _ 0 y1_21 _ _ (by omega) (Nat.lt_succ_self _) hR hB _ hl
      · replace c54 : ¬ nI 4 ≤ nI y5_21 := c54
        rw [nleP (by omega) (by omega)] at c54
        replace hR := ifn c54 hR
        refine lv_aload_n hx hb dX10_digest_28 rfl (lv_at hl 2 rfl) ?_
        refine lv_iload hx hb dX10_digest_29 (lv_at hl 0 rfl) ?_
        refine aaldM (k0 := 1) hX hB (mw1 (a := a) (r := r) (f := f) (q := (va_up q 3 0)) (T := tb a) (w := w)) (vp_in_nI (n := y5_21) (by omega) (by omega)) (congrArg (tb a) (nI_clamp (n := y5_21) (by omega))) dX10_digest_31 ?_
        have hb80 := mok_r hm y5_21 (by omega)
        refine lv_astore (lv' := [(6, .ref (a (2 + 2 * y5_21))), (5, .int (nI y5_21)), (4, .int 4), (3, .ref (a 1)), (1, .long y1_21), (0, .ref (a 0))]) hx hb dX10_digest_32 hl (by decide) rfl (fun ls hl => ?_)
        refine lv_lload_n hx hb dX10_digest_34 rfl (lv_at hl 4 rfl) ?_
        refine lv_ldc2 (own := RX10) (v := 31) hx hb hX.1.2.2.2.1 (hX.1.2.2.2.2 _ wm_7_183) dX10_digest_35 ?_
        refine lv_lmul hx hb dX10_digest_38 ?_
        refine lv_aload hx hb dX10_digest_39 (lv_at hl 0 rfl) ?_
        refine gf (k0 := 2 + 2 * y5_21) hX hB (mwG (i := y5_21) (a := a) (r := r) (f := f) (q := (va_up q 3 0)) (T := tb a) (w := w) (by omega)) rfl in7 0 (by decide) wm_5_148 rfl rfl dX10_digest_41 ?_
        refine lv_i2l hx hb dX10_digest_44 rfl ?_
        refine lv_ladd hx hb dX10_digest_45 ?_
        refine lv_ldc2 (own := RX10) (v := 31) hx hb hX.1.2.2.2.1 (hX.1.2.2.2.2 _ wm_7_183) dX10_digest_46 ?_
        refine lv_lmul hx hb dX10_digest_49 ?_
        refine lv_aload hx hb dX10_digest_50 (lv_at hl 0 rfl) ?_
        refine gf (k0 := 2 + 2 * y5_21) hX hB (mwG (i := y5_21) (a := a) (r := r) (f := f) (q := (va_up q 3 0)) (T := tb a) (w := w) (by omega)) rfl in7 1 (by decide) wm_5_152 rfl rfl dX10_digest_52 ?_
        refine lv_i2l hx hb dX10_digest_55 rfl ?_
        refine lv_ladd hx hb dX10_digest_56 ?_
        refine lv_lstore_n (lv' := [(1, .long ((((y1_21 * 31) + (((nI (r (2 * y5_21)))).toInt64)) * 31) + (((nI (r (2 * y5_21 + 1)))).toInt64))), (6, .ref (a (2 + 2 * y5_21))), (5, .int (nI y5_21)), (4, .int 4), (3, .ref (a 1)), (0, .ref (a 0))]) hx hb dX10_digest_57 rfl hl (by decide) rfl (fun ls hl => ?_)
        refine lv_iconst (v := 0) hx hb dX10_digest_58 (by decide) ?_
        refine lv_istore (lv' := [(7, .int 0), (1, .long ((((y1_21 * 31) + (((nI (r (2 * y5_21)))).toInt64)) * 31) + (((nI (r (2 * y5_21 + 1)))).toInt64))), (6, .ref (a (2 + 2 * y5_21))), (5, .int (nI y5_21)), (4, .int 4), (3, .ref (a 1)), (0, .ref (a 0))]) hx hb dX10_digest_59 hl (by decide) rfl (fun ls hl => ?_)
        have lp61 : ∀ (nn61 : Nat) (y7_61 : Nat) (y1_61 : Int64) (H : Heap) (locs : List Loc), (y7_61 ≤ (r (2 * y5_21))) → (r (2 * y5_21)) + 1 - y7_61 < nn61 → D_X10_digest_61 r f (D_X10_digest_21 r f q nn21) y5_21 nn61 y7_61 y1_61 = (o_x, o_q') → Bd κ A s (mw κ a r f (va_up q 3 0) (tb a) w) H locs → ∀ ls : Array Slot, lv_has ls 9 [(7, .int (nI y7_61)), (1, .long y1_61), (6, .ref (a (2 + 2 * y5_21))), (5, .int (nI y5_21)), (4, .int 4), (3, .ref (a 1)), (0, .ref (a 0))] → W p l e (Rm 133 3063 11 122) s m args below meth c H locs (0) (0) Q (F0 m 61 ls []) := by
          intro nn61
          induction nn61 with
          | zero => intro y7_61 y1_61 H locs hn7_61 hμ; exact absurd hμ (Nat.not_lt_zero _)
          | succ nn61 ih61 =>
            intro y7_61 y1_61 H locs hn7_61 hμ61 hR hB ls hl
            replace hR := (D_X10_digest_61_s).symm.trans hR
            refine lv_iload hx hb dX10_digest_61 (lv_at hl 0 rfl) ?_
            refine lv_aload hx hb dX10_digest_63 (lv_at hl 2 rfl) ?_
            refine gf (k0 := 2 + 2 * y5_21) hX hB (mwG (i := y5_21) (a := a) (r := r) (f := f) (q := (va_up q 3 0)) (T := tb a) (w := w) (by omega)) rfl in7 0 (by decide) wm_5_148 rfl rfl dX10_digest_65 ?_
            refine lv_icmp_ge (tgt := 112) hx hb dX10_digest_68 (by decide) (fun c89 => ?_) (fun c89 => ?_)
            · rw [nleP (a := r (2 * y5_21)) (b := y7_61) (by omega) (by omega)] at c89
              replace hR := ifp c89 hR
              refine lv_iinc (v := nI (y5_21 + 1)) (lv' := [(5, .int (nI (y5_21 + 1))), (7, .int (nI y7_61)), (1, .long y1_61), (6, .ref (a (2 + 2 * y5_21))), (4, .int 4), (3, .ref (a 1)), (0, .ref (a 0))]) hx hb dX10_digest_112 hl (k := 3) rfl (nI_add y5_21 1) (by decide) rfl (fun ls hl => ?_)
              refine lv_goto (tgt := 21) hx hb dX10_digest_115 (by decide) ?_
              exact ih21 (y5_21 + 1) y1_61 _ _ (by omega) (by omega) hR hB _ (lv_sub hl [0, 4, 5, 2, 6] rfl)
            · rw [nleP (a := r (2 * y5_21)) (b := y7_61) (by omega) (by omega)] at c89
              replace hR := ifn c89 hR
              refine lv_iconst (v := 0) hx hb dX10_digest_71 (by decide) ?_
              refine lv_istore (lv' := [(8, .int 0), (7, .int (nI y7_61)), (1, .long y1_61), (6, .ref (a (2 + 2 * y5_21))), (5, .int (nI y5_21)), (4, .int 4), (3, .ref (a 1)), (0, .ref (a 0))]) hx hb dX10_digest_72 hl (by decide) rfl (fun ls hl => ?_)
              have lp74 : ∀ (nn74 : Nat) (y8_74 : Nat) (y1_74 : Int64) (H : Heap) (locs : List Loc), (y8_74 ≤ (r (2 * y5_21 + 1))) → (r (2 * y5_21 + 1)) + 1 - y8_74 < nn74 → D_X10_digest_74 r f y5_21 (D_X10_digest_61 r f (D_X10_digest_21 r f q nn21) y5_21 nn61) y7_61 nn74 y8_74 y1_74 = (o_x, o_q') → Bd κ A s (mw κ a r f (va_up q 3 0) (tb a) w) H locs → ∀ ls : Array Slot, lv_has ls 9 [(8, .int (nI y8_74)), (7, .int (nI y7_61)), (1, .long y1_74), (6, .ref (a (2 + 2 * y5_21))), (5, .int (nI y5_21)), (4, .int 4), (3, .ref (a 1)), (0, .ref (a 0))] → W p l e (Rm 133 3063 11 122) s m args below meth c H locs (0) (0) Q (F0 m 74 ls []) := by
                intro nn74
                induction nn74 with
                | zero => intro y8_74 y1_74 H locs hn8_74 hμ; exact absurd hμ (Nat.not_lt_zero _)
                | succ nn74 ih74 =>
                  intro y8_74 y1_74 H locs hn8_74 hμ74 hR hB ls hl
                  replace hR := (D_X10_digest_74_s).symm.trans hR
                  refine lv_iload hx hb dX10_digest_74 (lv_at hl 0 rfl) ?_
                  refine lv_aload hx hb dX10_digest_76 (lv_at hl 3 rfl) ?_
                  refine gf (k0 := 2 + 2 * y5_21) hX hB (mwG (i := y5_21) (a := a) (r := r) (f := f) (q := (va_up q 3 0)) (T := tb a) (w := w) (by omega)) rfl in7 1 (by decide) wm_5_152 rfl rfl dX10_digest_78 ?_
                  refine lv_icmp_ge (tgt := 106) hx hb dX10_digest_81 (by decide) (fun c92 => ?_) (fun c92 => ?_)
                  · rw [nleP (a := r (2 * y5_21 + 1)) (b := y8_74) (by omega) (by omega)] at c92
                    replace hR := ifp c92 hR
                    refine lv_iinc (v := nI (y7_61 + 1)) (lv' := [(7, .int (nI (y7_61 + 1))), (8, .int (nI y8_74)), (1, .long y1_74), (6, .ref (a (2 + 2 * y5_21))), (5, .int (nI y5_21)), (4, .int 4), (3, .ref (a 1)), (0, .ref (a 0))]) hx hb dX10_digest_106 hl (k := 1) rfl (nI_add y7_61 1) (by decide) rfl (fun ls hl => ?_)
                    refine lv_goto (tgt := 61) hx hb dX10_digest_109 (by decide) ?_
                    exact ih61 (y7_61 + 1) y1_74 _ _ (by omega) (by omega) hR hB _ (lv_sub hl [0, 2, 3, 4, 5, 6, 7] rfl)
                  · rw [nleP (a := r (2 * y5_21 + 1)) (b := y8_74) (by omega) (by omega)] at c92
                    replace hR := ifn c92 hR
                    refine lv_lload_n hx hb dX10_digest_84 rfl (lv_at hl 2 rfl) ?_
                    refine lv_ldc2 (own := RX10) (v := 31) hx hb hX.1.2.2.2.1 (hX.1.2.2.2.2 _ wm_7_183) dX10_digest_85 ?_
                    refine lv_lmul hx hb dX10_digest_88 ?_
                    refine lv_aload hx hb dX10_digest_89 (lv_at hl 3 rfl) ?_
                    refine lv_iload hx hb dX10_digest_91 (lv_at hl 1 rfl) ?_
                    refine lv_iload hx hb dX10_digest_93 (lv_at hl 0 rfl) ?_
                    refine call_V (n := 2) (k0 := (2 + 2 * y5_21)) (As := [.int (nI y7_61), .int (nI y8_74)]) (rest := [.long (y1_74 * 31)]) hX hB (k_X7_at κ l (mw κ a r f (va_up q 3 0) (tb a) w) (2 + 2 * y5_21) (3 + 2 * y5_21) (a (2 + 2 * y5_21)) (a (3 + 2 * y5_21)) (r (2 * y5_21)) (r (2 * y5_21 + 1)) (f y5_21) (nI y7_61) y7_61 (nI y8_74) y8_74 (mwG (i := y5_21) (a := a) (r := r) (f := f) (q := (va_up q 3 0)) (T := tb a) (w := w) (by omega)) (mwA (i := y5_21) (a := a) (r := r) (f := f) (q := (va_up q 3 0)) (T := tb a) (w := w) (by omega)) (mok_shp (i := y5_21) hm (by omega)) rfl rfl (by omega)) ⟨rfl, yk_X7_at⟩ wm_5_237 wm_5_238 wm_5_239 wm_1_7 wm_6_0 ⟨Nat.le_of_ble_eq_true rfl, Nat.le_of_ble_eq_true rfl⟩ ⟨Nat.le_of_ble_eq_true rfl, Nat.le_of_ble_eq_true rfl⟩ (mwG (i := y5_21) (a := a) (r := r) (f := f) (q := (va_up q 3 0)) (T := tb a) (w := w) (by omega)) rfl rfl rfl hl.1 rfl (Nat.le_of_ble_eq_true rfl) dX10_digest_95 (fun o w' H locs hp hB => ?_)
                    obtain ⟨rfl, hw9⟩ := hp
                    replace hB : Bd κ A s (mw κ a r f (va_up q 3 0) (tb a) w) H locs := by rw [hw9] at hB; exact hB
                    refine W.eq (g2 := F0 m 98 ls [.long ((f y5_21) (y7_61 * 5 + y8_74)), .long (y1_74 * 31)]) rfl ?_
                    refine lv_ladd hx hb dX10_digest_98 ?_
                    refine lv_lstore_n (lv' := [(1, .long ((y1_74 * 31) + ((f y5_21) (y7_61 * 5 + y8_74)))), (8, .int (nI y8_74)), (7, .int (nI y7_61)), (6, .ref (a (2 + 2 * y5_21))), (5, .int (nI y5_21)), (4, .int 4), (3, .ref (a 1)), (0, .ref (a 0))]) hx hb dX10_digest_99 rfl hl (by decide) rfl (fun ls hl => ?_)
                    refine lv_iinc (v := nI (y8_74 + 1)) (lv' := [(8, .int (nI (y8_74 + 1))), (1, .long ((y1_74 * 31) + ((f y5_21) (y7_61 * 5 + y8_74)))), (7, .int (nI y7_61)), (6, .ref (a (2 + 2 * y5_21))), (5, .int (nI y5_21)), (4, .int 4), (3, .ref (a 1)), (0, .ref (a 0))]) hx hb dX10_digest_100 hl (k := 1) rfl (nI_add y8_74 1) (by decide) rfl (fun ls hl => ?_)
                    refine lv_goto (tgt := 74) hx hb dX10_digest_103 (by decide) ?_
                    exact ih74 (y8_74 + 1) ((y1_74 * 31) + ((f y5_21) (y7_61 * 5 + y8_74))) _ _ (by omega) (by omega) hR hB _ (lv_sub hl [0, 2, 1, 3, 4, 5, 6, 7] rfl)
              exact lp74 _ 0 y1_61 _ _ (by omega) (Nat.lt_succ_self _) hR hB _ hl
        exact lp61 _ 0 ((((y1_21 * 31) + (((nI (r (2 * y5_21)))).toInt64)) * 31) + (((nI (r (2 * y5_21 + 1)))).toInt64)) _ _ (by omega) (Nat.lt_succ_self _) hR hB _ hl
  exact lp21 _ 0 8032 _ _ (by omega) (Nat.lt_succ_self _) hR hB _ hl
noncomputable def D_X10_restOf_166 (r : Nat → Nat) (y : Int32) (F33 : Nat → Int64) (lb136 : Nat → Int64 → (Nat → Int64) → Int32 × (Nat → Int32)) (y10_136 : Nat) (y8_136 : Int64) (x100 : Int64) (nn : Nat) : Nat → (Nat → Int64) → Int32 × (Nat → Int32) := @Nat.rec (fun _ => Nat → (Nat → Int64) → Int32 × (Nat → Int32)) (fun _ _ => default) (fun _ lb166 (y13_166 : Nat) (fq55_166 : Nat → Int64) => (if (r (2 * y.toNatClampNeg + 1)) ≤ y13_166 then (lb136 (y10_136 + 1) ((y8_136 * (F33 (y10_136 * 5 + y10_136))) + (fq55_166 y10_136)) fq55_166) else (lb166 (y13_166 + 1) (vp_updL fq55_166 y13_166 ((fq55_166 y13_166) - (x100 * (F33 (y10_136 * 5 + y13_166)))))))) nn
theorem D_X10_restOf_166_s {r : Nat → Nat} {y : Int32} {F33 : Nat → Int64} {lb136 : Nat → Int64 → (Nat → Int64) → Int32 × (Nat → Int32)} {y10_136 : Nat} {y8_136 : Int64} {x100 : Int64} {nn : Nat} {y13_166 : Nat} {fq55_166 : Nat → Int64} : D_X10_restOf_166 r y F33 lb136 y10_136 y8_136 x100 (nn + 1) y13_166 fq55_166 = (if (r (2 * y.toNatClampNeg + 1)) ≤ y13_166 then (lb136 (y10_136 + 1) ((y8_136 * (F33 (y10_136 * 5 + y10_136))) + (fq55_166 y10_136)) fq55_166) else ((D_X10_restOf_166 r y F33 lb136 y10_136 y8_136 x100 nn) (y13_166 + 1) (vp_updL fq55_166 y13_166 ((fq55_166 y13_166) - (x100 * (F33 (y10_136 * 5 + y13_166))))))) := rfl
noncomputable def D_X10_restOf_136 (r : Nat → Nat) (q : Nat → Int32) (y : Int32) (t24 : Int32) (F33 : Nat → Int64) (t51 : Int32) (nn : Nat) : Nat → Int64 → (Nat → Int64) → Int32 × (Nat → Int32) := @Nat.rec (fun _ => Nat → Int64 → (Nat → Int64) → Int32 × (Nat → Int32)) (fun _ _ _ => default) (fun _ lb136 (y10_136 : Nat) (y8_136 : Int64) (fq55_136 : Nat → Int64) => (if (r (2 * y.toNatClampNeg + 1)) ≤ y10_136 then ((y8_136).toInt32, va_up (va_up q 3 t24) 3 t51) else nm ((fdv (fq55_136 y10_136) (F33 (y10_136 * 5 + y10_136))) : Int64) (fun (x100 : Int64) => (D_X10_restOf_166 r y F33 lb136 y10_136 y8_136 x100 ((r (2 * y.toNatClampNeg + 1)) + 1 - 0 + 1) 0 fq55_136)))) nn
theorem D_X10_restOf_136_s {r : Nat → Nat} {q : Nat → Int32} {y : Int32} {t24 : Int32} {F33 : Nat → Int64} {t51 : Int32} {nn : Nat} {y10_136 : Nat} {y8_136 : Int64} {fq55_136 : Nat → Int64} : D_X10_restOf_136 r q y t24 F33 t51 (nn + 1) y10_136 y8_136 fq55_136 = (if (r (2 * y.toNatClampNeg + 1)) ≤ y10_136 then ((y8_136).toInt32, va_up (va_up q 3 t24) 3 t51) else nm ((fdv (fq55_136 y10_136) (F33 (y10_136 * 5 + y10_136))) : Int64) (fun (x100 : Int64) => (D_X10_restOf_166 r y F33 (D_X10_restOf_136 r q y t24 F33 t51 nn) y10_136 y8_136 x100 ((r (2 * y.toNatClampNeg + 1)) + 1 - 0 + 1) 0 fq55_136))) := rfl
noncomputable def D_X10_restOf_103 (r : Nat → Nat) (f : Nat → Nat → Int64) (q : Nat → Int32) (y : Int32) (z : Int32) (u : Int32) (t24 : Int32) (F33 : Nat → Int64) (t51 : Int32) (nn : Nat) : Nat → (Nat → Int64) → Int32 × (Nat → Int32) := @Nat.rec (fun _ => Nat → (Nat → Int64) → Int32 × (Nat → Int32)) (fun _ _ => default) (fun _ lb103 (y8_103 : Nat) (fq55_103 : Nat → Int64) => (if (r (2 * y.toNatClampNeg + 1)) ≤ y8_103 then (D_X10_restOf_136 r q y t24 F33 t51 ((r (2 * y.toNatClampNeg + 1)) + 1 - 0 + 1) 0 0 fq55_103) else (lb103 (y8_103 + 1) (vp_updL fq55_103 y8_103 ((f z.toNatClampNeg) (((u).toNatClampNeg) * 5 + y8_103)))))) nn
theorem D_X10_restOf_103_s {r : Nat → Nat} {f : Nat → Nat → Int64} {q : Nat → Int32} {y : Int32} {z : Int32} {u : Int32} {t24 : Int32} {F33 : Nat → Int64} {t51 : Int32} {nn : Nat} {y8_103 : Nat} {fq55_103 : Nat → Int64} : D_X10_restOf_103 r f q y z u t24 F33 t51 (nn + 1) y8_103 fq55_103 = (if (r (2 * y.toNatClampNeg + 1)) ≤ y8_103 then (D_X10_restOf_136 r q y t24 F33 t51 ((r (2 * y.toNatClampNeg + 1)) + 1 - 0 + 1) 0 0 fq55_103) else ((D_X10_restOf_103 r f q y z u t24 F33 t51 nn) (y8_103 + 1) (vp_updL fq55_103 y8_103 ((f z.toNatClampNeg) (((u).toNatClampNeg) * 5 + y8_103))))) := rfl
noncomputable def D_X10_restOf (r : Nat → Nat) (f : Nat → Nat → Int64) (q : Nat → Int32) (y : Int32) (z : Int32) (u : Int32) : Int32 × (Nat → Int32) := bnd1 (D_X10_isTable y) (fun (z1 : Int32) => (if z1 = 0 then bnd2 (D_X10_isThrown__ (q 0) (q 1) (q 2) (q 3) 1) (fun (x6 : Int32) (t7 : Int32) => (0, va_up q 3 t7)) else bnd1 (D_X10_isRow r f q z u) (fun (x12 : Int32) => (if x12 = 0 then bnd2 (D_X10_isThrown__ (q 0) (q 1) (q 2) (q 3) 1) (fun (x17 : Int32) (t18 : Int32) => (0, va_up q 3 t18)) else bnd2 (D_X10_isThrown__ (q 0) (q 1) (q 2) (q 3) 0) (fun (x23 : Int32) (t24 : Int32) => bnd4 (D_X10_leaving (r (2 * y.toNatClampNeg)) (r (2 * y.toNatClampNeg + 1)) (f y.toNatClampNeg)) (fun (z30 : Int32) (R31 : Nat) (C32 : Nat) (F33 : Nat → Int64) => (if z30 = 0 then (if (r (2 * y.toNatClampNeg + 1)) = (r (2 * z.toNatClampNeg + 1)) then bnd2 (D_X10_isThrown ((va_up q 3 t24) 0) ((va_up q 3 t24) 1) ((va_up q 3 t24) 2) ((va_up q 3 t24) 3) 0 1 0) (fun (x39 : Int32) (t40 : Int32) => (0, va_up (va_up q 3 t24) 3 t40)) else bnd2 (D_X10_isThrown ((va_up q 3 t24) 0) ((va_up q 3 t24) 1) ((va_up q 3 t24) 2) ((va_up q 3 t24) 3) 0 1 1) (fun (x44 : Int32) (t45 : Int32) => (0, va_up (va_up q 3 t24) 3 t45))) else (if (r (2 * y.toNatClampNeg + 1)) = (r (2 * z.toNatClampNeg + 1)) then bnd2 (D_X10_isThrown ((va_up q 3 t24) 0) ((va_up q 3 t24) 1) ((va_up q 3 t24) 2) ((va_up q 3 t24) 3) 0 0 0) (fun (x50 : Int32) (t51 : Int32) => (D_X10_restOf_103 r f q y z u t24 F33 t51 ((r (2 * y.toNatClampNeg + 1)) + 1 - 0 + 1) 0 (fun _ => 0))) else bnd2 (D_X10_isThrown ((va_up q 3 t24) 0) ((va_up q 3 t24) 1) ((va_up q 3 t24) 2) ((va_up q 3 t24) 3) 0 0 1) (fun (x104 : Int32) (t105 : Int32) => (0, va_up (va_up q 3 t24) 3 t105))))))))))
theorem D_X10_restOf_s {r : Nat → Nat} {f : Nat → Nat → Int64} {q : Nat → Int32} {y : Int32} {z : Int32} {u : Int32} : D_X10_restOf r f q y z u = bnd1 (D_X10_isTable y) (fun (z1 : Int32) => (if z1 = 0 then bnd2 (D_X10_isThrown__ (q 0) (q 1) (q 2) (q 3) 1) (fun (x6 : Int32) (t7 : Int32) => (0, va_up q 3 t7)) else bnd1 (D_X10_isRow r f q z u) (fun (x12 : Int32) => (if x12 = 0 then bnd2 (D_X10_isThrown__ (q 0) (q 1) (q 2) (q 3) 1) (fun (x17 : Int32) (t18 : Int32) => (0, va_up q 3 t18)) else bnd2 (D_X10_isThrown__ (q 0) (q 1) (q 2) (q 3) 0) (fun (x23 : Int32) (t24 : Int32) => bnd4 (D_X10_leaving (r (2 * y.toNatClampNeg)) (r (2 * y.toNatClampNeg + 1)) (f y.toNatClampNeg)) (fun (z30 : Int32) (R31 : Nat) (C32 : Nat) (F33 : Nat → Int64) => (if z30 = 0 then (if (r (2 * y.toNatClampNeg + 1)) = (r (2 * z.toNatClampNeg + 1)) then bnd2 (D_X10_isThrown ((va_up q 3 t24) 0) ((va_up q 3 t24) 1) ((va_up q 3 t24) 2) ((va_up q 3 t24) 3) 0 1 0) (fun (x39 : Int32) (t40 : Int32) => (0, va_up (va_up q 3 t24) 3 t40)) else bnd2 (D_X10_isThrown ((va_up q 3 t24) 0) ((va_up q 3 t24) 1) ((va_up q 3 t24) 2) ((va_up q 3 t24) 3) 0 1 1) (fun (x44 : Int32) (t45 : Int32) => (0, va_up (va_up q 3 t24) 3 t45))) else (if (r (2 * y.toNatClampNeg + 1)) = (r (2 * z.toNatClampNeg + 1)) then bnd2 (D_X10_isThrown ((va_up q 3 t24) 0) ((va_up q 3 t24) 1) ((va_up q 3 t24) 2) ((va_up q 3 t24) 3) 0 0 0) (fun (x50 : Int32) (t51 : Int32) => (D_X10_restOf_103 r f q y z u t24 F33 t51 ((r (2 * y.toNatClampNeg + 1)) + 1 - 0 + 1) 0 (fun _ => 0))) else bnd2 (D_X10_isThrown ((va_up q 3 t24) 0) ((va_up q 3 t24) 1) ((va_up q 3 t24) 2) ((va_up q 3 t24) 3) 0 0 1) (fun (x104 : Int32) (t105 : Int32) => (0, va_up (va_up q 3 t24) 3 t105)))))))))) := rfl
set_option maxHeartbeats 4000000 in
set_option maxRecDepth 100000 in
theorem k_X10_restOf (κ : Kt) (l : Launch) (w : va_W) (a r : Nat → Nat) (f : Nat → Nat → Int64) (q : Nat → Int32) (y : Int32) (z : Int32) (u : Int32) (hm : mok r f) (o_x : Int32) (o_q' : Nat → Int32) (hR : D_X10_restOf r f q y z u = (o_x, o_q')) : CM κ l yX10_restOf cX10_restOf 14 (some .int) 8 209 6 70 [.ref (a 0), .int y, .int z, .int u] (mw κ a r f q (tb a) w) (fun o w' => o = some (.int o_x) ∧ (o_q' 2 = q 2 ∧ o_q' 0 = q 0 ∧ o_q' 1 = q 1) ∧ w' = mw κ a r f o_q' (tb a) w) := by
  refine CM_begin (plainFor_of_name pn_RX10) (Nat.le_of_ble_eq_true rfl) ?_
  intro p e s m args below meth c A Q hX hnm hA3 hQ hB ls hl
  have hx := hX.1.1
  have hb := hX.1.2.1
  have hl : lv_has ls 14 [(0, .ref (a 0)), (1, .int y), (2, .int z), (3, .int u)] := hl
  replace hR := (D_X10_restOf_s).symm.trans hR
  refine lv_aload_n hx hb dX10_restOf_0 rfl (lv_at hl 0 rfl) ?_
  refine lv_iload_n hx hb dX10_restOf_1 rfl (lv_at hl 1 rfl) ?_
  obtain ⟨z1, hd2⟩ := ex1 (D_X10_isTable y)
  replace hR := bnd1_use hd2 hR
  refine call_S (n := 1) (As := [.int y]) (rest := [.ref (a 0)]) hX hB (k_X10_isTable κ l (mw κ a r f q (tb a) w) y z1 hd2) yk_X10_isTable wm_5_186 wm_5_187 wm_1_6 wm_5_188 ⟨Nat.le_of_ble_eq_true rfl, Nat.le_of_ble_eq_true rfl⟩ ⟨Nat.le_of_ble_eq_true rfl, Nat.le_of_ble_eq_true rfl⟩ rfl hl.1 rfl (Nat.le_of_ble_eq_true rfl) dX10_restOf_2 (fun o w' H locs hp hB => ?_)
  obtain ⟨rfl, hf3, hw9⟩ := hp
  replace hB : Bd κ A s (mw κ a r f q (tb a) w) H locs := by rw [hw9] at hB; exact hB
  rcases hf3 with rfl | ⟨rfl, hz4a, hz4b⟩
  · replace hR := ifp rfl hR
    refine W.eq (g2 := F0 m 5 ls [.int 0, .ref (a 0)]) rfl ?_
    refine lv_if_eq (tgt := 17) hx hb dX10_restOf_5 (by decide) (fun _ => ?_) (fun c5 => False.elim (by revert c5; decide))
    refine lv_iconst (v := 1) hx hb dX10_restOf_17 (by decide) ?_
    refine lv_goto (tgt := 22) hx hb dX10_restOf_18 (by decide) ?_
    obtain ⟨x6, t7, hd8⟩ := ex2 (D_X10_isThrown__ (q 0) (q 1) (q 2) (q 3) 1)
    replace hR := bnd2_use hd8 hR
    refine call_V (n := 1) (k0 := 0) (As := [.int 1]) (rest := []) hX hB (k_X10_isThrown__ κ l (mw κ a r f q (tb a) w) 0 (a 0) (a 1) (q 0) (q 1) (q 2) (q 3) 1 (mw0x (a := a) (r := r) (f := f) (q := q) (T := tb a) (w := w) rfl) x6 t7 hd8) ⟨rfl, yk_X10_isThrown__⟩ wm_6_15 wm_6_17 wp_33 wm_1_6 wm_6_18 ⟨Nat.le_of_ble_eq_true rfl, Nat.le_of_ble_eq_true rfl⟩ ⟨Nat.le_of_ble_eq_true rfl, Nat.le_of_ble_eq_true rfl⟩ (mw0x (a := a) (r := r) (f := f) (q := q) (T := tb a) (w := w) rfl) rfl rfl rfl hl.1 rfl (Nat.le_of_ble_eq_true rfl) dX10_restOf_22 (fun o w' H locs hp hB => ?_)
    obtain ⟨rfl, hf9, hw9⟩ := hp
    replace hB : Bd κ A s (mw κ a r f (va_up q 3 t7) (tb a) w) H locs := by exact Bd_eq (mwQ3x rfl _) (by rw [hw9] at hB; exact hB)
    obtain rfl : x6 = 1 := hf9.trans (by decide)
    refine W.eq (g2 := F0 m 25 ls [.int 1]) rfl ?_
    refine lv_if_eq (tgt := 30) hx hb dX10_restOf_25 (by decide) (fun c10 => False.elim (by revert c10; decide)) (fun _ => ?_)
    refine lv_iconst (v := 0) hx hb dX10_restOf_28 (by decide) ?_
    rw [← hQ]
    exact end_i hX hB hA3 rfl rfl (by obtain ⟨rfl, rfl⟩ := pr2 hR; exact ⟨rfl, ⟨rfl, rfl, rfl⟩, rfl⟩) (Nat.le_of_ble_eq_true rfl) (Nat.le_of_ble_eq_true rfl) dX10_restOf_29
  · replace hR := ifn (by decide) hR
    refine W.eq (g2 := F0 m 5 ls [.int 1, .ref (a 0)]) rfl ?_
    refine lv_if_eq (tgt := 17) hx hb dX10_restOf_5 (by decide) (fun c11 => False.elim (by revert c11; decide)) (fun _ => ?_)
    refine lv_aload_n hx hb dX10_restOf_8 rfl (lv_at hl 0 rfl) ?_
    refine lv_iload_n hx hb dX10_restOf_9 rfl (lv_at hl 2 rfl) ?_
    refine lv_iload_n hx hb dX10_restOf_10 rfl (lv_at hl 3 rfl) ?_
    obtain ⟨x12, hd13⟩ := ex1 (D_X10_isRow r f q z u)
    replace hR := bnd1_use hd13 hR
    refine call_V (n := 2) (k0 := 0) (As := [.int z, .int u]) (rest := [.ref (a 0)]) hX hB (k_X10_isRow κ l w a r f q z u hm x12 hd13) ⟨rfl, yk_X10_isRow⟩ wm_5_229 wm_5_231 wp_31 wm_1_6 wm_5_232 ⟨Nat.le_of_ble_eq_true rfl, Nat.le_of_ble_eq_true rfl⟩ ⟨Nat.le_of_ble_eq_true rfl, Nat.le_of_ble_eq_true rfl⟩ (mw0x (a := a) (r := r) (f := f) (q := q) (T := tb a) (w := w) rfl) rfl rfl rfl hl.1 rfl (Nat.le_of_ble_eq_true rfl) dX10_restOf_11 (fun o w' H locs hp hB => ?_)
    obtain ⟨rfl, hf14, hw9⟩ := hp
    replace hB : Bd κ A s (mw κ a r f q (tb a) w) H locs := by rw [hw9] at hB; exact hB
    rcases hf14 with rfl | ⟨rfl, hz15a, hz15b, hz15c, hz15d⟩
    · replace hR := ifp rfl hR
      refine W.eq (g2 := F0 m 14 ls [.int 0, .ref (a 0)]) rfl ?_
      refine lv_if_ne (tgt := 21) hx hb dX10_restOf_14 (by decide) (fun c16 => False.elim (by revert c16; decide)) (fun _ => ?_)
      refine lv_iconst (v := 1) hx hb dX10_restOf_17 (by decide) ?_
      refine lv_goto (tgt := 22) hx hb dX10_restOf_18 (by decide) ?_
      obtain ⟨x17, t18, hd19⟩ := ex2 (D_X10_isThrown__ (q 0) (q 1) (q 2) (q 3) 1)
      replace hR := bnd2_use hd19 hR
      refine call_V (n := 1) (k0 := 0) (As := [.int 1]) (rest := []) hX hB (k_X10_isThrown__ κ l (mw κ a r f q (tb a) w) 0 (a 0) (a 1) (q 0) (q 1) (q 2) (q 3) 1 (mw0x (a := a) (r := r) (f := f) (q := q) (T := tb a) (w := w) rfl) x17 t18 hd19) ⟨rfl, yk_X10_isThrown__⟩ wm_6_15 wm_6_17 wp_33 wm_1_6 wm_6_18 ⟨Nat.le_of_ble_eq_true rfl, Nat.le_of_ble_eq_true rfl⟩ ⟨Nat.le_of_ble_eq_true rfl, Nat.le_of_ble_eq_true rfl⟩ (mw0x (a := a) (r := r) (f := f) (q := q) (T := tb a) (w := w) rfl) rfl rfl rfl hl.1 rfl (Nat.le_of_ble_eq_true rfl) dX10_restOf_22 (fun o w' H locs hp hB => ?_)
      obtain ⟨rfl, hf20, hw9⟩ := hp
      replace hB : Bd κ A s (mw κ a r f (va_up q 3 t18) (tb a) w) H locs := by exact Bd_eq (mwQ3x rfl _) (by rw [hw9] at hB; exact hB)
      obtain rfl : x17 = 1 := hf20.trans (by decide)
      refine W.eq (g2 := F0 m 25 ls [.int 1]) rfl ?_
      refine lv_if_eq (tgt := 30) hx hb dX10_restOf_25 (by decide) (fun c21 => False.elim (by revert c21; decide)) (fun _ => ?_)
      refine lv_iconst (v := 0) hx hb dX10_restOf_28 (by decide) ?_
      rw [← hQ]
      exact end_i hX hB hA3 rfl rfl (by obtain ⟨rfl, rfl⟩ := pr2 hR; exact ⟨rfl, ⟨rfl, rfl, rfl⟩, rfl⟩) (Nat.le_of_ble_eq_true rfl) (Nat.le_of_ble_eq_true rfl) dX10_restOf_29
    · replace hR := ifn (by decide) hR
      refine W.eq (g2 := F0 m 14 ls [.int 1, .ref (a 0)]) rfl ?_
      refine lv_if_ne (tgt := 21) hx hb dX10_restOf_14 (by decide) (fun _ => ?_) (fun c22 => False.elim (by revert c22; decide))
      refine lv_iconst (v := 0) hx hb dX10_restOf_21 (by decide) ?_
      obtain ⟨x23, t24, hd25⟩ := ex2 (D_X10_isThrown__ (q 0) (q 1) (q 2) (q 3) 0)
      replace hR := bnd2_use hd25 hR
      refine call_V (n := 1) (k0 := 0) (As := [.int 0]) (rest := []) hX hB (k_X10_isThrown__ κ l (mw κ a r f q (tb a) w) 0 (a 0) (a 1) (q 0) (q 1) (q 2) (q 3) 0 (mw0x (a := a) (r := r) (f := f) (q := q) (T := tb a) (w := w) rfl) x23 t24 hd25) ⟨rfl, yk_X10_isThrown__⟩ wm_6_15 wm_6_17 wp_33 wm_1_6 wm_6_18 ⟨Nat.le_of_ble_eq_true rfl, Nat.le_of_ble_eq_true rfl⟩ ⟨Nat.le_of_ble_eq_true rfl, Nat.le_of_ble_eq_true rfl⟩ (mw0x (a := a) (r := r) (f := f) (q := q) (T := tb a) (w := w) rfl) rfl rfl rfl hl.1 rfl (Nat.le_of_ble_eq_true rfl) dX10_restOf_22 (fun o w' H locs hp hB => ?_)
      obtain ⟨rfl, hf26, hw9⟩ := hp
      replace hB : Bd κ A s (mw κ a r f (va_up q 3 t24) (tb a) w) H locs := by exact Bd_eq (mwQ3x rfl _) (by rw [hw9] at hB; exact hB)
      obtain rfl : x23 = 0 := hf26.trans (by decide)
      refine W.eq (g2 := F0 m 25 ls [.int 0]) rfl ?_
      refine lv_if_eq (tgt := 30) hx hb dX10_restOf_25 (by decide) (fun _ => ?_) (fun c27 => False.elim (by revert c27; decide))
      refine lv_aload_n hx hb dX10_restOf_30 rfl (lv_at hl 0 rfl) ?_
      refine gf (k0 := 0) hX hB (mw0x (a := a) (r := r) (f := f) (q := (va_up q 3 t24)) (T := tb a) (w := w) rfl) rfl in10 0 (by decide) wm_5_162 rfl rfl dX10_restOf_31 ?_
      refine lv_iload_n hx hb dX10_restOf_34 rfl (lv_at hl 1 rfl) ?_
      refine aaldM (k0 := 1) hX hB (mw1 (a := a) (r := r) (f := f) (q := (va_up q 3 t24)) (T := tb a) (w := w)) (vp_in_mk (by assumption) (by assumption)) rfl dX10_restOf_35 ?_
      have hb28 := mok_r hm y.toNatClampNeg (by omega)
      refine lv_astore (lv' := [(4, .ref (a (2 + 2 * y.toNatClampNeg))), (0, .ref (a 0)), (1, .int y), (2, .int z), (3, .int u)]) hx hb dX10_restOf_36 hl (by decide) rfl (fun ls hl => ?_)
      refine lv_aload_n hx hb dX10_restOf_38 rfl (lv_at hl 1 rfl) ?_
      refine gf (k0 := 0) hX hB (mw0x (a := a) (r := r) (f := f) (q := (va_up q 3 t24)) (T := tb a) (w := w) rfl) rfl in10 0 (by decide) wm_5_162 rfl rfl dX10_restOf_39 ?_
      refine lv_iload_n hx hb dX10_restOf_42 rfl (lv_at hl 3 rfl) ?_
      refine aaldM (k0 := 1) hX hB (mw1 (a := a) (r := r) (f := f) (q := (va_up q 3 t24)) (T := tb a) (w := w)) (vp_in_mk (by assumption) (by assumption)) rfl dX10_restOf_43 ?_
      have hb29 := mok_r hm z.toNatClampNeg (by omega)
      refine lv_astore (lv' := [(5, .ref (a (2 + 2 * z.toNatClampNeg))), (4, .ref (a (2 + 2 * y.toNatClampNeg))), (0, .ref (a 0)), (1, .int y), (2, .int z), (3, .int u)]) hx hb dX10_restOf_44 hl (by decide) rfl (fun ls hl => ?_)
      refine lv_aload hx hb dX10_restOf_46 (lv_at hl 1 rfl) ?_
      obtain ⟨z30, R31, C32, F33, hd34⟩ := ex4 (D_X10_leaving (r (2 * y.toNatClampNeg)) (r (2 * y.toNatClampNeg + 1)) (f y.toNatClampNeg))
      replace hR := bnd4_use hd34 hR
      refine call_S (n := 1) (As := [.ref (a (2 + 2 * y.toNatClampNeg))]) (rest := []) hX hB (k_X10_leaving κ l (mw κ a r f (va_up q 3 t24) (tb a) w) (2 + 2 * y.toNatClampNeg) (3 + 2 * y.toNatClampNeg) (a (2 + 2 * y.toNatClampNeg)) (a (3 + 2 * y.toNatClampNeg)) (r (2 * y.toNatClampNeg)) (r (2 * y.toNatClampNeg + 1)) (f y.toNatClampNeg) (mwG (i := y.toNatClampNeg) (a := a) (r := r) (f := f) (q := (va_up q 3 t24)) (T := tb a) (w := w) (by omega)) (mwA (i := y.toNatClampNeg) (a := a) (r := r) (f := f) (q := (va_up q 3 t24)) (T := tb a) (w := w) (by omega)) (mok_shp (i := y.toNatClampNeg) hm (by omega)) (by omega) (fun k hk => sm_ng ((hm _ (by omega)).2 k hk)) z30 R31 C32 F33 hd34) yk_X10_leaving wm_7_148 wm_7_149 wm_1_6 wm_7_150 ⟨Nat.le_of_ble_eq_true rfl, Nat.le_of_ble_eq_true rfl⟩ ⟨Nat.le_of_ble_eq_true rfl, Nat.le_of_ble_eq_true rfl⟩ rfl hl.1 rfl (Nat.le_of_ble_eq_true rfl) dX10_restOf_48 (fun o w' H locs hp hB => ?_)
      rcases hp with ⟨hz0, rfl, hw9⟩ | ⟨hz0, q35, q36, rfl, ⟨hd37r, hd37c, hd37e, hd37n⟩, hw9⟩
      · replace hB : Bd κ A s (mw κ a r f (va_up q 3 t24) (tb a) w) H locs := by rw [hw9] at hB; exact hB
        refine W.eq (g2 := F0 m 51 ls [.null]) rfl ?_
        replace hR := ifp hz0 hR
        refine lv_astoreN (lv' := [(6, .null), (5, .ref (a (2 + 2 * z.toNatClampNeg))), (4, .ref (a (2 + 2 * y.toNatClampNeg))), (0, .ref (a 0)), (1, .int y), (2, .int z), (3, .int u)]) hx hb dX10_restOf_51 hl (by decide) rfl (fun ls hl => ?_)
        refine lv_aload_n hx hb dX10_restOf_53 rfl (lv_at hl 3 rfl) ?_
        refine lv_iconst (v := 0) hx hb dX10_restOf_54 (by decide) ?_
        refine lv_aloadN hx hb dX10_restOf_55 (lv_at hl 0 rfl) ?_
        refine lv_ifnonnullN hx hb dX10_restOf_57 ?_
        refine lv_iconst (v := 1) hx hb dX10_restOf_60 (by decide) ?_
        refine lv_goto (tgt := 65) hx hb dX10_restOf_61 (by decide) ?_
        refine lv_aload hx hb dX10_restOf_65 (lv_at hl 2 rfl) ?_
        refine gf (k0 := 2 + 2 * y.toNatClampNeg) hX hB (mwG (i := y.toNatClampNeg) (a := a) (r := r) (f := f) (q := (va_up q 3 t24)) (T := tb a) (w := w) (by omega)) rfl in7 1 (by decide) wm_5_152 rfl rfl dX10_restOf_67 ?_
        refine lv_aload hx hb dX10_restOf_70 (lv_at hl 1 rfl) ?_
        refine gf (k0 := 2 + 2 * z.toNatClampNeg) hX hB (mwG (i := z.toNatClampNeg) (a := a) (r := r) (f := f) (q := (va_up q 3 t24)) (T := tb a) (w := w) (by omega)) rfl in7 1 (by decide) wm_5_152 rfl rfl dX10_restOf_72 ?_
        refine lv_icmp_eq (tgt := 82) hx hb dX10_restOf_75 (by decide) (fun c38 => ?_) (fun c38 => ?_)
        · rw [neqP (a := r (2 * y.toNatClampNeg + 1)) (b := r (2 * z.toNatClampNeg + 1)) (by omega) (by omega)] at c38
          replace hR := ifp c38 hR
          refine lv_iconst (v := 0) hx hb dX10_restOf_82 (by decide) ?_
          obtain ⟨x39, t40, hd41⟩ := ex2 (D_X10_isThrown ((va_up q 3 t24) 0) ((va_up q 3 t24) 1) ((va_up q 3 t24) 2) ((va_up q 3 t24) 3) 0 1 0)
          replace hR := bnd2_use hd41 hR
          refine call_V (n := 3) (k0 := 0) (As := [.int 0, .int 1, .int 0]) (rest := []) hX hB (k_X10_isThrown κ l (mw κ a r f (va_up q 3 t24) (tb a) w) 0 (a 0) (a 1) ((va_up q 3 t24) 0) ((va_up q 3 t24) 1) ((va_up q 3 t24) 2) ((va_up q 3 t24) 3) 0 1 0 (mw0x (a := a) (r := r) (f := f) (q := (va_up q 3 t24)) (T := tb a) (w := w) rfl) x39 t40 hd41) ⟨rfl, yk_X10_isThrown⟩ wm_5_196 wm_5_198 wp_28 wm_1_6 wm_5_199 ⟨Nat.le_of_ble_eq_true rfl, Nat.le_of_ble_eq_true rfl⟩ ⟨Nat.le_of_ble_eq_true rfl, Nat.le_of_ble_eq_true rfl⟩ (mw0x (a := a) (r := r) (f := f) (q := (va_up q 3 t24)) (T := tb a) (w := w) rfl) rfl rfl rfl hl.1 rfl (Nat.le_of_ble_eq_true rfl) dX10_restOf_83 (fun o w' H locs hp hB => ?_)
          obtain ⟨rfl, hf42, hw9⟩ := hp
          replace hB : Bd κ A s (mw κ a r f (va_up (va_up q 3 t24) 3 t40) (tb a) w) H locs := by exact Bd_eq (mwQ3x rfl _) (by rw [hw9] at hB; exact hB)
          obtain rfl : x39 = 1 := hf42.trans (by decide)
          refine W.eq (g2 := F0 m 86 ls [.int 1]) rfl ?_
          refine lv_if_eq (tgt := 91) hx hb dX10_restOf_86 (by decide) (fun c43 => False.elim (by revert c43; decide)) (fun _ => ?_)
          refine lv_iconst (v := 0) hx hb dX10_restOf_89 (by decide) ?_
          rw [← hQ]
          exact end_i hX hB hA3 rfl rfl (by obtain ⟨rfl, rfl⟩ := pr2 hR; exact ⟨rfl, ⟨rfl, rfl, rfl⟩, rfl⟩) (Nat.le_of_ble_eq_true rfl) (Nat.le_of_ble_eq_true rfl) dX10_restOf_90
        · rw [neqP (a := r (2 * y.toNatClampNeg + 1)) (b := r (2 * z.toNatClampNeg + 1)) (by omega) (by omega)] at c38
          replace hR := ifn c38 hR
          refine lv_iconst (v := 1) hx hb dX10_restOf_78 (by decide) ?_
          refine lv_goto (tgt := 83) hx hb dX10_restOf_79 (by decide) ?_
          obtain ⟨x44, t45, hd46⟩ := ex2 (D_X10_isThrown ((va_up q 3 t24) 0) ((va_up q 3 t24) 1) ((va_up q 3 t24) 2) ((va_up q 3 t24) 3) 0 1 1)
          replace hR := bnd2_use hd46 hR
          refine call_V (n := 3) (k0 := 0) (As := [.int 0, .int 1, .int 1]) (rest := []) hX hB (k_X10_isThrown κ l (mw κ a r f (va_up q 3 t24) (tb a) w) 0 (a 0) (a 1) ((va_up q 3 t24) 0) ((va_up q 3 t24) 1) ((va_up q 3 t24) 2) ((va_up q 3 t24) 3) 0 1 1 (mw0x (a := a) (r := r) (f := f) (q := (va_up q 3 t24)) (T := tb a) (w := w) rfl) x44 t45 hd46) ⟨rfl, yk_X10_isThrown⟩ wm_5_196 wm_5_198 wp_28 wm_1_6 wm_5_199 ⟨Nat.le_of_ble_eq_true rfl, Nat.le_of_ble_eq_true rfl⟩ ⟨Nat.le_of_ble_eq_true rfl, Nat.le_of_ble_eq_true rfl⟩ (mw0x (a := a) (r := r) (f := f) (q := (va_up q 3 t24)) (T := tb a) (w := w) rfl) rfl rfl rfl hl.1 rfl (Nat.le_of_ble_eq_true rfl) dX10_restOf_83 (fun o w' H locs hp hB => ?_)
          obtain ⟨rfl, hf47, hw9⟩ := hp
          replace hB : Bd κ A s (mw κ a r f (va_up (va_up q 3 t24) 3 t45) (tb a) w) H locs := by exact Bd_eq (mwQ3x rfl _) (by rw [hw9] at hB; exact hB)
          obtain rfl : x44 = 1 := hf47.trans (by decide)
          refine W.eq (g2 := F0 m 86 ls [.int 1]) rfl ?_
          refine lv_if_eq (tgt := 91) hx hb dX10_restOf_86 (by decide) (fun c48 => False.elim (by revert c48; decide)) (fun _ => ?_)
          refine lv_iconst (v := 0) hx hb dX10_restOf_89 (by decide) ?_
          rw [← hQ]
          exact end_i hX hB hA3 rfl rfl (by obtain ⟨rfl, rfl⟩ := pr2 hR; exact ⟨rfl, ⟨rfl, rfl, rfl⟩, rfl⟩) (Nat.le_of_ble_eq_true rfl) (Nat.le_of_ble_eq_true rfl) dX10_restOf_90
      · replace hB : Bd κ A s (lA κ q36 (R31 * 5) F33 :: gO q35 R31 C32 q36 :: mw κ a r f (va_up q 3 t24) (tb a) w) H locs := by rw [hw9] at hB; exact hB
        refine W.eq (g2 := F0 m 51 ls [.ref q35]) rfl ?_
        replace hR := ifn (by rw [hz0]; decide) hR
        refine lv_astore (lv' := [(6, .ref q35), (5, .ref (a (2 + 2 * z.toNatClampNeg))), (4, .ref (a (2 + 2 * y.toNatClampNeg))), (0, .ref (a 0)), (1, .int y), (2, .int z), (3, .int u)]) hx hb dX10_restOf_51 hl (by decide) rfl (fun ls hl => ?_)
        refine lv_aload_n hx hb dX10_restOf_53 rfl (lv_at hl 3 rfl) ?_
        refine lv_iconst (v := 0) hx hb dX10_restOf_54 (by decide) ?_
        refine lv_aload hx hb dX10_restOf_55 (lv_at hl 0 rfl) ?_
        refine lv_ifnonnull (tgt := 64) hx hb dX10_restOf_57 (by decide) ?_
        refine lv_iconst (v := 0) hx hb dX10_restOf_64 (by decide) ?_
        refine lv_aload hx hb dX10_restOf_65 (lv_at hl 2 rfl) ?_
        refine gf (k0 := 2 + 2 * y.toNatClampNeg + 2) hX hB (mwG (i := y.toNatClampNeg) (a := a) (r := r) (f := f) (q := (va_up q 3 t24)) (T := tb a) (w := w) (by omega)) rfl in7 1 (by decide) wm_5_152 rfl rfl dX10_restOf_67 ?_
        refine lv_aload hx hb dX10_restOf_70 (lv_at hl 1 rfl) ?_
        refine gf (k0 := 2 + 2 * z.toNatClampNeg + 2) hX hB (mwG (i := z.toNatClampNeg) (a := a) (r := r) (f := f) (q := (va_up q 3 t24)) (T := tb a) (w := w) (by omega)) rfl in7 1 (by decide) wm_5_152 rfl rfl dX10_restOf_72 ?_
        refine lv_icmp_eq (tgt := 82) hx hb dX10_restOf_75 (by decide) (fun c49 => ?_) (fun c49 => ?_)
        · rw [neqP (a := r (2 * y.toNatClampNeg + 1)) (b := r (2 * z.toNatClampNeg + 1)) (by omega) (by omega)] at c49
          replace hR := ifp c49 hR
          refine lv_iconst (v := 0) hx hb dX10_restOf_82 (by decide) ?_
          obtain ⟨x50, t51, hd52⟩ := ex2 (D_X10_isThrown ((va_up q 3 t24) 0) ((va_up q 3 t24) 1) ((va_up q 3 t24) 2) ((va_up q 3 t24) 3) 0 0 0)
          replace hR := bnd2_use hd52 hR
          refine call_V (n := 3) (k0 := 2) (As := [.int 0, .int 0, .int 0]) (rest := []) hX hB (k_X10_isThrown κ l (lA κ q36 (R31 * 5) F33 :: gO q35 R31 C32 q36 :: mw κ a r f (va_up q 3 t24) (tb a) w) 2 (a 0) (a 1) ((va_up q 3 t24) 0) ((va_up q 3 t24) 1) ((va_up q 3 t24) 2) ((va_up q 3 t24) 3) 0 0 0 (mw0x (a := a) (r := r) (f := f) (q := (va_up q 3 t24)) (T := tb a) (w := w) rfl) x50 t51 hd52) ⟨rfl, yk_X10_isThrown⟩ wm_5_196 wm_5_198 wp_28 wm_1_6 wm_5_199 ⟨Nat.le_of_ble_eq_true rfl, Nat.le_of_ble_eq_true rfl⟩ ⟨Nat.le_of_ble_eq_true rfl, Nat.le_of_ble_eq_true rfl⟩ (mw0x (a := a) (r := r) (f := f) (q := (va_up q 3 t24)) (T := tb a) (w := w) rfl) rfl rfl rfl hl.1 rfl (Nat.le_of_ble_eq_true rfl) dX10_restOf_83 (fun o w' H locs hp hB => ?_)
          obtain ⟨rfl, hf53, hw9⟩ := hp
          replace hB : Bd κ A s (lA κ q36 (R31 * 5) F33 :: gO q35 R31 C32 q36 :: mw κ a r f (va_up (va_up q 3 t24) 3 t51) (tb a) w) H locs := by exact Bd_eq (congrArg (List.cons _) (congrArg (List.cons _) (mwQ3x rfl _))) (by rw [hw9] at hB; exact hB)
          obtain rfl : x50 = 0 := hf53.trans (by decide)
          refine W.eq (g2 := F0 m 86 ls [.int 0]) rfl ?_
          refine lv_if_eq (tgt := 91) hx hb dX10_restOf_86 (by decide) (fun _ => ?_) (fun c54 => False.elim (by revert c54; decide))
          have hdN := hd37n
          refine lv_aload hx hb dX10_restOf_91 (lv_at hl 2 rfl) ?_
          refine gf (k0 := 2 + 2 * y.toNatClampNeg + 2) hX hB (mwG (i := y.toNatClampNeg) (a := a) (r := r) (f := f) (q := (va_up (va_up q 3 t24) 3 t51)) (T := tb a) (w := w) (by omega)) rfl in7 1 (by decide) wm_5_152 rfl rfl dX10_restOf_93 ?_
          refine newA (t0 := 0) (ty := .long) (N := r (2 * y.toNatClampNeg + 1)) (mx := 20) (a0 := ((r (2 * y.toNatClampNeg + 1)), .inr (.inl (fun _ => 0)))) hX hB rfl rfl (fun h => h) wm_1_65 (fun _ => rfl) (nI_pos (n := r (2 * y.toNatClampNeg + 1)) (by omega)) (nI_clamp (n := r (2 * y.toNatClampNeg + 1)) (by omega)) (by omega) (Nat.le_of_ble_eq_true rfl) (Nat.le_of_ble_eq_true rfl) (Nat.le_of_ble_eq_true rfl) dX10_restOf_96 (fun q55 H hB => ?_)
          refine lv_astore (lv' := [(7, .ref q55), (6, .ref q35), (5, .ref (a (2 + 2 * z.toNatClampNeg))), (4, .ref (a (2 + 2 * y.toNatClampNeg))), (0, .ref (a 0)), (1, .int y), (2, .int z), (3, .int u)]) hx hb dX10_restOf_98 hl (by decide) rfl (fun ls hl => ?_)
          refine lv_iconst (v := 0) hx hb dX10_restOf_100 (by decide) ?_
          refine lv_istore (lv' := [(8, .int 0), (7, .ref q55), (6, .ref q35), (5, .ref (a (2 + 2 * z.toNatClampNeg))), (4, .ref (a (2 + 2 * y.toNatClampNeg))), (0, .ref (a 0)), (1, .int y), (2, .int z), (3, .int u)]) hx hb dX10_restOf_101 hl (by decide) rfl (fun ls hl => ?_)
          have lp103 : ∀ (nn103 : Nat) (y8_103 : Nat) (fq55_103 : Nat → Int64) (H : Heap) (locs : List Loc), (y8_103 ≤ (r (2 * y.toNatClampNeg + 1))) → (r (2 * y.toNatClampNeg + 1)) + 1 - y8_103 < nn103 → D_X10_restOf_103 r f q y z u t24 F33 t51 nn103 y8_103 fq55_103 = (o_x, o_q') → Bd κ A s (lA κ q55 (r (2 * y.toNatClampNeg + 1)) fq55_103 :: lA κ q36 (R31 * 5) F33 :: gO q35 R31 C32 q36 :: mw κ a r f (va_up (va_up q 3 t24) 3 t51) (tb a) w) H locs → ∀ ls : Array Slot, lv_has ls 14 [(8, .int (nI y8_103)), (7, .ref q55), (6, .ref q35), (5, .ref (a (2 + 2 * z.toNatClampNeg))), (4, .ref (a (2 + 2 * y.toNatClampNeg))), (0, .ref (a 0)), (1, .int y), (2, .int z), (3, .int u)] → W p l e (Rm 8 209 6 70) s m args below meth c H locs (6) (70) Q (F0 m 103 ls []) := by
            intro nn103
            induction nn103 with
            | zero => intro y8_103 fq55_103 H locs hn8_103 hμ; exact absurd hμ (Nat.not_lt_zero _)
            | succ nn103 ih103 =>
              intro y8_103 fq55_103 H locs hn8_103 hμ103 hR hB ls hl
              replace hR := (D_X10_restOf_103_s).symm.trans hR
              refine lv_iload hx hb dX10_restOf_103 (lv_at hl 0 rfl) ?_
              refine lv_aload hx hb dX10_restOf_105 (lv_at hl 1 rfl) ?_
              refine alenL (k0 := 0) (v := nI (r (2 * y.toNatClampNeg + 1))) hX hB rfl rfl dX10_restOf_107 ?_
              refine lv_icmp_ge (tgt := 130) hx hb dX10_restOf_108 (by decide) (fun c88 => ?_) (fun c88 => ?_)
              · rw [nleP (a := r (2 * y.toNatClampNeg + 1)) (b := y8_103) (by omega) (by omega)] at c88
                replace hR := ifp c88 hR
                refine lv_lconst (v := 0) hx hb dX10_restOf_130 (by decide) ?_
                refine lv_lstore (lv' := [(8, .long 0), (7, .ref q55), (6, .ref q35), (5, .ref (a (2 + 2 * z.toNatClampNeg))), (4, .ref (a (2 + 2 * y.toNatClampNeg))), (0, .ref (a 0)), (1, .int y), (2, .int z), (3, .int u)]) hx hb dX10_restOf_131 hl (by decide) rfl (fun ls hl => ?_)
                refine lv_iconst (v := 0) hx hb dX10_restOf_133 (by decide) ?_
                refine lv_istore (lv' := [(10, .int 0), (8, .long 0), (7, .ref q55), (6, .ref q35), (5, .ref (a (2 + 2 * z.toNatClampNeg))), (4, .ref (a (2 + 2 * y.toNatClampNeg))), (0, .ref (a 0)), (1, .int y), (2, .int z), (3, .int u)]) hx hb dX10_restOf_134 hl (by decide) rfl (fun ls hl => ?_)
                have lp136 : ∀ (nn136 : Nat) (y10_136 : Nat) (y8_136 : Int64) (fq55_136 : Nat → Int64) (H : Heap) (locs : List Loc), (y10_136 ≤ (r (2 * y.toNatClampNeg + 1))) → (r (2 * y.toNatClampNeg + 1)) + 1 - y10_136 < nn136 → D_X10_restOf_136 r q y t24 F33 t51 nn136 y10_136 y8_136 fq55_136 = (o_x, o_q') → Bd κ A s (lA κ q55 (r (2 * y.toNatClampNeg + 1)) fq55_136 :: lA κ q36 (R31 * 5) F33 :: gO q35 R31 C32 q36 :: mw κ a r f (va_up (va_up q 3 t24) 3 t51) (tb a) w) H locs → ∀ ls : Array Slot, lv_has ls 14 [(10, .int (nI y10_136)), (8, .long y8_136), (7, .ref q55), (6, .ref q35), (5, .ref (a (2 + 2 * z.toNatClampNeg))), (4, .ref (a (2 + 2 * y.toNatClampNeg))), (0, .ref (a 0)), (1, .int y), (2, .int z), (3, .int u)] → W p l e (Rm 8 209 6 70) s m args below meth c H locs (6) (70) Q (F0 m 136 ls []) := by
                  intro nn136
                  induction nn136 with
                  | zero => intro y10_136 y8_136 fq55_136 H locs hn10_136 hμ; exact absurd hμ (Nat.not_lt_zero _)
                  | succ nn136 ih136 =>
                    intro y10_136 y8_136 fq55_136 H locs hn10_136 hμ136 hR hB ls hl
                    replace hR := (D_X10_restOf_136_s).symm.trans hR
                    refine lv_iload hx hb dX10_restOf_136 (lv_at hl 0 rfl) ?_
                    refine lv_aload hx hb dX10_restOf_138 (lv_at hl 2 rfl) ?_
                    refine alenL (k0 := 0) (v := nI (r (2 * y.toNatClampNeg + 1))) hX hB rfl rfl dX10_restOf_140 ?_
                    refine lv_icmp_ge (tgt := 226) hx hb dX10_restOf_141 (by decide) (fun c99 => ?_) (fun c99 => ?_)
                    · rw [nleP (a := r (2 * y.toNatClampNeg + 1)) (b := y10_136) (by omega) (by omega)] at c99
                      replace hR := ifp c99 hR
                      refine lv_lload hx hb dX10_restOf_226 (lv_at hl 1 rfl) ?_
                      refine lv_l2i hx hb dX10_restOf_228 rfl ?_
                      replace hB : Bd κ A s (lA κ q55 (r (2 * y.toNatClampNeg + 1)) fq55_136 :: lA κ q36 (R31 * 5) F33 :: mw κ a r f (va_up (va_up q 3 t24) 3 t51) (tb a) w) H locs := Bd_del 2 hB
                      replace hB : Bd κ A s (lA κ q55 (r (2 * y.toNatClampNeg + 1)) fq55_136 :: mw κ a r f (va_up (va_up q 3 t24) 3 t51) (tb a) w) H locs := Bd_del 1 hB
                      replace hB : Bd κ A s (mw κ a r f (va_up (va_up q 3 t24) 3 t51) (tb a) w) H locs := Bd_del 0 hB
                      rw [← hQ]
                      exact end_i hX hB hA3 rfl rfl (by obtain ⟨rfl, rfl⟩ := pr2 hR; exact ⟨rfl, ⟨rfl, rfl, rfl⟩, rfl⟩) (Nat.le_of_ble_eq_true rfl) (Nat.le_of_ble_eq_true rfl) dX10_restOf_229
                    · rw [nleP (a := r (2 * y.toNatClampNeg + 1)) (b := y10_136) (by omega) (by omega)] at c99
                      replace hR := ifn c99 hR
                      refine lv_aload hx hb dX10_restOf_144 (lv_at hl 2 rfl) ?_
                      refine lv_iload hx hb dX10_restOf_146 (lv_at hl 0 rfl) ?_
                      refine laldN (k0 := 0) (k := y10_136) hX hB rfl (by omega) (by omega) dX10_restOf_148 ?_
                      refine lv_aload hx hb dX10_restOf_149 (lv_at hl 3 rfl) ?_
                      refine lv_iload hx hb dX10_restOf_151 (lv_at hl 0 rfl) ?_
                      refine lv_iload hx hb dX10_restOf_153 (lv_at hl 0 rfl) ?_
                      refine call_V (n := 2) (k0 := 2) (As := [.int (nI y10_136), .int (nI y10_136)]) (rest := [.long (fq55_136 y10_136)]) hX hB (k_X7_at κ l (lA κ q55 (r (2 * y.toNatClampNeg + 1)) fq55_136 :: lA κ q36 (R31 * 5) F33 :: gO q35 R31 C32 q36 :: mw κ a r f (va_up (va_up q 3 t24) 3 t51) (tb a) w) 2 1 q35 q36 R31 C32 F33 (nI y10_136) y10_136 (nI y10_136) y10_136 rfl rfl ⟨by omega, by omega, by omega, by omega⟩ rfl rfl (by omega)) ⟨rfl, yk_X7_at⟩ wm_5_237 wm_5_238 wm_5_239 wm_1_7 wm_6_0 ⟨Nat.le_of_ble_eq_true rfl, Nat.le_of_ble_eq_true rfl⟩ ⟨Nat.le_of_ble_eq_true rfl, Nat.le_of_ble_eq_true rfl⟩ rfl rfl rfl rfl hl.1 rfl (Nat.le_of_ble_eq_true rfl) dX10_restOf_155 (fun o w' H locs hp hB => ?_)
                      obtain ⟨rfl, hw9⟩ := hp
                      replace hB : Bd κ A s (lA κ q55 (r (2 * y.toNatClampNeg + 1)) fq55_136 :: lA κ q36 (R31 * 5) F33 :: gO q35 R31 C32 q36 :: mw κ a r f (va_up (va_up q 3 t24) 3 t51) (tb a) w) H locs := by rw [hw9] at hB; exact hB
                      refine W.eq (g2 := F0 m 158 ls [.long (F33 (y10_136 * 5 + y10_136)), .long (fq55_136 y10_136)]) rfl ?_
                      refine call_S (n := 2) (As := [.long (fq55_136 y10_136), .long (F33 (y10_136 * 5 + y10_136))]) (rest := []) hX hB (k_J9_floorDiv_f86c9 κ l (lA κ q55 (r (2 * y.toNatClampNeg + 1)) fq55_136 :: lA κ q36 (R31 * 5) F33 :: gO q35 R31 C32 q36 :: mw κ a r f (va_up (va_up q 3 t24) 3 t51) (tb a) w) (fq55_136 y10_136) (F33 (y10_136 * 5 + y10_136)) (hdN _ (by omega))) yk_J9_floorDiv_f86c9 wm_7_157 wm_2_20 wm_1_14 wm_2_21 ⟨Nat.le_of_ble_eq_true rfl, Nat.le_of_ble_eq_true rfl⟩ ⟨Nat.le_of_ble_eq_true rfl, Nat.le_of_ble_eq_true rfl⟩ rfl hl.1 rfl (Nat.le_of_ble_eq_true rfl) dX10_restOf_158 (fun o w' H locs hp hB => ?_)
                      obtain ⟨x100, rfl, ex100, hw9⟩ := hp
                      replace hR := nm_use ex100 hR
                      rw [hw9] at hB
                      refine W.eq (g2 := F0 m 161 ls [.long x100]) rfl ?_
                      refine lv_lstore (lv' := [(11, .long x100), (10, .int (nI y10_136)), (8, .long y8_136), (7, .ref q55), (6, .ref q35), (5, .ref (a (2 + 2 * z.toNatClampNeg))), (4, .ref (a (2 + 2 * y.toNatClampNeg))), (0, .ref (a 0)), (1, .int y), (2, .int z), (3, .int u)]) hx hb dX10_restOf_161 hl (by decide) rfl (fun ls hl => ?_)
                      refine lv_iconst (v := 0) hx hb dX10_restOf_163 (by decide) ?_
                      refine lv_istore (lv' := [(13, .int 0), (11, .long x100), (10, .int (nI y10_136)), (8, .long y8_136), (7, .ref q55), (6, .ref q35), (5, .ref (a (2 + 2 * z.toNatClampNeg))), (4, .ref (a (2 + 2 * y.toNatClampNeg))), (0, .ref (a 0)), (1, .int y), (2, .int z), (3, .int u)]) hx hb dX10_restOf_164 hl (by decide) rfl (fun ls hl => ?_)
                      have lp166 : ∀ (nn166 : Nat) (y13_166 : Nat) (fq55_166 : Nat → Int64) (H : Heap) (locs : List Loc), (y13_166 ≤ (r (2 * y.toNatClampNeg + 1))) → (r (2 * y.toNatClampNeg + 1)) + 1 - y13_166 < nn166 → D_X10_restOf_166 r y F33 (D_X10_restOf_136 r q y t24 F33 t51 nn136) y10_136 y8_136 x100 nn166 y13_166 fq55_166 = (o_x, o_q') → Bd κ A s (lA κ q55 (r (2 * y.toNatClampNeg + 1)) fq55_166 :: lA κ q36 (R31 * 5) F33 :: gO q35 R31 C32 q36 :: mw κ a r f (va_up (va_up q 3 t24) 3 t51) (tb a) w) H locs → ∀ ls : Array Slot, lv_has ls 14 [(13, .int (nI y13_166)), (11, .long x100), (10, .int (nI y10_136)), (8, .long y8_136), (7, .ref q55), (6, .ref q35), (5, .ref (a (2 + 2 * z.toNatClampNeg))), (4, .ref (a (2 + 2 * y.toNatClampNeg))), (0, .ref (a 0)), (1, .int y), (2, .int z), (3, .int u)] → W p l e (Rm 8 209 6 70) s m args below meth c H locs (6) (70) Q (F0 m 166 ls []) := by
                        intro nn166
                        induction nn166 with
                        | zero => intro y13_166 fq55_166 H locs hn13_166 hμ; exact absurd hμ (Nat.not_lt_zero _)
                        | succ nn166 ih166 =>
                          intro y13_166 fq55_166 H locs hn13_166 hμ166 hR hB ls hl
                          replace hR := (D_X10_restOf_166_s).symm.trans hR
                          refine lv_iload hx hb dX10_restOf_166 (lv_at hl 0 rfl) ?_
                          refine lv_aload hx hb dX10_restOf_168 (lv_at hl 4 rfl) ?_
                          refine alenL (k0 := 0) (v := nI (r (2 * y.toNatClampNeg + 1))) hX hB rfl rfl dX10_restOf_170 ?_
                          refine lv_icmp_ge (tgt := 200) hx hb dX10_restOf_171 (by decide) (fun c103 => ?_) (fun c103 => ?_)
                          · rw [nleP (a := r (2 * y.toNatClampNeg + 1)) (b := y13_166) (by omega) (by omega)] at c103
                            replace hR := ifp c103 hR
                            refine lv_lload hx hb dX10_restOf_200 (lv_at hl 3 rfl) ?_
                            refine lv_aload hx hb dX10_restOf_202 (lv_at hl 5 rfl) ?_
                            refine lv_iload hx hb dX10_restOf_204 (lv_at hl 2 rfl) ?_
                            refine lv_iload hx hb dX10_restOf_206 (lv_at hl 2 rfl) ?_
                            refine call_V (n := 2) (k0 := 2) (As := [.int (nI y10_136), .int (nI y10_136)]) (rest := [.long y8_136]) hX hB (k_X7_at κ l (lA κ q55 (r (2 * y.toNatClampNeg + 1)) fq55_166 :: lA κ q36 (R31 * 5) F33 :: gO q35 R31 C32 q36 :: mw κ a r f (va_up (va_up q 3 t24) 3 t51) (tb a) w) 2 1 q35 q36 R31 C32 F33 (nI y10_136) y10_136 (nI y10_136) y10_136 rfl rfl ⟨by omega, by omega, by omega, by omega⟩ rfl rfl (by omega)) ⟨rfl, yk_X7_at⟩ wm_5_237 wm_5_238 wm_5_239 wm_1_7 wm_6_0 ⟨Nat.le_of_ble_eq_true rfl, Nat.le_of_ble_eq_true rfl⟩ ⟨Nat.le_of_ble_eq_true rfl, Nat.le_of_ble_eq_true rfl⟩ rfl rfl rfl rfl hl.1 rfl (Nat.le_of_ble_eq_true rfl) dX10_restOf_208 (fun o w' H locs hp hB => ?_)
                            obtain ⟨rfl, hw9⟩ := hp
                            replace hB : Bd κ A s (lA κ q55 (r (2 * y.toNatClampNeg + 1)) fq55_166 :: lA κ q36 (R31 * 5) F33 :: gO q35 R31 C32 q36 :: mw κ a r f (va_up (va_up q 3 t24) 3 t51) (tb a) w) H locs := by rw [hw9] at hB; exact hB
                            refine W.eq (g2 := F0 m 211 ls [.long (F33 (y10_136 * 5 + y10_136)), .long y8_136]) rfl ?_
                            refine lv_lmul hx hb dX10_restOf_211 ?_
                            refine lv_aload hx hb dX10_restOf_212 (lv_at hl 4 rfl) ?_
                            refine lv_iload hx hb dX10_restOf_214 (lv_at hl 2 rfl) ?_
                            refine laldN (k0 := 0) (k := y10_136) hX hB rfl (by omega) (by omega) dX10_restOf_216 ?_
                            refine lv_ladd hx hb dX10_restOf_217 ?_
                            refine lv_lstore (lv' := [(8, .long ((y8_136 * (F33 (y10_136 * 5 + y10_136))) + (fq55_166 y10_136))), (13, .int (nI y13_166)), (11, .long x100), (10, .int (nI y10_136)), (7, .ref q55), (6, .ref q35), (5, .ref (a (2 + 2 * z.toNatClampNeg))), (4, .ref (a (2 + 2 * y.toNatClampNeg))), (0, .ref (a 0)), (1, .int y), (2, .int z), (3, .int u)]) hx hb dX10_restOf_218 hl (by decide) rfl (fun ls hl => ?_)
                            refine lv_iinc (v := nI (y10_136 + 1)) (lv' := [(10, .int (nI (y10_136 + 1))), (8, .long ((y8_136 * (F33 (y10_136 * 5 + y10_136))) + (fq55_166 y10_136))), (13, .int (nI y13_166)), (11, .long x100), (7, .ref q55), (6, .ref q35), (5, .ref (a (2 + 2 * z.toNatClampNeg))), (4, .ref (a (2 + 2 * y.toNatClampNeg))), (0, .ref (a 0)), (1, .int y), (2, .int z), (3, .int u)]) hx hb dX10_restOf_220 hl (k := 3) rfl (nI_add y10_136 1) (by decide) rfl (fun ls hl => ?_)
                            refine lv_goto (tgt := 136) hx hb dX10_restOf_223 (by decide) ?_
                            exact ih136 (y10_136 + 1) ((y8_136 * (F33 (y10_136 * 5 + y10_136))) + (fq55_166 y10_136)) fq55_166 _ _ (by omega) (by omega) hR hB _ (lv_sub hl [0, 1, 4, 5, 6, 7, 8, 9, 10, 11] rfl)
                          · rw [nleP (a := r (2 * y.toNatClampNeg + 1)) (b := y13_166) (by omega) (by omega)] at c103
                            replace hR := ifn c103 hR
                            refine lv_aload hx hb dX10_restOf_174 (lv_at hl 4 rfl) ?_
                            refine lv_iload hx hb dX10_restOf_176 (lv_at hl 0 rfl) ?_
                            refine lv_dup2_11 hx hb dX10_restOf_178 rfl rfl ?_
                            refine laldN (k0 := 0) (k := y13_166) hX hB rfl (by omega) (by omega) dX10_restOf_179 ?_
                            refine lv_lload hx hb dX10_restOf_180 (lv_at hl 1 rfl) ?_
                            refine lv_aload hx hb dX10_restOf_182 (lv_at hl 5 rfl) ?_
                            refine lv_iload hx hb dX10_restOf_184 (lv_at hl 2 rfl) ?_
                            refine lv_iload hx hb dX10_restOf_186 (lv_at hl 0 rfl) ?_
                            refine call_V (n := 2) (k0 := 2) (As := [.int (nI y10_136), .int (nI y13_166)]) (rest := [.long x100, .long (fq55_166 y13_166), .int (nI y13_166), .ref q55]) hX hB (k_X7_at κ l (lA κ q55 (r (2 * y.toNatClampNeg + 1)) fq55_166 :: lA κ q36 (R31 * 5) F33 :: gO q35 R31 C32 q36 :: mw κ a r f (va_up (va_up q 3 t24) 3 t51) (tb a) w) 2 1 q35 q36 R31 C32 F33 (nI y10_136) y10_136 (nI y13_166) y13_166 rfl rfl ⟨by omega, by omega, by omega, by omega⟩ rfl rfl (by omega)) ⟨rfl, yk_X7_at⟩ wm_5_237 wm_5_238 wm_5_239 wm_1_7 wm_6_0 ⟨Nat.le_of_ble_eq_true rfl, Nat.le_of_ble_eq_true rfl⟩ ⟨Nat.le_of_ble_eq_true rfl, Nat.le_of_ble_eq_true rfl⟩ rfl rfl rfl rfl hl.1 rfl (Nat.le_of_ble_eq_true rfl) dX10_restOf_188 (fun o w' H locs hp hB => ?_)
                            obtain ⟨rfl, hw9⟩ := hp
                            replace hB : Bd κ A s (lA κ q55 (r (2 * y.toNatClampNeg + 1)) fq55_166 :: lA κ q36 (R31 * 5) F33 :: gO q35 R31 C32 q36 :: mw κ a r f (va_up (va_up q 3 t24) 3 t51) (tb a) w) H locs := by rw [hw9] at hB; exact hB
                            refine W.eq (g2 := F0 m 191 ls [.long (F33 (y10_136 * 5 + y13_166)), .long x100, .long (fq55_166 y13_166), .int (nI y13_166), .ref q55]) rfl ?_
                            refine lv_lmul hx hb dX10_restOf_191 ?_
                            refine lv_lsub hx hb dX10_restOf_192 ?_
                            refine lastN (k0 := 0) (k := y13_166) hX hB rfl (by omega) (by omega) (w1 := lA κ q55 (r (2 * y.toNatClampNeg + 1)) (vp_updL fq55_166 y13_166 ((fq55_166 y13_166) - (x100 * (F33 (y10_136 * 5 + y13_166))))) :: lA κ q36 (R31 * 5) F33 :: gO q35 R31 C32 q36 :: mw κ a r f (va_up (va_up q 3 t24) 3 t51) (tb a) w) rfl dX10_restOf_193 (fun H locs hB => ?_)
                            refine lv_iinc (v := nI (y13_166 + 1)) (lv' := [(13, .int (nI (y13_166 + 1))), (11, .long x100), (10, .int (nI y10_136)), (8, .long y8_136), (7, .ref q55), (6, .ref q35), (5, .ref (a (2 + 2 * z.toNatClampNeg))), (4, .ref (a (2 + 2 * y.toNatClampNeg))), (0, .ref (a 0)), (1, .int y), (2, .int z), (3, .int u)]) hx hb dX10_restOf_194 hl (k := 0) rfl (nI_add y13_166 1) (by decide) rfl (fun ls hl => ?_)
                            refine lv_goto (tgt := 166) hx hb dX10_restOf_197 (by decide) ?_
                            exact ih166 (y13_166 + 1) (vp_updL fq55_166 y13_166 ((fq55_166 y13_166) - (x100 * (F33 (y10_136 * 5 + y13_166))))) _ _ (by omega) (by omega) hR hB _ hl
                      exact lp166 _ 0 fq55_136 _ _ (by omega) (Nat.lt_succ_self _) hR hB _ hl
                exact lp136 _ 0 0 fq55_103 _ _ (by omega) (Nat.lt_succ_self _) hR hB _ hl
              · rw [nleP (a := r (2 * y.toNatClampNeg + 1)) (b := y8_103) (by omega) (by omega)] at c88
                replace hR := ifn c88 hR
                refine lv_aload hx hb dX10_restOf_111 (lv_at hl 1 rfl) ?_
                refine lv_iload hx hb dX10_restOf_113 (lv_at hl 0 rfl) ?_
                refine lv_aload hx hb dX10_restOf_115 (lv_at hl 3 rfl) ?_
                refine lv_iload_n hx hb dX10_restOf_117 rfl (lv_at hl 8 rfl) ?_
                refine lv_iload hx hb dX10_restOf_118 (lv_at hl 0 rfl) ?_
                refine call_V (n := 2) (k0 := (2 + 2 * z.toNatClampNeg + 3)) (As := [.int u, .int (nI y8_103)]) (rest := [.int (nI y8_103), .ref q55]) hX hB (k_X7_at κ l (lA κ q55 (r (2 * y.toNatClampNeg + 1)) fq55_103 :: lA κ q36 (R31 * 5) F33 :: gO q35 R31 C32 q36 :: mw κ a r f (va_up (va_up q 3 t24) 3 t51) (tb a) w) (2 + 2 * z.toNatClampNeg + 3) (3 + 2 * z.toNatClampNeg + 3) (a (2 + 2 * z.toNatClampNeg)) (a (3 + 2 * z.toNatClampNeg)) (r (2 * z.toNatClampNeg)) (r (2 * z.toNatClampNeg + 1)) (f z.toNatClampNeg) u ((u).toNatClampNeg) (nI y8_103) y8_103 (mwG (i := z.toNatClampNeg) (a := a) (r := r) (f := f) (q := (va_up (va_up q 3 t24) 3 t51)) (T := tb a) (w := w) (by omega)) (mwA (i := z.toNatClampNeg) (a := a) (r := r) (f := f) (q := (va_up (va_up q 3 t24) 3 t51)) (T := tb a) (w := w) (by omega)) (mok_shp (i := z.toNatClampNeg) hm (by omega)) (nI_rep (by assumption)) rfl (by omega)) ⟨rfl, yk_X7_at⟩ wm_5_237 wm_5_238 wm_5_239 wm_1_7 wm_6_0 ⟨Nat.le_of_ble_eq_true rfl, Nat.le_of_ble_eq_true rfl⟩ ⟨Nat.le_of_ble_eq_true rfl, Nat.le_of_ble_eq_true rfl⟩ (mwG (i := z.toNatClampNeg) (a := a) (r := r) (f := f) (q := (va_up (va_up q 3 t24) 3 t51)) (T := tb a) (w := w) (by omega)) rfl rfl rfl hl.1 rfl (Nat.le_of_ble_eq_true rfl) dX10_restOf_120 (fun o w' H locs hp hB => ?_)
                obtain ⟨rfl, hw9⟩ := hp
                replace hB : Bd κ A s (lA κ q55 (r (2 * y.toNatClampNeg + 1)) fq55_103 :: lA κ q36 (R31 * 5) F33 :: gO q35 R31 C32 q36 :: mw κ a r f (va_up (va_up q 3 t24) 3 t51) (tb a) w) H locs := by rw [hw9] at hB; exact hB
                refine W.eq (g2 := F0 m 123 ls [.long ((f z.toNatClampNeg) (((u).toNatClampNeg) * 5 + y8_103)), .int (nI y8_103), .ref q55]) rfl ?_
                refine lastN (k0 := 0) (k := y8_103) hX hB rfl (by omega) (by omega) (w1 := lA κ q55 (r (2 * y.toNatClampNeg + 1)) (vp_updL fq55_103 y8_103 ((f z.toNatClampNeg) (((u).toNatClampNeg) * 5 + y8_103))) :: lA κ q36 (R31 * 5) F33 :: gO q35 R31 C32 q36 :: mw κ a r f (va_up (va_up q 3 t24) 3 t51) (tb a) w) rfl dX10_restOf_123 (fun H locs hB => ?_)
                refine lv_iinc (v := nI (y8_103 + 1)) (lv' := [(8, .int (nI (y8_103 + 1))), (7, .ref q55), (6, .ref q35), (5, .ref (a (2 + 2 * z.toNatClampNeg))), (4, .ref (a (2 + 2 * y.toNatClampNeg))), (0, .ref (a 0)), (1, .int y), (2, .int z), (3, .int u)]) hx hb dX10_restOf_124 hl (k := 0) rfl (nI_add y8_103 1) (by decide) rfl (fun ls hl => ?_)
                refine lv_goto (tgt := 103) hx hb dX10_restOf_127 (by decide) ?_
                exact ih103 (y8_103 + 1) (vp_updL fq55_103 y8_103 ((f z.toNatClampNeg) (((u).toNatClampNeg) * 5 + y8_103))) _ _ (by omega) (by omega) hR hB _ hl
          exact lp103 _ 0 (fun _ => 0) _ _ (by omega) (Nat.lt_succ_self _) hR hB _ hl
        · rw [neqP (a := r (2 * y.toNatClampNeg + 1)) (b := r (2 * z.toNatClampNeg + 1)) (by omega) (by omega)] at c49
          replace hR := ifn c49 hR
          refine lv_iconst (v := 1) hx hb dX10_restOf_78 (by decide) ?_
          refine lv_goto (tgt := 83) hx hb dX10_restOf_79 (by decide) ?_
          obtain ⟨x104, t105, hd106⟩ := ex2 (D_X10_isThrown ((va_up q 3 t24) 0) ((va_up q 3 t24) 1) ((va_up q 3 t24) 2) ((va_up q 3 t24) 3) 0 0 1)
          replace hR := bnd2_use hd106 hR
          refine call_V (n := 3) (k0 := 2) (As := [.int 0, .int 0, .int 1]) (rest := []) hX hB (k_X10_isThrown κ l (lA κ q36 (R31 * 5) F33 :: gO q35 R31 C32 q36 :: mw κ a r f (va_up q 3 t24) (tb a) w) 2 (a 0) (a 1) ((va_up q 3 t24) 0) ((va_up q 3 t24) 1) ((va_up q 3 t24) 2) ((va_up q 3 t24) 3) 0 0 1 (mw0x (a := a) (r := r) (f := f) (q := (va_up q 3 t24)) (T := tb a) (w := w) rfl) x104 t105 hd106) ⟨rfl, yk_X10_isThrown⟩ wm_5_196 wm_5_198 wp_28 wm_1_6 wm_5_199 ⟨Nat.le_of_ble_eq_true rfl, Nat.le_of_ble_eq_true rfl⟩ ⟨Nat.le_of_ble_eq_true rfl, Nat.le_of_ble_eq_true rfl⟩ (mw0x (a := a) (r := r) (f := f) (q := (va_up q 3 t24)) (T := tb a) (w := w) rfl) rfl rfl rfl hl.1 rfl (Nat.le_of_ble_eq_true rfl) dX10_restOf_83 (fun o w' H locs hp hB => ?_)
          obtain ⟨rfl, hf107, hw9⟩ := hp
          replace hB : Bd κ A s (lA κ q36 (R31 * 5) F33 :: gO q35 R31 C32 q36 :: mw κ a r f (va_up (va_up q 3 t24) 3 t105) (tb a) w) H locs := by exact Bd_eq (congrArg (List.cons _) (congrArg (List.cons _) (mwQ3x rfl _))) (by rw [hw9] at hB; exact hB)
          obtain rfl : x104 = 1 := hf107.trans (by decide)
          refine W.eq (g2 := F0 m 86 ls [.int 1]) rfl ?_
          refine lv_if_eq (tgt := 91) hx hb dX10_restOf_86 (by decide) (fun c108 => False.elim (by revert c108; decide)) (fun _ => ?_)
          refine lv_iconst (v := 0) hx hb dX10_restOf_89 (by decide) ?_
          replace hB : Bd κ A s (lA κ q36 (R31 * 5) F33 :: mw κ a r f (va_up (va_up q 3 t24) 3 t105) (tb a) w) H locs := Bd_del 1 hB
          replace hB : Bd κ A s (mw κ a r f (va_up (va_up q 3 t24) 3 t105) (tb a) w) H locs := Bd_del 0 hB
          rw [← hQ]
          exact end_i hX hB hA3 rfl rfl (by obtain ⟨rfl, rfl⟩ := pr2 hR; exact ⟨rfl, ⟨rfl, rfl, rfl⟩, rfl⟩) (Nat.le_of_ble_eq_true rfl) (Nat.le_of_ble_eq_true rfl) dX10_restOf_90
