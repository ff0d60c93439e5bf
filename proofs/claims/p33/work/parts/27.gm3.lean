set_option maxHeartbeats 4000000 in
set_option maxRecDepth 100000 in
theorem k_X5_make (κ : Kt) (l : Launch) (hst : l.stackTraces = false) (a : Nat → Nat) (r q : Nat → Int32) (f : Nat → Nat → Int64) (p0 : Int32) (p1 : Int32) (p2 : Int32)  : CX κ l yX5_make cX5_make 6 (some .int) 7 111 2 12 [.ref (a 0), .int p0, .int p1, .int p2] (cw κ a r q f) (fun o w' => ∃ x : Int32, ∃ (r' q' : Nat → Int32) (f' : Nat → Nat → Int64), o = some (.int x) ∧ (okr r → okr r') ∧ q' 4 = q 4 ∧ w' = cw κ a r' q' f') (fun E w' => E ∈ (["java/lang/IndexOutOfBoundsException", "java/lang/IllegalArgumentException"] : List String) ∧ ∃ (r' q' : Nat → Int32) (f' : Nat → Nat → Int64), (okr r → okr r') ∧ q' 4 = q 4 ∧ w' = cw κ a r' q' f') := by
  refine CX_begin (by decide) (Nat.le_of_ble_eq_true rfl) ?_
  intro p e s m args below meth c A Q hX hne hA3 hQ hB ls hl
  have hx := hX.1.1
  have hb := hX.1.2.1
  have hl : lv_has ls 6 [(0, .ref (a 0)), (1, .int p0), (2, .int p1), (3, .int p2)] := hl
  refine lv_aload_n hx hb dX5_make_0 rfl (lv_at hl 0 rfl) ?_
  refine lv_iload_n hx hb dX5_make_1 rfl (lv_at hl 1 rfl) ?_
  refine CX_after2 hX hB (run_XV (n := 1) (As := [.int p0]) (rest := []) hX hB (k_X5_needTable κ l hst a r q f p0) ⟨rfl, by decide, by decide, by decide +kernel⟩ wm_2_165 wm_2_167 wp_17 wm_1_1 wm_2_168 ⟨Nat.le_of_ble_eq_true rfl, Nat.le_of_ble_eq_true rfl⟩ ⟨Nat.le_of_ble_eq_true rfl, Nat.le_of_ble_eq_true rfl⟩ cw0 rfl rfl rfl hl.1 rfl (Nat.le_of_ble_eq_true rfl) dX5_make_2) (fun E ce q9 w' H locs hp hB hce hcv hcl => ?_) (fun o w' H locs hp hB => ?_)
  · obtain ⟨hE1, rfl⟩ := hp
    rw [← hQ]
    exact thrown_on hX hne hB hA3 hce hcv hcl ⟨((by decide : ∀ x ∈ (["java/lang/IndexOutOfBoundsException"] : List String), x ∈ (["java/lang/IndexOutOfBoundsException", "java/lang/IllegalArgumentException"] : List String)) _ hE1), r, q, f, (fun h => h), rfl, rfl⟩ (Nat.le_of_ble_eq_true rfl) (Nat.le_of_ble_eq_true rfl)
  obtain ⟨i3, hi3, rfl, rfl⟩ := hp
  refine W.eq (g2 := F0 m 5 ls [.ref (a (6 + 2 * i3))]) rfl ?_
  refine lv_astore (lv' := [(4, .ref (a (6 + 2 * i3))), (0, .ref (a 0)), (1, .int p0), (2, .int p1), (3, .int p2)]) hx hb dX5_make_5 hl (by decide) rfl (fun ls hl => ?_)
  refine lv_iload_n hx hb dX5_make_7 rfl (lv_at hl 3 rfl) ?_
  refine call_S (n := 1) (As := [.int p1]) (rest := []) hX hB (k_X5_isCount κ l (cw κ a r q f) p1 ) ⟨by decide, by decide, by decide +kernel⟩ wm_2_237 wm_2_238 wm_1_1 wm_2_239 ⟨Nat.le_of_ble_eq_true rfl, Nat.le_of_ble_eq_true rfl⟩ ⟨Nat.le_of_ble_eq_true rfl, Nat.le_of_ble_eq_true rfl⟩ rfl hl.1 rfl (Nat.le_of_ble_eq_true rfl) dX5_make_8 (fun o w' H locs hp hB => ?_)
  obtain ⟨x4, rfl, bx4, hw9⟩ := hp
  rw [hw9] at hB
  refine W.eq (g2 := F0 m 11 ls [.int x4]) rfl ?_
  have jn26 : ∀ (z0_26 : Int32) (H : Heap) (locs : List Loc), z0_26 = 0 ∨ z0_26 = 1 → Bd κ A s (cw κ a r q f) H locs → ∀ ls : Array Slot, lv_has ls 6 [(4, .ref (a (6 + 2 * i3))), (0, .ref (a 0)), (1, .int p0), (2, .int p1), (3, .int p2)] → W p l e (Rm 7 111 2 12) s m args below meth c H locs 1 6 Q (F0 m 26 ls [.int z0_26]) := by
    intro z0_26 H locs hz0_26 hB ls hl
    refine CX_after2 hX hB (run_XS (n := 1) (As := [.int z0_26]) (rest := []) hX hB (k_X5_needArgument κ l hst a r q f z0_26) ⟨by decide, by decide, by decide +kernel⟩ wm_3_0 wm_3_1 wm_1_1 wm_3_2 ⟨Nat.le_of_ble_eq_true rfl, Nat.le_of_ble_eq_true rfl⟩ ⟨Nat.le_of_ble_eq_true rfl, Nat.le_of_ble_eq_true rfl⟩ rfl hl.1 rfl (Nat.le_of_ble_eq_true rfl) dX5_make_26) (fun E ce q9 w' H locs hp hB hce hcv hcl => ?_) (fun o w' H locs hp hB => ?_)
    · obtain ⟨hE8, rfl⟩ := hp
      rw [← hQ]
      exact thrown_on hX hne hB hA3 hce hcv hcl ⟨((by decide : ∀ x ∈ (["java/lang/IllegalArgumentException"] : List String), x ∈ (["java/lang/IndexOutOfBoundsException", "java/lang/IllegalArgumentException"] : List String)) _ hE8), r, q, f, (fun h => h), rfl, rfl⟩ (Nat.le_of_ble_eq_true rfl) (Nat.le_of_ble_eq_true rfl)
    obtain ⟨rfl, rfl⟩ := hp
    refine W.eq (g2 := F0 m 29 ls []) rfl ?_
    refine lv_aload hx hb dX5_make_29 (lv_at hl 0 rfl) ?_
    refine call_V (n := 0) (As := []) (rest := []) hX hB (k_X3_countFilled κ l a r q f i3 (lt15 hi3)) ⟨rfl, by decide, by decide, by decide +kernel⟩ wm_3_19 wm_3_20 wm_3_21 wm_1_2 wm_3_22 ⟨Nat.le_of_ble_eq_true rfl, Nat.le_of_ble_eq_true rfl⟩ ⟨Nat.le_of_ble_eq_true rfl, Nat.le_of_ble_eq_true rfl⟩ (cwG (i := i3) (lt15 hi3)) rfl rfl rfl hl.1 rfl (Nat.le_of_ble_eq_true rfl) dX5_make_31 (fun o w' H locs hp hB => ?_)
    obtain ⟨x9, rfl, rfl⟩ := hp
    refine W.eq (g2 := F0 m 34 ls [.int x9]) rfl ?_
    refine lv_istore (lv' := [(5, .int x9), (4, .ref (a (6 + 2 * i3))), (0, .ref (a 0)), (1, .int p0), (2, .int p1), (3, .int p2)]) hx hb dX5_make_34 hl (by decide) rfl (fun ls hl => ?_)
    refine lv_aload hx hb dX5_make_36 (lv_at hl 1 rfl) ?_
    refine lv_iload_n hx hb dX5_make_38 rfl (lv_at hl 4 rfl) ?_
    refine lv_iload_n hx hb dX5_make_39 rfl (lv_at hl 5 rfl) ?_
    refine call_V (n := 2) (As := [.int p1, .int p2]) (rest := []) hX hB (k_X3_reshape κ l a r q f i3 p1 p2 (lt15 hi3)) ⟨rfl, by decide, by decide, by decide +kernel⟩ wm_3_23 wm_1_213 wm_1_214 wm_1_2 wm_1_215 ⟨Nat.le_of_ble_eq_true rfl, Nat.le_of_ble_eq_true rfl⟩ ⟨Nat.le_of_ble_eq_true rfl, Nat.le_of_ble_eq_true rfl⟩ (cwG (i := i3) (lt15 hi3)) rfl rfl rfl hl.1 rfl (Nat.le_of_ble_eq_true rfl) dX5_make_40 (fun o w' H locs hp hB => ?_)
    obtain ⟨r10, q12, f14, rfl, ho11, hq13, rfl⟩ := hp
    refine W.eq (g2 := F0 m 43 ls []) rfl ?_
    refine lv_aload_n hx hb dX5_make_43 rfl (lv_at hl 2 rfl) ?_
    refine lv_iload hx hb dX5_make_44 (lv_at hl 0 rfl) ?_
    refine call_V (n := 1) (As := [.int x9]) (rest := []) hX hB (k_X5_tellDone κ l a r10 q12 f14 x9) ⟨rfl, by decide, by decide, by decide +kernel⟩ wm_3_24 wm_3_26 wp_19 wm_1_1 wm_3_27 ⟨Nat.le_of_ble_eq_true rfl, Nat.le_of_ble_eq_true rfl⟩ ⟨Nat.le_of_ble_eq_true rfl, Nat.le_of_ble_eq_true rfl⟩ cw0 rfl rfl rfl hl.1 rfl (Nat.le_of_ble_eq_true rfl) dX5_make_46 (fun o w' H locs hp hB => ?_)
    obtain ⟨x15, q16, f18, rfl, hq17, rfl⟩ := hp
    refine W.eq (g2 := F0 m 49 ls [.int x15]) rfl ?_
    rw [← hQ]
    exact vx_ret ( end_i hX hB hA3 rfl rfl ⟨x15, r10, q16, f18, rfl, (fun h => ho11 ((fun h => h) h)), (hq17.trans (hq13.trans rfl)), rfl⟩ (Nat.le_of_ble_eq_true rfl) (Nat.le_of_ble_eq_true rfl) dX5_make_49)
  refine lv_if_eq (tgt := 25) hx hb dX5_make_11 (by decide) (fun c19 => ?_) (fun c19 => ?_)
  · refine lv_iconst (v := 0) hx hb dX5_make_25 (by decide) ?_
    exact jn26 0 _ _ (Or.inl rfl) hB _ hl
  · refine lv_iload_n hx hb dX5_make_14 rfl (lv_at hl 4 rfl) ?_
    refine call_S (n := 1) (As := [.int p2]) (rest := []) hX hB (k_X5_isCount κ l (cw κ a r q f) p2 ) ⟨by decide, by decide, by decide +kernel⟩ wm_2_237 wm_2_238 wm_1_1 wm_2_239 ⟨Nat.le_of_ble_eq_true rfl, Nat.le_of_ble_eq_true rfl⟩ ⟨Nat.le_of_ble_eq_true rfl, Nat.le_of_ble_eq_true rfl⟩ rfl hl.1 rfl (Nat.le_of_ble_eq_true rfl) dX5_make_15 (fun o w' H locs hp hB => ?_)
    obtain ⟨x20, rfl, bx20, hw9⟩ := hp
    rw [hw9] at hB
    refine W.eq (g2 := F0 m 18 ls [.int x20]) rfl ?_
    refine lv_if_eq (tgt := 25) hx hb dX5_make_18 (by decide) (fun c21 => ?_) (fun c21 => ?_)
    · refine lv_iconst (v := 0) hx hb dX5_make_25 (by decide) ?_
      exact jn26 0 _ _ (Or.inl rfl) hB _ hl
    · refine lv_iconst (v := 1) hx hb dX5_make_21 (by decide) ?_
      refine lv_goto (tgt := 26) hx hb dX5_make_22 (by decide) ?_
      exact jn26 1 _ _ (Or.inr rfl) hB _ hl
set_option maxHeartbeats 4000000 in
set_option maxRecDepth 100000 in
theorem k_X5_unit (κ : Kt) (l : Launch) (hst : l.stackTraces = false) (a : Nat → Nat) (r q : Nat → Int32) (f : Nat → Nat → Int64) (p0 : Int32) (p1 : Int32)  : CX κ l yX5_unit cX5_unit 5 (some .int) 7 111 2 12 [.ref (a 0), .int p0, .int p1] (cw κ a r q f) (fun o w' => ∃ x : Int32, ∃ (r' q' : Nat → Int32) (f' : Nat → Nat → Int64), o = some (.int x) ∧ (okr r → okr r') ∧ q' 4 = q 4 ∧ w' = cw κ a r' q' f') (fun E w' => E ∈ (["java/lang/IndexOutOfBoundsException", "java/lang/IllegalArgumentException"] : List String) ∧ ∃ (r' q' : Nat → Int32) (f' : Nat → Nat → Int64), (okr r → okr r') ∧ q' 4 = q 4 ∧ w' = cw κ a r' q' f') := by
  refine CX_begin (by decide) (Nat.le_of_ble_eq_true rfl) ?_
  intro p e s m args below meth c A Q hX hne hA3 hQ hB ls hl
  have hx := hX.1.1
  have hb := hX.1.2.1
  have hl : lv_has ls 5 [(0, .ref (a 0)), (1, .int p0), (2, .int p1)] := hl
  refine lv_aload_n hx hb dX5_unit_0 rfl (lv_at hl 0 rfl) ?_
  refine lv_iload_n hx hb dX5_unit_1 rfl (lv_at hl 1 rfl) ?_
  refine CX_after2 hX hB (run_XV (n := 1) (As := [.int p0]) (rest := []) hX hB (k_X5_needTable κ l hst a r q f p0) ⟨rfl, by decide, by decide, by decide +kernel⟩ wm_2_165 wm_2_167 wp_17 wm_1_1 wm_2_168 ⟨Nat.le_of_ble_eq_true rfl, Nat.le_of_ble_eq_true rfl⟩ ⟨Nat.le_of_ble_eq_true rfl, Nat.le_of_ble_eq_true rfl⟩ cw0 rfl rfl rfl hl.1 rfl (Nat.le_of_ble_eq_true rfl) dX5_unit_2) (fun E ce q9 w' H locs hp hB hce hcv hcl => ?_) (fun o w' H locs hp hB => ?_)
  · obtain ⟨hE1, rfl⟩ := hp
    rw [← hQ]
    exact thrown_on hX hne hB hA3 hce hcv hcl ⟨((by decide : ∀ x ∈ (["java/lang/IndexOutOfBoundsException"] : List String), x ∈ (["java/lang/IndexOutOfBoundsException", "java/lang/IllegalArgumentException"] : List String)) _ hE1), r, q, f, (fun h => h), rfl, rfl⟩ (Nat.le_of_ble_eq_true rfl) (Nat.le_of_ble_eq_true rfl)
  obtain ⟨i3, hi3, rfl, rfl⟩ := hp
  refine W.eq (g2 := F0 m 5 ls [.ref (a (6 + 2 * i3))]) rfl ?_
  refine lv_astore_n (lv' := [(3, .ref (a (6 + 2 * i3))), (0, .ref (a 0)), (1, .int p0), (2, .int p1)]) hx hb dX5_unit_5 rfl hl (by decide) rfl (fun ls hl => ?_)
  refine lv_iload_n hx hb dX5_unit_6 rfl (lv_at hl 3 rfl) ?_
  refine call_S (n := 1) (As := [.int p1]) (rest := []) hX hB (k_X5_isCount κ l (cw κ a r q f) p1 ) ⟨by decide, by decide, by decide +kernel⟩ wm_2_237 wm_2_238 wm_1_1 wm_2_239 ⟨Nat.le_of_ble_eq_true rfl, Nat.le_of_ble_eq_true rfl⟩ ⟨Nat.le_of_ble_eq_true rfl, Nat.le_of_ble_eq_true rfl⟩ rfl hl.1 rfl (Nat.le_of_ble_eq_true rfl) dX5_unit_7 (fun o w' H locs hp hB => ?_)
  obtain ⟨x4, rfl, bx4, hw9⟩ := hp
  rw [hw9] at hB
  refine W.eq (g2 := F0 m 10 ls [.int x4]) rfl ?_
  refine CX_after2 hX hB (run_XS (n := 1) (As := [.int x4]) (rest := []) hX hB (k_X5_needArgument κ l hst a r q f x4) ⟨by decide, by decide, by decide +kernel⟩ wm_3_0 wm_3_1 wm_1_1 wm_3_2 ⟨Nat.le_of_ble_eq_true rfl, Nat.le_of_ble_eq_true rfl⟩ ⟨Nat.le_of_ble_eq_true rfl, Nat.le_of_ble_eq_true rfl⟩ rfl hl.1 rfl (Nat.le_of_ble_eq_true rfl) dX5_unit_10) (fun E ce q9 w' H locs hp hB hce hcv hcl => ?_) (fun o w' H locs hp hB => ?_)
  · obtain ⟨hE5, rfl⟩ := hp
    rw [← hQ]
    exact thrown_on hX hne hB hA3 hce hcv hcl ⟨((by decide : ∀ x ∈ (["java/lang/IllegalArgumentException"] : List String), x ∈ (["java/lang/IndexOutOfBoundsException", "java/lang/IllegalArgumentException"] : List String)) _ hE5), r, q, f, (fun h => h), rfl, rfl⟩ (Nat.le_of_ble_eq_true rfl) (Nat.le_of_ble_eq_true rfl)
  obtain ⟨rfl, rfl⟩ := hp
  refine W.eq (g2 := F0 m 13 ls []) rfl ?_
  refine lv_aload_n hx hb dX5_unit_13 rfl (lv_at hl 0 rfl) ?_
  refine call_V (n := 0) (As := []) (rest := []) hX hB (k_X3_countFilled κ l a r q f i3 (lt15 hi3)) ⟨rfl, by decide, by decide, by decide +kernel⟩ wm_3_19 wm_3_20 wm_3_21 wm_1_2 wm_3_22 ⟨Nat.le_of_ble_eq_true rfl, Nat.le_of_ble_eq_true rfl⟩ ⟨Nat.le_of_ble_eq_true rfl, Nat.le_of_ble_eq_true rfl⟩ (cwG (i := i3) (lt15 hi3)) rfl rfl rfl hl.1 rfl (Nat.le_of_ble_eq_true rfl) dX5_unit_14 (fun o w' H locs hp hB => ?_)
  obtain ⟨x6, rfl, rfl⟩ := hp
  refine W.eq (g2 := F0 m 17 ls [.int x6]) rfl ?_
  refine lv_istore (lv' := [(4, .int x6), (3, .ref (a (6 + 2 * i3))), (0, .ref (a 0)), (1, .int p0), (2, .int p1)]) hx hb dX5_unit_17 hl (by decide) rfl (fun ls hl => ?_)
  refine lv_aload_n hx hb dX5_unit_19 rfl (lv_at hl 1 rfl) ?_
  refine lv_iload_n hx hb dX5_unit_20 rfl (lv_at hl 4 rfl) ?_
  refine call_V (n := 1) (As := [.int p1]) (rest := []) hX hB (k_X3_becomeUnit κ l a r q f i3 p1 (lt15 hi3)) ⟨rfl, by decide, by decide, by decide +kernel⟩ wm_3_35 wm_1_209 wm_1_210 wm_1_2 wm_1_211 ⟨Nat.le_of_ble_eq_true rfl, Nat.le_of_ble_eq_true rfl⟩ ⟨Nat.le_of_ble_eq_true rfl, Nat.le_of_ble_eq_true rfl⟩ (cwG (i := i3) (lt15 hi3)) rfl rfl rfl hl.1 rfl (Nat.le_of_ble_eq_true rfl) dX5_unit_21 (fun o w' H locs hp hB => ?_)
  obtain ⟨r7, q9, f11, rfl, ho8, hq10, rfl⟩ := hp
  refine W.eq (g2 := F0 m 24 ls []) rfl ?_
  refine lv_aload_n hx hb dX5_unit_24 rfl (lv_at hl 2 rfl) ?_
  refine lv_iload hx hb dX5_unit_25 (lv_at hl 0 rfl) ?_
  refine call_V (n := 1) (As := [.int x6]) (rest := []) hX hB (k_X5_tellDone κ l a r7 q9 f11 x6) ⟨rfl, by decide, by decide, by decide +kernel⟩ wm_3_24 wm_3_26 wp_19 wm_1_1 wm_3_27 ⟨Nat.le_of_ble_eq_true rfl, Nat.le_of_ble_eq_true rfl⟩ ⟨Nat.le_of_ble_eq_true rfl, Nat.le_of_ble_eq_true rfl⟩ cw0 rfl rfl rfl hl.1 rfl (Nat.le_of_ble_eq_true rfl) dX5_unit_27 (fun o w' H locs hp hB => ?_)
  obtain ⟨x12, q13, f15, rfl, hq14, rfl⟩ := hp
  refine W.eq (g2 := F0 m 30 ls [.int x12]) rfl ?_
  rw [← hQ]
  exact vx_ret ( end_i hX hB hA3 rfl rfl ⟨x12, r7, q13, f15, rfl, (fun h => ho8 ((fun h => h) h)), (hq14.trans (hq10.trans rfl)), rfl⟩ (Nat.le_of_ble_eq_true rfl) (Nat.le_of_ble_eq_true rfl) dX5_unit_30)
set_option maxHeartbeats 4000000 in
set_option maxRecDepth 100000 in
theorem k_X5_put (κ : Kt) (l : Launch) (hst : l.stackTraces = false) (a : Nat → Nat) (r q : Nat → Int32) (f : Nat → Nat → Int64) (p0 : Int32) (p1 : Int32) (p2 : Int32) (p3 : Int32)  : CX κ l yX5_put cX5_put 7 (some .int) 7 111 3 18 [.ref (a 0), .int p0, .int p1, .int p2, .int p3] (cw κ a r q f) (fun o w' => ∃ x : Int32, ∃ (r' q' : Nat → Int32) (f' : Nat → Nat → Int64), o = some (.int x) ∧ (okr r → okr r') ∧ q' 4 = q 4 ∧ w' = cw κ a r' q' f') (fun E w' => E ∈ (["java/lang/IndexOutOfBoundsException", "java/lang/IllegalArgumentException"] : List String) ∧ ∃ (r' q' : Nat → Int32) (f' : Nat → Nat → Int64), (okr r → okr r') ∧ q' 4 = q 4 ∧ w' = cw κ a r' q' f') := by
  refine CX_begin (by decide) (Nat.le_of_ble_eq_true rfl) ?_
  intro p e s m args below meth c A Q hX hne hA3 hQ hB ls hl
  have hx := hX.1.1
  have hb := hX.1.2.1
  have hl : lv_has ls 7 [(0, .ref (a 0)), (1, .int p0), (2, .int p1), (3, .int p2), (4, .int p3)] := hl
  refine lv_aload_n hx hb dX5_put_0 rfl (lv_at hl 0 rfl) ?_
  refine lv_iload_n hx hb dX5_put_1 rfl (lv_at hl 1 rfl) ?_
  refine CX_after2 hX hB (run_XV (n := 1) (As := [.int p0]) (rest := []) hX hB (k_X5_needTable κ l hst a r q f p0) ⟨rfl, by decide, by decide, by decide +kernel⟩ wm_2_165 wm_2_167 wp_17 wm_1_1 wm_2_168 ⟨Nat.le_of_ble_eq_true rfl, Nat.le_of_ble_eq_true rfl⟩ ⟨Nat.le_of_ble_eq_true rfl, Nat.le_of_ble_eq_true rfl⟩ cw0 rfl rfl rfl hl.1 rfl (Nat.le_of_ble_eq_true rfl) dX5_put_2) (fun E ce q9 w' H locs hp hB hce hcv hcl => ?_) (fun o w' H locs hp hB => ?_)
  · obtain ⟨hE1, rfl⟩ := hp
    rw [← hQ]
    exact thrown_on hX hne hB hA3 hce hcv hcl ⟨((by decide : ∀ x ∈ (["java/lang/IndexOutOfBoundsException"] : List String), x ∈ (["java/lang/IndexOutOfBoundsException", "java/lang/IllegalArgumentException"] : List String)) _ hE1), r, q, f, (fun h => h), rfl, rfl⟩ (Nat.le_of_ble_eq_true rfl) (Nat.le_of_ble_eq_true rfl)
  obtain ⟨i3, hi3, rfl, rfl⟩ := hp
  refine W.eq (g2 := F0 m 5 ls [.ref (a (6 + 2 * i3))]) rfl ?_
  refine lv_astore (lv' := [(5, .ref (a (6 + 2 * i3))), (0, .ref (a 0)), (1, .int p0), (2, .int p1), (3, .int p2), (4, .int p3)]) hx hb dX5_put_5 hl (by decide) rfl (fun ls hl => ?_)
  refine lv_aload hx hb dX5_put_7 (lv_at hl 0 rfl) ?_
  refine lv_iconst (v := 0) hx hb dX5_put_9 (by decide) ?_
  refine lv_iload_n hx hb dX5_put_10 rfl (lv_at hl 3 rfl) ?_
  refine call_V (n := 2) (As := [.int 0, .int p1]) (rest := []) hX hB (k_X3_hasLine κ l a r q f i3 0 p1 (lt15 hi3)) ⟨rfl, by decide, by decide, by decide +kernel⟩ wm_3_43 wm_3_44 wm_3_45 wm_1_2 wm_3_46 ⟨Nat.le_of_ble_eq_true rfl, Nat.le_of_ble_eq_true rfl⟩ ⟨Nat.le_of_ble_eq_true rfl, Nat.le_of_ble_eq_true rfl⟩ (cwG (i := i3) (lt15 hi3)) rfl rfl rfl hl.1 rfl (Nat.le_of_ble_eq_true rfl) dX5_put_11 (fun o w' H locs hp hB => ?_)
  obtain ⟨x4, rfl, bx4, rfl⟩ := hp
  refine W.eq (g2 := F0 m 14 ls [.int x4]) rfl ?_
  have jn32 : ∀ (z0_32 : Int32) (H : Heap) (locs : List Loc), z0_32 = 0 ∨ z0_32 = 1 → Bd κ A s (cw κ a r q f) H locs → ∀ ls : Array Slot, lv_has ls 7 [(5, .ref (a (6 + 2 * i3))), (0, .ref (a 0)), (1, .int p0), (2, .int p1), (3, .int p2), (4, .int p3)] → W p l e (Rm 7 111 3 18) s m args below meth c H locs 1 6 Q (F0 m 32 ls [.int z0_32]) := by
    intro z0_32 H locs hz0_32 hB ls hl
    refine CX_after2 hX hB (run_XS (n := 1) (As := [.int z0_32]) (rest := []) hX hB (k_X5_needIndex κ l hst a r q f z0_32) ⟨by decide, by decide, by decide +kernel⟩ wm_3_47 wm_3_48 wm_1_1 wm_3_49 ⟨Nat.le_of_ble_eq_true rfl, Nat.le_of_ble_eq_true rfl⟩ ⟨Nat.le_of_ble_eq_true rfl, Nat.le_of_ble_eq_true rfl⟩ rfl hl.1 rfl (Nat.le_of_ble_eq_true rfl) dX5_put_32) (fun E ce q9 w' H locs hp hB hce hcv hcl => ?_) (fun o w' H locs hp hB => ?_)
    · obtain ⟨hE8, rfl⟩ := hp
      rw [← hQ]
      exact thrown_on hX hne hB hA3 hce hcv hcl ⟨((by decide : ∀ x ∈ (["java/lang/IndexOutOfBoundsException"] : List String), x ∈ (["java/lang/IndexOutOfBoundsException", "java/lang/IllegalArgumentException"] : List String)) _ hE8), r, q, f, (fun h => h), rfl, rfl⟩ (Nat.le_of_ble_eq_true rfl) (Nat.le_of_ble_eq_true rfl)
    obtain ⟨rfl, rfl⟩ := hp
    refine W.eq (g2 := F0 m 35 ls []) rfl ?_
    refine lv_iload hx hb dX5_put_35 (lv_at hl 5 rfl) ?_
    refine lv_bipush (v := (-20)) hx hb dX5_put_37 (by decide) ?_
    have jn54 : ∀ (z0_54 : Int32) (H : Heap) (locs : List Loc), z0_54 = 0 ∨ z0_54 = 1 → Bd κ A s (cw κ a r q f) H locs → ∀ ls : Array Slot, lv_has ls 7 [(5, .ref (a (6 + 2 * i3))), (0, .ref (a 0)), (1, .int p0), (2, .int p1), (3, .int p2), (4, .int p3)] → W p l e (Rm 7 111 3 18) s m args below meth c H locs 2 12 Q (F0 m 54 ls [.int z0_54]) := by
      intro z0_54 H locs hz0_54 hB ls hl
      refine CX_after2 hX hB (run_XS (n := 1) (As := [.int z0_54]) (rest := []) hX hB (k_X5_needArgument κ l hst a r q f z0_54) ⟨by decide, by decide, by decide +kernel⟩ wm_3_0 wm_3_1 wm_1_1 wm_3_2 ⟨Nat.le_of_ble_eq_true rfl, Nat.le_of_ble_eq_true rfl⟩ ⟨Nat.le_of_ble_eq_true rfl, Nat.le_of_ble_eq_true rfl⟩ rfl hl.1 rfl (Nat.le_of_ble_eq_true rfl) dX5_put_54) (fun E ce q9 w' H locs hp hB hce hcv hcl => ?_) (fun o w' H locs hp hB => ?_)
      · obtain ⟨hE11, rfl⟩ := hp
        rw [← hQ]
        exact thrown_on hX hne hB hA3 hce hcv hcl ⟨((by decide : ∀ x ∈ (["java/lang/IllegalArgumentException"] : List String), x ∈ (["java/lang/IndexOutOfBoundsException", "java/lang/IllegalArgumentException"] : List String)) _ hE11), r, q, f, (fun h => h), rfl, rfl⟩ (Nat.le_of_ble_eq_true rfl) (Nat.le_of_ble_eq_true rfl)
      obtain ⟨rfl, rfl⟩ := hp
      refine W.eq (g2 := F0 m 57 ls []) rfl ?_
      refine lv_aload hx hb dX5_put_57 (lv_at hl 0 rfl) ?_
      refine lv_iload_n hx hb dX5_put_59 rfl (lv_at hl 3 rfl) ?_
      refine lv_iload_n hx hb dX5_put_60 rfl (lv_at hl 4 rfl) ?_
      refine call_V (n := 2) (As := [.int p1, .int p2]) (rest := []) hX hB (k_X3_get κ l a r q f i3 p1 p2 (lt15 hi3)) ⟨rfl, by decide, by decide, by decide +kernel⟩ wm_2_123 wm_1_187 wm_1_188 wm_1_2 wm_1_189 ⟨Nat.le_of_ble_eq_true rfl, Nat.le_of_ble_eq_true rfl⟩ ⟨Nat.le_of_ble_eq_true rfl, Nat.le_of_ble_eq_true rfl⟩ (cwG (i := i3) (lt15 hi3)) rfl rfl rfl hl.1 rfl (Nat.le_of_ble_eq_true rfl) dX5_put_61 (fun o w' H locs hp hB => ?_)
      obtain ⟨x12, rfl, rfl⟩ := hp
      refine W.eq (g2 := F0 m 64 ls [.long x12]) rfl ?_
      refine lv_iload hx hb dX5_put_64 (lv_at hl 5 rfl) ?_
      refine lv_i2l hx hb dX5_put_66 rfl ?_
      refine W.lcmp hx hb dX5_put_67 ?_
      have jn76 : ∀ (z0_76 : Int32) (H : Heap) (locs : List Loc), z0_76 = 0 ∨ z0_76 = 1 → Bd κ A s (cw κ a r q f) H locs → ∀ ls : Array Slot, lv_has ls 7 [(5, .ref (a (6 + 2 * i3))), (0, .ref (a 0)), (1, .int p0), (2, .int p1), (3, .int p2), (4, .int p3)] → W p l e (Rm 7 111 3 18) s m args below meth c H locs 3 18 Q (F0 m 76 ls [.int z0_76]) := by
        intro z0_76 H locs hz0_76 hB ls hl
        refine lv_istore (lv' := [(6, .int z0_76), (5, .ref (a (6 + 2 * i3))), (0, .ref (a 0)), (1, .int p0), (2, .int p1), (3, .int p2), (4, .int p3)]) hx hb dX5_put_76 hl (by decide) rfl (fun ls hl => ?_)
        refine lv_aload hx hb dX5_put_78 (lv_at hl 1 rfl) ?_
        refine lv_iload_n hx hb dX5_put_80 rfl (lv_at hl 4 rfl) ?_
        refine lv_iload_n hx hb dX5_put_81 rfl (lv_at hl 5 rfl) ?_
        refine lv_iload hx hb dX5_put_82 (lv_at hl 6 rfl) ?_
        refine lv_i2l hx hb dX5_put_84 rfl ?_
        refine call_V (n := 3) (As := [.int p1, .int p2, .long ((p3).toInt64)]) (rest := []) hX hB (k_X3_set κ l a r q f i3 p1 p2 ((p3).toInt64) (lt15 hi3)) ⟨rfl, by decide, by decide, by decide +kernel⟩ wm_3_51 wm_1_223 wm_1_224 wm_1_2 wm_1_225 ⟨Nat.le_of_ble_eq_true rfl, Nat.le_of_ble_eq_true rfl⟩ ⟨Nat.le_of_ble_eq_true rfl, Nat.le_of_ble_eq_true rfl⟩ (cwG (i := i3) (lt15 hi3)) rfl rfl rfl hl.1 rfl (Nat.le_of_ble_eq_true rfl) dX5_put_85 (fun o w' H locs hp hB => ?_)
        obtain ⟨f14, rfl, rfl⟩ := hp
        refine W.eq (g2 := F0 m 88 ls []) rfl ?_
        refine lv_aload_n hx hb dX5_put_88 rfl (lv_at hl 2 rfl) ?_
        refine lv_iload hx hb dX5_put_89 (lv_at hl 0 rfl) ?_
        have jn99 : ∀ (z0_99 : Int32) (H : Heap) (locs : List Loc), z0_99 = 0 ∨ z0_99 = 1 → Bd κ A s (cw κ a r q f14) H locs → ∀ ls : Array Slot, lv_has ls 7 [(6, .int z0_76), (5, .ref (a (6 + 2 * i3))), (0, .ref (a 0)), (1, .int p0), (2, .int p1), (3, .int p2), (4, .int p3)] → W p l e (Rm 7 111 3 18) s m args below meth c H locs 3 18 Q (F0 m 99 ls [.int z0_99, .ref (a 0)]) := by
          intro z0_99 H locs hz0_99 hB ls hl
          refine call_V (n := 1) (As := [.int z0_99]) (rest := []) hX hB (k_X5_tellDone κ l a r q f14 z0_99) ⟨rfl, by decide, by decide, by decide +kernel⟩ wm_3_24 wm_3_26 wp_19 wm_1_1 wm_3_27 ⟨Nat.le_of_ble_eq_true rfl, Nat.le_of_ble_eq_true rfl⟩ ⟨Nat.le_of_ble_eq_true rfl, Nat.le_of_ble_eq_true rfl⟩ cw0 rfl rfl rfl hl.1 rfl (Nat.le_of_ble_eq_true rfl) dX5_put_99 (fun o w' H locs hp hB => ?_)
          obtain ⟨x16, q17, f19, rfl, hq18, rfl⟩ := hp
          refine W.eq (g2 := F0 m 102 ls [.int x16]) rfl ?_
          rw [← hQ]
          exact vx_ret ( end_i hX hB hA3 rfl rfl ⟨x16, r, q17, f19, rfl, (fun h => h), (hq18.trans rfl), rfl⟩ (Nat.le_of_ble_eq_true rfl) (Nat.le_of_ble_eq_true rfl) dX5_put_102)
        refine lv_if_eq (tgt := 98) hx hb dX5_put_91 (by decide) (fun c20 => ?_) (fun c20 => ?_)
        · refine lv_iconst (v := 0) hx hb dX5_put_98 (by decide) ?_
          exact jn99 0 _ _ (Or.inl rfl) hB _ hl
        · refine lv_iconst (v := 1) hx hb dX5_put_94 (by decide) ?_
          refine lv_goto (tgt := 99) hx hb dX5_put_95 (by decide) ?_
          exact jn99 1 _ _ (Or.inr rfl) hB _ hl
      refine lv_if_eq (tgt := 75) hx hb dX5_put_68 (by decide) (fun c21 => ?_) (fun c21 => ?_)
      · refine lv_iconst (v := 0) hx hb dX5_put_75 (by decide) ?_
        exact jn76 0 _ _ (Or.inl rfl) hB _ hl
      · refine lv_iconst (v := 1) hx hb dX5_put_71 (by decide) ?_
        refine lv_goto (tgt := 76) hx hb dX5_put_72 (by decide) ?_
        exact jn76 1 _ _ (Or.inr rfl) hB _ hl
    refine lv_icmp_lt (tgt := 53) hx hb dX5_put_39 (by decide) (fun c22 => ?_) (fun c22 => ?_)
    · refine lv_iconst (v := 0) hx hb dX5_put_53 (by decide) ?_
      exact jn54 0 _ _ (Or.inl rfl) hB _ hl
    · refine lv_iload hx hb dX5_put_42 (lv_at hl 5 rfl) ?_
      refine lv_bipush (v := 20) hx hb dX5_put_44 (by decide) ?_
      refine lv_icmp_gt (tgt := 53) hx hb dX5_put_46 (by decide) (fun c23 => ?_) (fun c23 => ?_)
      · refine lv_iconst (v := 0) hx hb dX5_put_53 (by decide) ?_
        exact jn54 0 _ _ (Or.inl rfl) hB _ hl
      · refine lv_iconst (v := 1) hx hb dX5_put_49 (by decide) ?_
        refine lv_goto (tgt := 54) hx hb dX5_put_50 (by decide) ?_
        exact jn54 1 _ _ (Or.inr rfl) hB _ hl
  refine lv_if_eq (tgt := 31) hx hb dX5_put_14 (by decide) (fun c24 => ?_) (fun c24 => ?_)
  · refine lv_iconst (v := 0) hx hb dX5_put_31 (by decide) ?_
    exact jn32 0 _ _ (Or.inl rfl) hB _ hl
  · refine lv_aload hx hb dX5_put_17 (lv_at hl 0 rfl) ?_
    refine lv_iconst (v := 1) hx hb dX5_put_19 (by decide) ?_
    refine lv_iload_n hx hb dX5_put_20 rfl (lv_at hl 4 rfl) ?_
    refine call_V (n := 2) (As := [.int 1, .int p2]) (rest := []) hX hB (k_X3_hasLine κ l a r q f i3 1 p2 (lt15 hi3)) ⟨rfl, by decide, by decide, by decide +kernel⟩ wm_3_43 wm_3_44 wm_3_45 wm_1_2 wm_3_46 ⟨Nat.le_of_ble_eq_true rfl, Nat.le_of_ble_eq_true rfl⟩ ⟨Nat.le_of_ble_eq_true rfl, Nat.le_of_ble_eq_true rfl⟩ (cwG (i := i3) (lt15 hi3)) rfl rfl rfl hl.1 rfl (Nat.le_of_ble_eq_true rfl) dX5_put_21 (fun o w' H locs hp hB => ?_)
    obtain ⟨x25, rfl, bx25, rfl⟩ := hp
    refine W.eq (g2 := F0 m 24 ls [.int x25]) rfl ?_
    refine lv_if_eq (tgt := 31) hx hb dX5_put_24 (by decide) (fun c26 => ?_) (fun c26 => ?_)
    · refine lv_iconst (v := 0) hx hb dX5_put_31 (by decide) ?_
      exact jn32 0 _ _ (Or.inl rfl) hB _ hl
    · refine lv_iconst (v := 1) hx hb dX5_put_27 (by decide) ?_
      refine lv_goto (tgt := 32) hx hb dX5_put_28 (by decide) ?_
      exact jn32 1 _ _ (Or.inr rfl) hB _ hl
set_option maxHeartbeats 4000000 in
set_option maxRecDepth 100000 in
theorem k_X5_sow (κ : Kt) (l : Launch) (hst : l.stackTraces = false) (a : Nat → Nat) (r q : Nat → Int32) (f : Nat → Nat → Int64) (p0 : Int32) (p1 : Int32) (p2 : Int32)  : CX κ l yX5_sow cX5_sow 8 (some .int) 7 111 2 12 [.ref (a 0), .int p0, .int p1, .int p2] (cw κ a r q f) (fun o w' => ∃ x : Int32, ∃ (r' q' : Nat → Int32) (f' : Nat → Nat → Int64), o = some (.int x) ∧ (okr r → okr r') ∧ q' 4 = q 4 ∧ w' = cw κ a r' q' f') (fun E w' => E ∈ (["java/lang/IndexOutOfBoundsException", "java/lang/IllegalArgumentException"] : List String) ∧ ∃ (r' q' : Nat → Int32) (f' : Nat → Nat → Int64), (okr r → okr r') ∧ q' 4 = q 4 ∧ w' = cw κ a r' q' f') := by
  refine CX_begin (by decide) (Nat.le_of_ble_eq_true rfl) ?_
  intro p e s m args below meth c A Q hX hne hA3 hQ hB ls hl
  have hx := hX.1.1
  have hb := hX.1.2.1
  have hl : lv_has ls 8 [(0, .ref (a 0)), (1, .int p0), (2, .int p1), (3, .int p2)] := hl
  refine lv_aload_n hx hb dX5_sow_0 rfl (lv_at hl 0 rfl) ?_
  refine lv_iload_n hx hb dX5_sow_1 rfl (lv_at hl 1 rfl) ?_
  refine CX_after2 hX hB (run_XV (n := 1) (As := [.int p0]) (rest := []) hX hB (k_X5_needTable κ l hst a r q f p0) ⟨rfl, by decide, by decide, by decide +kernel⟩ wm_2_165 wm_2_167 wp_17 wm_1_1 wm_2_168 ⟨Nat.le_of_ble_eq_true rfl, Nat.le_of_ble_eq_true rfl⟩ ⟨Nat.le_of_ble_eq_true rfl, Nat.le_of_ble_eq_true rfl⟩ cw0 rfl rfl rfl hl.1 rfl (Nat.le_of_ble_eq_true rfl) dX5_sow_2) (fun E ce q9 w' H locs hp hB hce hcv hcl => ?_) (fun o w' H locs hp hB => ?_)
  · obtain ⟨hE1, rfl⟩ := hp
    rw [← hQ]
    exact thrown_on hX hne hB hA3 hce hcv hcl ⟨((by decide : ∀ x ∈ (["java/lang/IndexOutOfBoundsException"] : List String), x ∈ (["java/lang/IndexOutOfBoundsException", "java/lang/IllegalArgumentException"] : List String)) _ hE1), r, q, f, (fun h => h), rfl, rfl⟩ (Nat.le_of_ble_eq_true rfl) (Nat.le_of_ble_eq_true rfl)
  obtain ⟨i3, hi3, rfl, rfl⟩ := hp
  refine W.eq (g2 := F0 m 5 ls [.ref (a (6 + 2 * i3))]) rfl ?_
  refine lv_astore (lv' := [(4, .ref (a (6 + 2 * i3))), (0, .ref (a 0)), (1, .int p0), (2, .int p1), (3, .int p2)]) hx hb dX5_sow_5 hl (by decide) rfl (fun ls hl => ?_)
  refine lv_iload_n hx hb dX5_sow_7 rfl (lv_at hl 3 rfl) ?_
  have jn32 : ∀ (z0_32 : Int32) (H : Heap) (locs : List Loc), z0_32 = 0 ∨ z0_32 = 1 → Bd κ A s (cw κ a r q f) H locs → ∀ ls : Array Slot, lv_has ls 8 [(4, .ref (a (6 + 2 * i3))), (0, .ref (a 0)), (1, .int p0), (2, .int p1), (3, .int p2)] → W p l e (Rm 7 111 2 12) s m args below meth c H locs 1 6 Q (F0 m 32 ls [.int z0_32]) := by
    intro z0_32 H locs hz0_32 hB ls hl
    refine CX_after2 hX hB (run_XS (n := 1) (As := [.int z0_32]) (rest := []) hX hB (k_X5_needArgument κ l hst a r q f z0_32) ⟨by decide, by decide, by decide +kernel⟩ wm_3_0 wm_3_1 wm_1_1 wm_3_2 ⟨Nat.le_of_ble_eq_true rfl, Nat.le_of_ble_eq_true rfl⟩ ⟨Nat.le_of_ble_eq_true rfl, Nat.le_of_ble_eq_true rfl⟩ rfl hl.1 rfl (Nat.le_of_ble_eq_true rfl) dX5_sow_32) (fun E ce q9 w' H locs hp hB hce hcv hcl => ?_) (fun o w' H locs hp hB => ?_)
    · obtain ⟨hE8, rfl⟩ := hp
      rw [← hQ]
      exact thrown_on hX hne hB hA3 hce hcv hcl ⟨((by decide : ∀ x ∈ (["java/lang/IllegalArgumentException"] : List String), x ∈ (["java/lang/IndexOutOfBoundsException", "java/lang/IllegalArgumentException"] : List String)) _ hE8), r, q, f, (fun h => h), rfl, rfl⟩ (Nat.le_of_ble_eq_true rfl) (Nat.le_of_ble_eq_true rfl)
    obtain ⟨rfl, rfl⟩ := hp
    refine W.eq (g2 := F0 m 35 ls []) rfl ?_
    refine lv_iload_n hx hb dX5_sow_35 rfl (lv_at hl 3 rfl) ?_
    refine lv_istore (lv' := [(5, .int p1), (4, .ref (a (6 + 2 * i3))), (0, .ref (a 0)), (1, .int p0), (2, .int p1), (3, .int p2)]) hx hb dX5_sow_36 hl (by decide) rfl (fun ls hl => ?_)
    refine lv_iconst (v := 0) hx hb dX5_sow_38 (by decide) ?_
    refine lv_istore (lv' := [(6, .int 0), (5, .int p1), (4, .ref (a (6 + 2 * i3))), (0, .ref (a 0)), (1, .int p0), (2, .int p1), (3, .int p2)]) hx hb dX5_sow_39 hl (by decide) rfl (fun ls hl => ?_)
    have lp41 : ∀ (nn : Nat) (y6_41 : Int32) (y5_41 : Int32) (f_41 : Nat → Nat → Int64) (H : Heap) (locs : List Loc), gap (r (2 * i3)) y6_41 < nn → Bd κ A s (cw κ a r q f_41) H locs → ∀ ls : Array Slot, lv_has ls 8 [(6, .int y6_41), (5, .int y5_41), (4, .ref (a (6 + 2 * i3))), (0, .ref (a 0)), (1, .int p0), (2, .int p1), (3, .int p2)] → W p l e (Rm 7 111 2 12) s m args below meth c H locs 2 12 Q (F0 m 41 ls []) := by
      intro nn
      induction nn with
      | zero => intro y6_41 y5_41 f_41 H locs hμ; exact absurd hμ (Nat.not_lt_zero _)
      | succ nn ih41 =>
        intro y6_41 y5_41 f_41 H locs hμ41 hB ls hl
        refine lv_iload hx hb dX5_sow_41 (lv_at hl 0 rfl) ?_
        refine lv_aload hx hb dX5_sow_43 (lv_at hl 2 rfl) ?_
        refine gfN hX hB (cwG (i := i3) (lt15 hi3)) rfl in3 1 (by decide) wn_1_51 rfl rfl dX5_sow_45 ?_
        refine lv_icmp_ge (tgt := 118) hx hb dX5_sow_48 (by decide) (fun c69 => ?_) (fun c69 => ?_)
        · refine lv_aload_n hx hb dX5_sow_118 rfl (lv_at hl 3 rfl) ?_
          refine lv_aload hx hb dX5_sow_119 (lv_at hl 2 rfl) ?_
          refine gfN hX hB (cwG (i := i3) (lt15 hi3)) rfl in3 1 (by decide) wn_1_51 rfl rfl dX5_sow_121 ?_
          refine lv_aload hx hb dX5_sow_124 (lv_at hl 2 rfl) ?_
          refine gfN hX hB (cwG (i := i3) (lt15 hi3)) rfl in3 2 (by decide) wn_1_57 rfl rfl dX5_sow_126 ?_
          refine lv_imul hx hb dX5_sow_129 ?_
          refine lv_aload hx hb dX5_sow_130 (lv_at hl 2 rfl) ?_
          refine call_V (n := 0) (As := []) (rest := [.int ((r (2 * i3)) * (r (2 * i3 + 1))), .ref (a 0)]) hX hB (k_X3_countFilled κ l a r q f_41 i3 (lt15 hi3)) ⟨rfl, by decide, by decide, by decide +kernel⟩ wm_3_19 wm_3_20 wm_3_21 wm_1_2 wm_3_22 ⟨Nat.le_of_ble_eq_true rfl, Nat.le_of_ble_eq_true rfl⟩ ⟨Nat.le_of_ble_eq_true rfl, Nat.le_of_ble_eq_true rfl⟩ (cwG (i := i3) (lt15 hi3)) rfl rfl rfl hl.1 rfl (Nat.le_of_ble_eq_true rfl) dX5_sow_132 (fun o w' H locs hp hB => ?_)
          obtain ⟨x70, rfl, rfl⟩ := hp
          refine W.eq (g2 := F0 m 135 ls [.int x70, .int ((r (2 * i3)) * (r (2 * i3 + 1))), .ref (a 0)]) rfl ?_
          refine lv_isub hx hb dX5_sow_135 ?_
          refine call_V (n := 1) (As := [.int (((r (2 * i3)) * (r (2 * i3 + 1))) - x70)]) (rest := []) hX hB (k_X5_tellDone κ l a r q f_41 (((r (2 * i3)) * (r (2 * i3 + 1))) - x70)) ⟨rfl, by decide, by decide, by decide +kernel⟩ wm_3_24 wm_3_26 wp_19 wm_1_1 wm_3_27 ⟨Nat.le_of_ble_eq_true rfl, Nat.le_of_ble_eq_true rfl⟩ ⟨Nat.le_of_ble_eq_true rfl, Nat.le_of_ble_eq_true rfl⟩ cw0 rfl rfl rfl hl.1 rfl (Nat.le_of_ble_eq_true rfl) dX5_sow_136 (fun o w' H locs hp hB => ?_)
          obtain ⟨x71, q72, f74, rfl, hq73, rfl⟩ := hp
          refine W.eq (g2 := F0 m 139 ls [.int x71]) rfl ?_
          rw [← hQ]
          exact vx_ret ( end_i hX hB hA3 rfl rfl ⟨x71, r, q72, f74, rfl, (fun h => h), (hq73.trans rfl), rfl⟩ (Nat.le_of_ble_eq_true rfl) (Nat.le_of_ble_eq_true rfl) dX5_sow_139)
        · refine lv_iconst (v := 0) hx hb dX5_sow_51 (by decide) ?_
          refine lv_istore (lv' := [(7, .int 0), (6, .int y6_41), (5, .int y5_41), (4, .ref (a (6 + 2 * i3))), (0, .ref (a 0)), (1, .int p0), (2, .int p1), (3, .int p2)]) hx hb dX5_sow_52 hl (by decide) rfl (fun ls hl => ?_)
          have lp54 : ∀ (nn : Nat) (y7_54 : Int32) (y5_54 : Int32) (f_54 : Nat → Nat → Int64) (H : Heap) (locs : List Loc), gap (r (2 * i3 + 1)) y7_54 < nn → Bd κ A s (cw κ a r q f_54) H locs → ∀ ls : Array Slot, lv_has ls 8 [(7, .int y7_54), (6, .int y6_41), (5, .int y5_54), (4, .ref (a (6 + 2 * i3))), (0, .ref (a 0)), (1, .int p0), (2, .int p1), (3, .int p2)] → W p l e (Rm 7 111 2 12) s m args below meth c H locs 2 12 Q (F0 m 54 ls []) := by
            intro nn
            induction nn with
            | zero => intro y7_54 y5_54 f_54 H locs hμ; exact absurd hμ (Nat.not_lt_zero _)
            | succ nn ih54 =>
              intro y7_54 y5_54 f_54 H locs hμ54 hB ls hl
              refine lv_iload hx hb dX5_sow_54 (lv_at hl 0 rfl) ?_
              refine lv_aload hx hb dX5_sow_56 (lv_at hl 3 rfl) ?_
              refine gfN hX hB (cwG (i := i3) (lt15 hi3)) rfl in3 2 (by decide) wn_1_57 rfl rfl dX5_sow_58 ?_
              refine lv_icmp_ge (tgt := 112) hx hb dX5_sow_61 (by decide) (fun c81 => ?_) (fun c81 => ?_)
              · refine lv_iinc (v := y6_41 + 1) (lv' := [(6, .int (y6_41 + 1)), (7, .int y7_54), (5, .int y5_54), (4, .ref (a (6 + 2 * i3))), (0, .ref (a 0)), (1, .int p0), (2, .int p1), (3, .int p2)]) hx hb dX5_sow_112 hl (k := 1) rfl rfl (by decide) rfl (fun ls hl => ?_)
                refine lv_goto (tgt := 41) hx hb dX5_sow_115 (by decide) ?_
                exact ih41 (y6_41 + 1) y5_54 f_54 _ _  (gap_step c69 hμ41) hB _ (lv_sub hl [0, 2, 3, 4, 5, 6, 7] rfl)
              · refine lv_iload hx hb dX5_sow_64 (lv_at hl 2 rfl) ?_
                refine lv_sipush (v := 25173) hx hb dX5_sow_66 (by decide) ?_
                refine lv_imul hx hb dX5_sow_69 ?_
                refine lv_sipush (v := 13849) hx hb dX5_sow_70 (by decide) ?_
                refine lv_iadd hx hb dX5_sow_73 ?_
                refine lv_ldc (own := RX5) (v := 65536) hx hb hX.1.2.2.2.1 (hX.1.2.2.2.2 _ wm_3_60) dX5_sow_74 ?_
                refine lv_irem hx hb dX5_sow_76 (by decide) ?_
                refine lv_istore (lv' := [(5, .int (((y5_54 * 25173) + 13849) - ((y5_54 * 25173) + 13849) / 65536 * 65536)), (7, .int y7_54), (6, .int y6_41), (4, .ref (a (6 + 2 * i3))), (0, .ref (a 0)), (1, .int p0), (2, .int p1), (3, .int p2)]) hx hb dX5_sow_77 hl (by decide) rfl (fun ls hl => ?_)
                refine lv_aload hx hb dX5_sow_79 (lv_at hl 3 rfl) ?_
                refine lv_iload hx hb dX5_sow_81 (lv_at hl 2 rfl) ?_
                refine lv_iload hx hb dX5_sow_83 (lv_at hl 1 rfl) ?_
                refine lv_iload hx hb dX5_sow_85 (lv_at hl 0 rfl) ?_
                refine lv_bipush (v := 64) hx hb dX5_sow_87 (by decide) ?_
                refine lv_idiv hx hb dX5_sow_89 (by decide) ?_
                refine lv_i2l hx hb dX5_sow_90 rfl ?_
                refine lv_iconst (v := 2) hx hb dX5_sow_91 (by decide) ?_
                refine lv_iload_n hx hb dX5_sow_92 rfl (lv_at hl 7 rfl) ?_
                refine lv_imul hx hb dX5_sow_93 ?_
                refine lv_iconst (v := 1) hx hb dX5_sow_94 (by decide) ?_
                refine lv_iadd hx hb dX5_sow_95 ?_
                refine lv_i2l hx hb dX5_sow_96 rfl ?_
                refine call_S (n := 2) (As := [.long ((((((y5_54 * 25173) + 13849) - ((y5_54 * 25173) + 13849) / 65536 * 65536) / 64)).toInt64), .long ((((2 * p2) + 1)).toInt64)]) (rest := [.int y7_54, .int y6_41, .ref (a (6 + 2 * i3))]) hX hB (k_X5_remainder κ l (cw κ a r q f_54) ((((((y5_54 * 25173) + 13849) - ((y5_54 * 25173) + 13849) / 65536 * 65536) / 64)).toInt64) ((((2 * p2) + 1)).toInt64) ) ⟨by decide, by decide, by decide +kernel⟩ wm_3_61 wm_3_62 wm_1_1 wm_3_63 ⟨Nat.le_of_ble_eq_true rfl, Nat.le_of_ble_eq_true rfl⟩ ⟨Nat.le_of_ble_eq_true rfl, Nat.le_of_ble_eq_true rfl⟩ rfl hl.1 rfl (Nat.le_of_ble_eq_true rfl) dX5_sow_97 (fun o w' H locs hp hB => ?_)
                obtain ⟨x82, rfl, hw9⟩ := hp
                rw [hw9] at hB
                refine W.eq (g2 := F0 m 100 ls [.long x82, .int y7_54, .int y6_41, .ref (a (6 + 2 * i3))]) rfl ?_
                refine lv_iload_n hx hb dX5_sow_100 rfl (lv_at hl 7 rfl) ?_
                refine lv_i2l hx hb dX5_sow_101 rfl ?_
                refine lv_lsub hx hb dX5_sow_102 ?_
                refine call_V (n := 3) (As := [.int y6_41, .int y7_54, .long (x82 - ((p2).toInt64))]) (rest := []) hX hB (k_X3_set κ l a r q f_54 i3 y6_41 y7_54 (x82 - ((p2).toInt64)) (lt15 hi3)) ⟨rfl, by decide, by decide, by decide +kernel⟩ wm_3_51 wm_1_223 wm_1_224 wm_1_2 wm_1_225 ⟨Nat.le_of_ble_eq_true rfl, Nat.le_of_ble_eq_true rfl⟩ ⟨Nat.le_of_ble_eq_true rfl, Nat.le_of_ble_eq_true rfl⟩ (cwG (i := i3) (lt15 hi3)) rfl rfl rfl hl.1 rfl (Nat.le_of_ble_eq_true rfl) dX5_sow_103 (fun o w' H locs hp hB => ?_)
                obtain ⟨f83, rfl, rfl⟩ := hp
                refine W.eq (g2 := F0 m 106 ls []) rfl ?_
                refine lv_iinc (v := y7_54 + 1) (lv' := [(7, .int (y7_54 + 1)), (5, .int (((y5_54 * 25173) + 13849) - ((y5_54 * 25173) + 13849) / 65536 * 65536)), (6, .int y6_41), (4, .ref (a (6 + 2 * i3))), (0, .ref (a 0)), (1, .int p0), (2, .int p1), (3, .int p2)]) hx hb dX5_sow_106 hl (k := 1) rfl rfl (by decide) rfl (fun ls hl => ?_)
                refine lv_goto (tgt := 54) hx hb dX5_sow_109 (by decide) ?_
                exact ih54 (y7_54 + 1) (((y5_54 * 25173) + 13849) - ((y5_54 * 25173) + 13849) / 65536 * 65536) f83 _ _  (gap_step c81 hμ54) hB _ (lv_sub hl [0, 2, 1, 3, 4, 5, 6, 7] rfl)
          exact lp54 _ 0 y5_41 f_41 _ _  (Nat.lt_succ_self _) hB _ hl
    exact lp41 _ 0 p1 f _ _  (Nat.lt_succ_self _) hB _ hl
  refine lv_if_lt (tgt := 31) hx hb dX5_sow_8 (by decide) (fun c84 => ?_) (fun c84 => ?_)
  · refine lv_iconst (v := 0) hx hb dX5_sow_31 (by decide) ?_
    exact jn32 0 _ _ (Or.inl rfl) hB _ hl
  · refine lv_iload_n hx hb dX5_sow_11 rfl (lv_at hl 3 rfl) ?_
    refine lv_ldc (own := RX5) (v := 65535) hx hb hX.1.2.2.2.1 (hX.1.2.2.2.2 _ wm_3_59) dX5_sow_12 ?_
    refine lv_icmp_gt (tgt := 31) hx hb dX5_sow_14 (by decide) (fun c85 => ?_) (fun c85 => ?_)
    · refine lv_iconst (v := 0) hx hb dX5_sow_31 (by decide) ?_
      exact jn32 0 _ _ (Or.inl rfl) hB _ hl
    · refine lv_iload_n hx hb dX5_sow_17 rfl (lv_at hl 4 rfl) ?_
      refine lv_if_lt (tgt := 31) hx hb dX5_sow_18 (by decide) (fun c86 => ?_) (fun c86 => ?_)
      · refine lv_iconst (v := 0) hx hb dX5_sow_31 (by decide) ?_
        exact jn32 0 _ _ (Or.inl rfl) hB _ hl
      · refine lv_iload_n hx hb dX5_sow_21 rfl (lv_at hl 4 rfl) ?_
        refine lv_bipush (v := 20) hx hb dX5_sow_22 (by decide) ?_
        refine lv_icmp_gt (tgt := 31) hx hb dX5_sow_24 (by decide) (fun c87 => ?_) (fun c87 => ?_)
        · refine lv_iconst (v := 0) hx hb dX5_sow_31 (by decide) ?_
          exact jn32 0 _ _ (Or.inl rfl) hB _ hl
        · refine lv_iconst (v := 1) hx hb dX5_sow_27 (by decide) ?_
          refine lv_goto (tgt := 32) hx hb dX5_sow_28 (by decide) ?_
          exact jn32 1 _ _ (Or.inr rfl) hB _ hl
set_option maxHeartbeats 4000000 in
set_option maxRecDepth 100000 in
theorem k_X5_copy (κ : Kt) (l : Launch) (hst : l.stackTraces = false) (a : Nat → Nat) (r q : Nat → Int32) (f : Nat → Nat → Int64) (p0 : Int32) (p1 : Int32)  : CX κ l yX5_copy cX5_copy 6 (some .int) 7 111 2 12 [.ref (a 0), .int p0, .int p1] (cw κ a r q f) (fun o w' => ∃ x : Int32, ∃ (r' q' : Nat → Int32) (f' : Nat → Nat → Int64), o = some (.int x) ∧ (okr r → okr r') ∧ q' 4 = q 4 ∧ w' = cw κ a r' q' f') (fun E w' => E ∈ (["java/lang/IndexOutOfBoundsException"] : List String) ∧ ∃ (r' q' : Nat → Int32) (f' : Nat → Nat → Int64), (okr r → okr r') ∧ q' 4 = q 4 ∧ w' = cw κ a r' q' f') := by
  refine CX_begin (by decide) (Nat.le_of_ble_eq_true rfl) ?_
  intro p e s m args below meth c A Q hX hne hA3 hQ hB ls hl
  have hx := hX.1.1
  have hb := hX.1.2.1
  have hl : lv_has ls 6 [(0, .ref (a 0)), (1, .int p0), (2, .int p1)] := hl
  refine lv_aload_n hx hb dX5_copy_0 rfl (lv_at hl 0 rfl) ?_
  refine lv_iload_n hx hb dX5_copy_1 rfl (lv_at hl 1 rfl) ?_
  refine CX_after2 hX hB (run_XV (n := 1) (As := [.int p0]) (rest := []) hX hB (k_X5_needTable κ l hst a r q f p0) ⟨rfl, by decide, by decide, by decide +kernel⟩ wm_2_165 wm_2_167 wp_17 wm_1_1 wm_2_168 ⟨Nat.le_of_ble_eq_true rfl, Nat.le_of_ble_eq_true rfl⟩ ⟨Nat.le_of_ble_eq_true rfl, Nat.le_of_ble_eq_true rfl⟩ cw0 rfl rfl rfl hl.1 rfl (Nat.le_of_ble_eq_true rfl) dX5_copy_2) (fun E ce q9 w' H locs hp hB hce hcv hcl => ?_) (fun o w' H locs hp hB => ?_)
  · obtain ⟨hE1, rfl⟩ := hp
    rw [← hQ]
    exact thrown_on hX hne hB hA3 hce hcv hcl ⟨((by decide : ∀ x ∈ (["java/lang/IndexOutOfBoundsException"] : List String), x ∈ (["java/lang/IndexOutOfBoundsException"] : List String)) _ hE1), r, q, f, (fun h => h), rfl, rfl⟩ (Nat.le_of_ble_eq_true rfl) (Nat.le_of_ble_eq_true rfl)
  obtain ⟨i3, hi3, rfl, rfl⟩ := hp
  refine W.eq (g2 := F0 m 5 ls [.ref (a (6 + 2 * i3))]) rfl ?_
  refine lv_astore_n (lv' := [(3, .ref (a (6 + 2 * i3))), (0, .ref (a 0)), (1, .int p0), (2, .int p1)]) hx hb dX5_copy_5 rfl hl (by decide) rfl (fun ls hl => ?_)
  refine lv_aload_n hx hb dX5_copy_6 rfl (lv_at hl 1 rfl) ?_
  refine lv_iload_n hx hb dX5_copy_7 rfl (lv_at hl 3 rfl) ?_
  refine CX_after2 hX hB (run_XV (n := 1) (As := [.int p1]) (rest := []) hX hB (k_X5_needTable κ l hst a r q f p1) ⟨rfl, by decide, by decide, by decide +kernel⟩ wm_2_165 wm_2_167 wp_17 wm_1_1 wm_2_168 ⟨Nat.le_of_ble_eq_true rfl, Nat.le_of_ble_eq_true rfl⟩ ⟨Nat.le_of_ble_eq_true rfl, Nat.le_of_ble_eq_true rfl⟩ cw0 rfl rfl rfl hl.1 rfl (Nat.le_of_ble_eq_true rfl) dX5_copy_8) (fun E ce q9 w' H locs hp hB hce hcv hcl => ?_) (fun o w' H locs hp hB => ?_)
  · obtain ⟨hE4, rfl⟩ := hp
    rw [← hQ]
    exact thrown_on hX hne hB hA3 hce hcv hcl ⟨((by decide : ∀ x ∈ (["java/lang/IndexOutOfBoundsException"] : List String), x ∈ (["java/lang/IndexOutOfBoundsException"] : List String)) _ hE4), r, q, f, (fun h => h), rfl, rfl⟩ (Nat.le_of_ble_eq_true rfl) (Nat.le_of_ble_eq_true rfl)
  obtain ⟨i6, hi6, rfl, rfl⟩ := hp
  refine W.eq (g2 := F0 m 11 ls [.ref (a (6 + 2 * i6))]) rfl ?_
  refine lv_astore (lv' := [(4, .ref (a (6 + 2 * i6))), (3, .ref (a (6 + 2 * i3))), (0, .ref (a 0)), (1, .int p0), (2, .int p1)]) hx hb dX5_copy_11 hl (by decide) rfl (fun ls hl => ?_)
  refine lv_aload hx hb dX5_copy_13 (lv_at hl 0 rfl) ?_
  refine lv_aload_n hx hb dX5_copy_15 rfl (lv_at hl 1 rfl) ?_
  refine call_V (n := 1) (As := [.ref (a (6 + 2 * i3))]) (rest := []) hX hB (k_X3_isLike κ l a r q f i6 i3 (lt15 hi6) (lt15 hi3)) ⟨rfl, by decide, by decide, by decide +kernel⟩ wm_2_44 wm_2_45 wm_2_46 wm_1_2 wm_2_47 ⟨Nat.le_of_ble_eq_true rfl, Nat.le_of_ble_eq_true rfl⟩ ⟨Nat.le_of_ble_eq_true rfl, Nat.le_of_ble_eq_true rfl⟩ (cwG (i := i6) (lt15 hi6)) rfl rfl rfl hl.1 rfl (Nat.le_of_ble_eq_true rfl) dX5_copy_16 (fun o w' H locs hp hB => ?_)
  obtain ⟨x7, rfl, bx7, rfl⟩ := hp
  refine W.eq (g2 := F0 m 19 ls [.int x7]) rfl ?_
  have jn27 : ∀ (z0_27 : Int32) (H : Heap) (locs : List Loc), z0_27 = 0 ∨ z0_27 = 1 → Bd κ A s (cw κ a r q f) H locs → ∀ ls : Array Slot, lv_has ls 6 [(4, .ref (a (6 + 2 * i6))), (3, .ref (a (6 + 2 * i3))), (0, .ref (a 0)), (1, .int p0), (2, .int p1)] → W p l e (Rm 7 111 2 12) s m args below meth c H locs 2 12 Q (F0 m 27 ls [.int z0_27]) := by
    intro z0_27 H locs hz0_27 hB ls hl
    refine lv_istore (lv' := [(5, .int z0_27), (4, .ref (a (6 + 2 * i6))), (3, .ref (a (6 + 2 * i3))), (0, .ref (a 0)), (1, .int p0), (2, .int p1)]) hx hb dX5_copy_27 hl (by decide) rfl (fun ls hl => ?_)
    refine lv_aload hx hb dX5_copy_29 (lv_at hl 1 rfl) ?_
    refine lv_aload_n hx hb dX5_copy_31 rfl (lv_at hl 2 rfl) ?_
    refine call_V (n := 1) (As := [.ref (a (6 + 2 * i3))]) (rest := []) hX hB (k_X3_becomeLike κ l a r q f i6 i3 (lt15 hi6) (lt15 hi3)) ⟨rfl, by decide, by decide, by decide +kernel⟩ wm_3_74 wm_1_205 wm_1_206 wm_1_2 wm_1_207 ⟨Nat.le_of_ble_eq_true rfl, Nat.le_of_ble_eq_true rfl⟩ ⟨Nat.le_of_ble_eq_true rfl, Nat.le_of_ble_eq_true rfl⟩ (cwG (i := i6) (lt15 hi6)) rfl rfl rfl hl.1 rfl (Nat.le_of_ble_eq_true rfl) dX5_copy_32 (fun o w' H locs hp hB => ?_)
    obtain ⟨r9, q11, f13, rfl, ho10, hq12, rfl⟩ := hp
    refine W.eq (g2 := F0 m 35 ls []) rfl ?_
    refine lv_aload_n hx hb dX5_copy_35 rfl (lv_at hl 3 rfl) ?_
    refine lv_iload hx hb dX5_copy_36 (lv_at hl 0 rfl) ?_
    have jn46 : ∀ (z0_46 : Int32) (H : Heap) (locs : List Loc), z0_46 = 0 ∨ z0_46 = 1 → Bd κ A s (cw κ a r9 q11 f13) H locs → ∀ ls : Array Slot, lv_has ls 6 [(5, .int z0_27), (4, .ref (a (6 + 2 * i6))), (3, .ref (a (6 + 2 * i3))), (0, .ref (a 0)), (1, .int p0), (2, .int p1)] → W p l e (Rm 7 111 2 12) s m args below meth c H locs 2 12 Q (F0 m 46 ls [.int z0_46, .ref (a 0)]) := by
      intro z0_46 H locs hz0_46 hB ls hl
      refine call_V (n := 1) (As := [.int z0_46]) (rest := []) hX hB (k_X5_tellDone κ l a r9 q11 f13 z0_46) ⟨rfl, by decide, by decide, by decide +kernel⟩ wm_3_24 wm_3_26 wp_19 wm_1_1 wm_3_27 ⟨Nat.le_of_ble_eq_true rfl, Nat.le_of_ble_eq_true rfl⟩ ⟨Nat.le_of_ble_eq_true rfl, Nat.le_of_ble_eq_true rfl⟩ cw0 rfl rfl rfl hl.1 rfl (Nat.le_of_ble_eq_true rfl) dX5_copy_46 (fun o w' H locs hp hB => ?_)
      obtain ⟨x15, q16, f18, rfl, hq17, rfl⟩ := hp
      refine W.eq (g2 := F0 m 49 ls [.int x15]) rfl ?_
      rw [← hQ]
      exact vx_ret ( end_i hX hB hA3 rfl rfl ⟨x15, r9, q16, f18, rfl, (fun h => ho10 ((fun h => h) h)), (hq17.trans (hq12.trans rfl)), rfl⟩ (Nat.le_of_ble_eq_true rfl) (Nat.le_of_ble_eq_true rfl) dX5_copy_49)
    refine lv_if_eq (tgt := 45) hx hb dX5_copy_38 (by decide) (fun c19 => ?_) (fun c19 => ?_)
    · refine lv_iconst (v := 0) hx hb dX5_copy_45 (by decide) ?_
      exact jn46 0 _ _ (Or.inl rfl) hB _ hl
    · refine lv_iconst (v := 1) hx hb dX5_copy_41 (by decide) ?_
      refine lv_goto (tgt := 46) hx hb dX5_copy_42 (by decide) ?_
      exact jn46 1 _ _ (Or.inr rfl) hB _ hl
  refine lv_if_ne (tgt := 26) hx hb dX5_copy_19 (by decide) (fun c20 => ?_) (fun c20 => ?_)
  · refine lv_iconst (v := 0) hx hb dX5_copy_26 (by decide) ?_
    exact jn27 0 _ _ (Or.inl rfl) hB _ hl
  · refine lv_iconst (v := 1) hx hb dX5_copy_22 (by decide) ?_
    refine lv_goto (tgt := 27) hx hb dX5_copy_23 (by decide) ?_
    exact jn27 1 _ _ (Or.inr rfl) hB _ hl
set_option maxHeartbeats 4000000 in
set_option maxRecDepth 100000 in
theorem k_X5_swap (κ : Kt) (l : Launch) (hst : l.stackTraces = false) (a : Nat → Nat) (r q : Nat → Int32) (f : Nat → Nat → Int64) (p0 : Int32) (p1 : Int32)  : CX κ l yX5_swap cX5_swap 6 (some .int) 7 111 2 12 [.ref (a 0), .int p0, .int p1] (cw κ a r q f) (fun o w' => ∃ x : Int32, ∃ (r' q' : Nat → Int32) (f' : Nat → Nat → Int64), o = some (.int x) ∧ (okr r → okr r') ∧ q' 4 = q 4 ∧ w' = cw κ a r' q' f') (fun E w' => E ∈ (["java/lang/IndexOutOfBoundsException"] : List String) ∧ ∃ (r' q' : Nat → Int32) (f' : Nat → Nat → Int64), (okr r → okr r') ∧ q' 4 = q 4 ∧ w' = cw κ a r' q' f') := by
  refine CX_begin (by decide) (Nat.le_of_ble_eq_true rfl) ?_
  intro p e s m args below meth c A Q hX hne hA3 hQ hB ls hl
  have hx := hX.1.1
  have hb := hX.1.2.1
  have hl : lv_has ls 6 [(0, .ref (a 0)), (1, .int p0), (2, .int p1)] := hl
  refine lv_aload_n hx hb dX5_swap_0 rfl (lv_at hl 0 rfl) ?_
  refine lv_iload_n hx hb dX5_swap_1 rfl (lv_at hl 1 rfl) ?_
  refine CX_after2 hX hB (run_XV (n := 1) (As := [.int p0]) (rest := []) hX hB (k_X5_needTable κ l hst a r q f p0) ⟨rfl, by decide, by decide, by decide +kernel⟩ wm_2_165 wm_2_167 wp_17 wm_1_1 wm_2_168 ⟨Nat.le_of_ble_eq_true rfl, Nat.le_of_ble_eq_true rfl⟩ ⟨Nat.le_of_ble_eq_true rfl, Nat.le_of_ble_eq_true rfl⟩ cw0 rfl rfl rfl hl.1 rfl (Nat.le_of_ble_eq_true rfl) dX5_swap_2) (fun E ce q9 w' H locs hp hB hce hcv hcl => ?_) (fun o w' H locs hp hB => ?_)
  · obtain ⟨hE1, rfl⟩ := hp
    rw [← hQ]
    exact thrown_on hX hne hB hA3 hce hcv hcl ⟨((by decide : ∀ x ∈ (["java/lang/IndexOutOfBoundsException"] : List String), x ∈ (["java/lang/IndexOutOfBoundsException"] : List String)) _ hE1), r, q, f, (fun h => h), rfl, rfl⟩ (Nat.le_of_ble_eq_true rfl) (Nat.le_of_ble_eq_true rfl)
  obtain ⟨i3, hi3, rfl, rfl⟩ := hp
  refine W.eq (g2 := F0 m 5 ls [.ref (a (6 + 2 * i3))]) rfl ?_
  refine lv_astore_n (lv' := [(3, .ref (a (6 + 2 * i3))), (0, .ref (a 0)), (1, .int p0), (2, .int p1)]) hx hb dX5_swap_5 rfl hl (by decide) rfl (fun ls hl => ?_)
  refine lv_aload_n hx hb dX5_swap_6 rfl (lv_at hl 1 rfl) ?_
  refine lv_iload_n hx hb dX5_swap_7 rfl (lv_at hl 3 rfl) ?_
  refine CX_after2 hX hB (run_XV (n := 1) (As := [.int p1]) (rest := []) hX hB (k_X5_needTable κ l hst a r q f p1) ⟨rfl, by decide, by decide, by decide +kernel⟩ wm_2_165 wm_2_167 wp_17 wm_1_1 wm_2_168 ⟨Nat.le_of_ble_eq_true rfl, Nat.le_of_ble_eq_true rfl⟩ ⟨Nat.le_of_ble_eq_true rfl, Nat.le_of_ble_eq_true rfl⟩ cw0 rfl rfl rfl hl.1 rfl (Nat.le_of_ble_eq_true rfl) dX5_swap_8) (fun E ce q9 w' H locs hp hB hce hcv hcl => ?_) (fun o w' H locs hp hB => ?_)
  · obtain ⟨hE4, rfl⟩ := hp
    rw [← hQ]
    exact thrown_on hX hne hB hA3 hce hcv hcl ⟨((by decide : ∀ x ∈ (["java/lang/IndexOutOfBoundsException"] : List String), x ∈ (["java/lang/IndexOutOfBoundsException"] : List String)) _ hE4), r, q, f, (fun h => h), rfl, rfl⟩ (Nat.le_of_ble_eq_true rfl) (Nat.le_of_ble_eq_true rfl)
  obtain ⟨i6, hi6, rfl, rfl⟩ := hp
  refine W.eq (g2 := F0 m 11 ls [.ref (a (6 + 2 * i6))]) rfl ?_
  refine lv_astore (lv' := [(4, .ref (a (6 + 2 * i6))), (3, .ref (a (6 + 2 * i3))), (0, .ref (a 0)), (1, .int p0), (2, .int p1)]) hx hb dX5_swap_11 hl (by decide) rfl (fun ls hl => ?_)
  refine lv_aload_n hx hb dX5_swap_13 rfl (lv_at hl 1 rfl) ?_
  refine lv_aload hx hb dX5_swap_14 (lv_at hl 0 rfl) ?_
  refine call_V (n := 1) (As := [.ref (a (6 + 2 * i6))]) (rest := []) hX hB (k_X3_isLike κ l a r q f i3 i6 (lt15 hi3) (lt15 hi6)) ⟨rfl, by decide, by decide, by decide +kernel⟩ wm_2_44 wm_2_45 wm_2_46 wm_1_2 wm_2_47 ⟨Nat.le_of_ble_eq_true rfl, Nat.le_of_ble_eq_true rfl⟩ ⟨Nat.le_of_ble_eq_true rfl, Nat.le_of_ble_eq_true rfl⟩ (cwG (i := i3) (lt15 hi3)) rfl rfl rfl hl.1 rfl (Nat.le_of_ble_eq_true rfl) dX5_swap_16 (fun o w' H locs hp hB => ?_)
  obtain ⟨x7, rfl, bx7, rfl⟩ := hp
  refine W.eq (g2 := F0 m 19 ls [.int x7]) rfl ?_
  have jn27 : ∀ (z0_27 : Int32) (H : Heap) (locs : List Loc), z0_27 = 0 ∨ z0_27 = 1 → Bd κ A s (cw κ a r q f) H locs → ∀ ls : Array Slot, lv_has ls 6 [(4, .ref (a (6 + 2 * i6))), (3, .ref (a (6 + 2 * i3))), (0, .ref (a 0)), (1, .int p0), (2, .int p1)] → W p l e (Rm 7 111 2 12) s m args below meth c H locs 2 12 Q (F0 m 27 ls [.int z0_27]) := by
    intro z0_27 H locs hz0_27 hB ls hl
    refine lv_istore (lv' := [(5, .int z0_27), (4, .ref (a (6 + 2 * i6))), (3, .ref (a (6 + 2 * i3))), (0, .ref (a 0)), (1, .int p0), (2, .int p1)]) hx hb dX5_swap_27 hl (by decide) rfl (fun ls hl => ?_)
    refine lv_aload_n hx hb dX5_swap_29 rfl (lv_at hl 3 rfl) ?_
    refine gf hX hB cw0 rfl in5 1 (by decide) wm_1_138 rfl rfl dX5_swap_30 ?_
    refine lv_aload_n hx hb dX5_swap_33 rfl (lv_at hl 2 rfl) ?_
    refine call_V (n := 1) (As := [.ref (a (6 + 2 * i3))]) (rest := []) hX hB (k_X3_becomeLike κ l a r q f 4 i3 (by decide) (lt15 hi3)) ⟨rfl, by decide, by decide, by decide +kernel⟩ wm_3_74 wm_1_205 wm_1_206 wm_1_2 wm_1_207 ⟨Nat.le_of_ble_eq_true rfl, Nat.le_of_ble_eq_true rfl⟩ ⟨Nat.le_of_ble_eq_true rfl, Nat.le_of_ble_eq_true rfl⟩ (cwG (i := 4) (by decide)) rfl rfl rfl hl.1 rfl (Nat.le_of_ble_eq_true rfl) dX5_swap_34 (fun o w' H locs hp hB => ?_)
    obtain ⟨r9, q11, f13, rfl, ho10, hq12, rfl⟩ := hp
    refine W.eq (g2 := F0 m 37 ls []) rfl ?_
    refine lv_aload_n hx hb dX5_swap_37 rfl (lv_at hl 2 rfl) ?_
    refine lv_aload hx hb dX5_swap_38 (lv_at hl 1 rfl) ?_
    refine call_V (n := 1) (As := [.ref (a (6 + 2 * i6))]) (rest := []) hX hB (k_X3_becomeLike κ l a r9 q11 f13 i3 i6 (lt15 hi3) (lt15 hi6)) ⟨rfl, by decide, by decide, by decide +kernel⟩ wm_3_74 wm_1_205 wm_1_206 wm_1_2 wm_1_207 ⟨Nat.le_of_ble_eq_true rfl, Nat.le_of_ble_eq_true rfl⟩ ⟨Nat.le_of_ble_eq_true rfl, Nat.le_of_ble_eq_true rfl⟩ (cwG (i := i3) (lt15 hi3)) rfl rfl rfl hl.1 rfl (Nat.le_of_ble_eq_true rfl) dX5_swap_40 (fun o w' H locs hp hB => ?_)
    obtain ⟨r14, q16, f18, rfl, ho15, hq17, rfl⟩ := hp
    refine W.eq (g2 := F0 m 43 ls []) rfl ?_
    refine lv_aload hx hb dX5_swap_43 (lv_at hl 1 rfl) ?_
    refine lv_aload_n hx hb dX5_swap_45 rfl (lv_at hl 3 rfl) ?_
    refine gf hX hB cw0 rfl in5 1 (by decide) wm_1_138 rfl rfl dX5_swap_46 ?_
    refine call_V (n := 1) (As := [.ref (a 14)]) (rest := []) hX hB (k_X3_becomeLike κ l a r14 q16 f18 i6 4 (lt15 hi6) (by decide)) ⟨rfl, by decide, by decide, by decide +kernel⟩ wm_3_74 wm_1_205 wm_1_206 wm_1_2 wm_1_207 ⟨Nat.le_of_ble_eq_true rfl, Nat.le_of_ble_eq_true rfl⟩ ⟨Nat.le_of_ble_eq_true rfl, Nat.le_of_ble_eq_true rfl⟩ (cwG (i := i6) (lt15 hi6)) rfl rfl rfl hl.1 rfl (Nat.le_of_ble_eq_true rfl) dX5_swap_49 (fun o w' H locs hp hB => ?_)
    obtain ⟨r19, q21, f23, rfl, ho20, hq22, rfl⟩ := hp
    refine W.eq (g2 := F0 m 52 ls []) rfl ?_
    refine lv_aload_n hx hb dX5_swap_52 rfl (lv_at hl 3 rfl) ?_
    refine lv_iload hx hb dX5_swap_53 (lv_at hl 0 rfl) ?_
    have jn63 : ∀ (z0_63 : Int32) (H : Heap) (locs : List Loc), z0_63 = 0 ∨ z0_63 = 1 → Bd κ A s (cw κ a r19 q21 f23) H locs → ∀ ls : Array Slot, lv_has ls 6 [(5, .int z0_27), (4, .ref (a (6 + 2 * i6))), (3, .ref (a (6 + 2 * i3))), (0, .ref (a 0)), (1, .int p0), (2, .int p1)] → W p l e (Rm 7 111 2 12) s m args below meth c H locs 2 12 Q (F0 m 63 ls [.int z0_63, .ref (a 0)]) := by
      intro z0_63 H locs hz0_63 hB ls hl
      refine call_V (n := 1) (As := [.int z0_63]) (rest := []) hX hB (k_X5_tellDone κ l a r19 q21 f23 z0_63) ⟨rfl, by decide, by decide, by decide +kernel⟩ wm_3_24 wm_3_26 wp_19 wm_1_1 wm_3_27 ⟨Nat.le_of_ble_eq_true rfl, Nat.le_of_ble_eq_true rfl⟩ ⟨Nat.le_of_ble_eq_true rfl, Nat.le_of_ble_eq_true rfl⟩ cw0 rfl rfl rfl hl.1 rfl (Nat.le_of_ble_eq_true rfl) dX5_swap_63 (fun o w' H locs hp hB => ?_)
      obtain ⟨x25, q26, f28, rfl, hq27, rfl⟩ := hp
      refine W.eq (g2 := F0 m 66 ls [.int x25]) rfl ?_
      rw [← hQ]
      exact vx_ret ( end_i hX hB hA3 rfl rfl ⟨x25, r19, q26, f28, rfl, (fun h => ho20 ((fun h => ho15 ((fun h => ho10 ((fun h => h) h)) h)) h)), (hq27.trans (hq22.trans (hq17.trans (hq12.trans rfl)))), rfl⟩ (Nat.le_of_ble_eq_true rfl) (Nat.le_of_ble_eq_true rfl) dX5_swap_66)
    refine lv_if_eq (tgt := 62) hx hb dX5_swap_55 (by decide) (fun c29 => ?_) (fun c29 => ?_)
    · refine lv_iconst (v := 0) hx hb dX5_swap_62 (by decide) ?_
      exact jn63 0 _ _ (Or.inl rfl) hB _ hl
    · refine lv_iconst (v := 1) hx hb dX5_swap_58 (by decide) ?_
      refine lv_goto (tgt := 63) hx hb dX5_swap_59 (by decide) ?_
      exact jn63 1 _ _ (Or.inr rfl) hB _ hl
  refine lv_if_ne (tgt := 26) hx hb dX5_swap_19 (by decide) (fun c30 => ?_) (fun c30 => ?_)
  · refine lv_iconst (v := 0) hx hb dX5_swap_26 (by decide) ?_
    exact jn27 0 _ _ (Or.inl rfl) hB _ hl
  · refine lv_iconst (v := 1) hx hb dX5_swap_22 (by decide) ?_
    refine lv_goto (tgt := 27) hx hb dX5_swap_23 (by decide) ?_
    exact jn27 1 _ _ (Or.inr rfl) hB _ hl
set_option maxHeartbeats 4000000 in
set_option maxRecDepth 100000 in
theorem k_X5_flip (κ : Kt) (l : Launch) (hst : l.stackTraces = false) (a : Nat → Nat) (r q : Nat → Int32) (f : Nat → Nat → Int64) (p0 : Int32)  : CX κ l yX5_flip cX5_flip 5 (some .int) 7 111 1 6 [.ref (a 0), .int p0] (cw κ a r q f) (fun o w' => ∃ x : Int32, ∃ (r' q' : Nat → Int32) (f' : Nat → Nat → Int64), o = some (.int x) ∧ (okr r → okr r') ∧ q' 4 = q 4 ∧ w' = cw κ a r' q' f') (fun E w' => E ∈ (["java/lang/IndexOutOfBoundsException"] : List String) ∧ ∃ (r' q' : Nat → Int32) (f' : Nat → Nat → Int64), (okr r → okr r') ∧ q' 4 = q 4 ∧ w' = cw κ a r' q' f') := by
  refine CX_begin (by decide) (Nat.le_of_ble_eq_true rfl) ?_
  intro p e s m args below meth c A Q hX hne hA3 hQ hB ls hl
  have hx := hX.1.1
  have hb := hX.1.2.1
  have hl : lv_has ls 5 [(0, .ref (a 0)), (1, .int p0)] := hl
  refine lv_aload_n hx hb dX5_flip_0 rfl (lv_at hl 0 rfl) ?_
  refine lv_iload_n hx hb dX5_flip_1 rfl (lv_at hl 1 rfl) ?_
  refine CX_after2 hX hB (run_XV (n := 1) (As := [.int p0]) (rest := []) hX hB (k_X5_needTable κ l hst a r q f p0) ⟨rfl, by decide, by decide, by decide +kernel⟩ wm_2_165 wm_2_167 wp_17 wm_1_1 wm_2_168 ⟨Nat.le_of_ble_eq_true rfl, Nat.le_of_ble_eq_true rfl⟩ ⟨Nat.le_of_ble_eq_true rfl, Nat.le_of_ble_eq_true rfl⟩ cw0 rfl rfl rfl hl.1 rfl (Nat.le_of_ble_eq_true rfl) dX5_flip_2) (fun E ce q9 w' H locs hp hB hce hcv hcl => ?_) (fun o w' H locs hp hB => ?_)
  · obtain ⟨hE1, rfl⟩ := hp
    rw [← hQ]
    exact thrown_on hX hne hB hA3 hce hcv hcl ⟨((by decide : ∀ x ∈ (["java/lang/IndexOutOfBoundsException"] : List String), x ∈ (["java/lang/IndexOutOfBoundsException"] : List String)) _ hE1), r, q, f, (fun h => h), rfl, rfl⟩ (Nat.le_of_ble_eq_true rfl) (Nat.le_of_ble_eq_true rfl)
  obtain ⟨i3, hi3, rfl, rfl⟩ := hp
  refine W.eq (g2 := F0 m 5 ls [.ref (a (6 + 2 * i3))]) rfl ?_
  refine lv_astore_n (lv' := [(2, .ref (a (6 + 2 * i3))), (0, .ref (a 0)), (1, .int p0)]) hx hb dX5_flip_5 rfl hl (by decide) rfl (fun ls hl => ?_)
  refine lv_aload_n hx hb dX5_flip_6 rfl (lv_at hl 1 rfl) ?_
  refine gf hX hB cw0 rfl in5 1 (by decide) wm_1_138 rfl rfl dX5_flip_7 ?_
  refine lv_aload_n hx hb dX5_flip_10 rfl (lv_at hl 0 rfl) ?_
  refine gfN hX hB (cwG (i := i3) (lt15 hi3)) rfl in3 2 (by decide) wn_1_57 rfl rfl dX5_flip_11 ?_
  refine lv_aload_n hx hb dX5_flip_14 rfl (lv_at hl 0 rfl) ?_
  refine gfN hX hB (cwG (i := i3) (lt15 hi3)) rfl in3 1 (by decide) wn_1_51 rfl rfl dX5_flip_15 ?_
  refine call_V (n := 2) (As := [.int (r (2 * i3 + 1)), .int (r (2 * i3))]) (rest := []) hX hB (k_X3_reshape κ l a r q f 4 (r (2 * i3 + 1)) (r (2 * i3)) (by decide)) ⟨rfl, by decide, by decide, by decide +kernel⟩ wm_3_23 wm_1_213 wm_1_214 wm_1_2 wm_1_215 ⟨Nat.le_of_ble_eq_true rfl, Nat.le_of_ble_eq_true rfl⟩ ⟨Nat.le_of_ble_eq_true rfl, Nat.le_of_ble_eq_true rfl⟩ (cwG (i := 4) (by decide)) rfl rfl rfl hl.1 rfl (Nat.le_of_ble_eq_true rfl) dX5_flip_18 (fun o w' H locs hp hB => ?_)
  obtain ⟨r4, q6, f8, rfl, ho5, hq7, rfl⟩ := hp
  refine W.eq (g2 := F0 m 21 ls []) rfl ?_
  refine lv_iconst (v := 0) hx hb dX5_flip_21 (by decide) ?_
  refine lv_istore_n (lv' := [(3, .int 0), (2, .ref (a (6 + 2 * i3))), (0, .ref (a 0)), (1, .int p0)]) hx hb dX5_flip_22 rfl hl (by decide) rfl (fun ls hl => ?_)
  have lp23 : ∀ (nn : Nat) (y3_23 : Int32) (f_23 : Nat → Nat → Int64) (H : Heap) (locs : List Loc), gap (r4 (2 * i3)) y3_23 < nn → Bd κ A s (cw κ a r4 q6 f_23) H locs → ∀ ls : Array Slot, lv_has ls 5 [(3, .int y3_23), (2, .ref (a (6 + 2 * i3))), (0, .ref (a 0)), (1, .int p0)] → W p l e (Rm 7 111 1 6) s m args below meth c H locs 1 6 Q (F0 m 23 ls []) := by
    intro nn
    induction nn with
    | zero => intro y3_23 f_23 H locs hμ; exact absurd hμ (Nat.not_lt_zero _)
    | succ nn ih23 =>
      intro y3_23 f_23 H locs hμ23 hB ls hl
      refine lv_iload_n hx hb dX5_flip_23 rfl (lv_at hl 0 rfl) ?_
      refine lv_aload_n hx hb dX5_flip_24 rfl (lv_at hl 1 rfl) ?_
      refine gfN hX hB (cwG (i := i3) (lt15 hi3)) rfl in3 1 (by decide) wn_1_51 rfl rfl dX5_flip_25 ?_
      refine lv_icmp_ge (tgt := 72) hx hb dX5_flip_28 (by decide) (fun c77 => ?_) (fun c77 => ?_)
      · refine lv_aload_n hx hb dX5_flip_72 rfl (lv_at hl 1 rfl) ?_
        refine lv_aload_n hx hb dX5_flip_73 rfl (lv_at hl 2 rfl) ?_
        refine gf hX hB cw0 rfl in5 1 (by decide) wm_1_138 rfl rfl dX5_flip_74 ?_
        refine call_V (n := 1) (As := [.ref (a 14)]) (rest := []) hX hB (k_X3_becomeLike κ l a r4 q6 f_23 i3 4 (lt15 hi3) (by decide)) ⟨rfl, by decide, by decide, by decide +kernel⟩ wm_3_74 wm_1_205 wm_1_206 wm_1_2 wm_1_207 ⟨Nat.le_of_ble_eq_true rfl, Nat.le_of_ble_eq_true rfl⟩ ⟨Nat.le_of_ble_eq_true rfl, Nat.le_of_ble_eq_true rfl⟩ (cwG (i := i3) (lt15 hi3)) rfl rfl rfl hl.1 rfl (Nat.le_of_ble_eq_true rfl) dX5_flip_77 (fun o w' H locs hp hB => ?_)
        obtain ⟨r78, q80, f82, rfl, ho79, hq81, rfl⟩ := hp
        refine W.eq (g2 := F0 m 80 ls []) rfl ?_
        refine lv_aload_n hx hb dX5_flip_80 rfl (lv_at hl 2 rfl) ?_
        refine lv_aload_n hx hb dX5_flip_81 rfl (lv_at hl 1 rfl) ?_
        refine gfN hX hB (cwG (i := i3) (lt15 hi3)) rfl in3 1 (by decide) wn_1_51 rfl rfl dX5_flip_82 ?_
        refine call_V (n := 1) (As := [.int (r78 (2 * i3))]) (rest := []) hX hB (k_X5_tellDone κ l a r78 q80 f82 (r78 (2 * i3))) ⟨rfl, by decide, by decide, by decide +kernel⟩ wm_3_24 wm_3_26 wp_19 wm_1_1 wm_3_27 ⟨Nat.le_of_ble_eq_true rfl, Nat.le_of_ble_eq_true rfl⟩ ⟨Nat.le_of_ble_eq_true rfl, Nat.le_of_ble_eq_true rfl⟩ cw0 rfl rfl rfl hl.1 rfl (Nat.le_of_ble_eq_true rfl) dX5_flip_85 (fun o w' H locs hp hB => ?_)
        obtain ⟨x83, q84, f86, rfl, hq85, rfl⟩ := hp
        refine W.eq (g2 := F0 m 88 ls [.int x83]) rfl ?_
        rw [← hQ]
        exact vx_ret ( end_i hX hB hA3 rfl rfl ⟨x83, r78, q84, f86, rfl, (fun h => ho79 ((fun h => ho5 ((fun h => h) h)) h)), (hq85.trans (hq81.trans (hq7.trans rfl))), rfl⟩ (Nat.le_of_ble_eq_true rfl) (Nat.le_of_ble_eq_true rfl) dX5_flip_88)
      · refine lv_iconst (v := 0) hx hb dX5_flip_31 (by decide) ?_
        refine lv_istore (lv' := [(4, .int 0), (3, .int y3_23), (2, .ref (a (6 + 2 * i3))), (0, .ref (a 0)), (1, .int p0)]) hx hb dX5_flip_32 hl (by decide) rfl (fun ls hl => ?_)
        have lp34 : ∀ (nn : Nat) (y4_34 : Int32) (f_34 : Nat → Nat → Int64) (H : Heap) (locs : List Loc), gap (r4 (2 * i3 + 1)) y4_34 < nn → Bd κ A s (cw κ a r4 q6 f_34) H locs → ∀ ls : Array Slot, lv_has ls 5 [(4, .int y4_34), (3, .int y3_23), (2, .ref (a (6 + 2 * i3))), (0, .ref (a 0)), (1, .int p0)] → W p l e (Rm 7 111 1 6) s m args below meth c H locs 1 6 Q (F0 m 34 ls []) := by
          intro nn
          induction nn with
          | zero => intro y4_34 f_34 H locs hμ; exact absurd hμ (Nat.not_lt_zero _)
          | succ nn ih34 =>
            intro y4_34 f_34 H locs hμ34 hB ls hl
            refine lv_iload hx hb dX5_flip_34 (lv_at hl 0 rfl) ?_
            refine lv_aload_n hx hb dX5_flip_36 rfl (lv_at hl 2 rfl) ?_
            refine gfN hX hB (cwG (i := i3) (lt15 hi3)) rfl in3 2 (by decide) wn_1_57 rfl rfl dX5_flip_37 ?_
            refine lv_icmp_ge (tgt := 66) hx hb dX5_flip_40 (by decide) (fun c93 => ?_) (fun c93 => ?_)
            · refine lv_iinc (v := y3_23 + 1) (lv' := [(3, .int (y3_23 + 1)), (4, .int y4_34), (2, .ref (a (6 + 2 * i3))), (0, .ref (a 0)), (1, .int p0)]) hx hb dX5_flip_66 hl (k := 1) rfl rfl (by decide) rfl (fun ls hl => ?_)
              refine lv_goto (tgt := 23) hx hb dX5_flip_69 (by decide) ?_
              exact ih23 (y3_23 + 1) f_34 _ _  (gap_step c77 hμ23) hB _ (lv_sub hl [0, 2, 3, 4] rfl)
            · refine lv_aload_n hx hb dX5_flip_43 rfl (lv_at hl 3 rfl) ?_
              refine gf hX hB cw0 rfl in5 1 (by decide) wm_1_138 rfl rfl dX5_flip_44 ?_
              refine lv_iload hx hb dX5_flip_47 (lv_at hl 0 rfl) ?_
              refine lv_iload_n hx hb dX5_flip_49 rfl (lv_at hl 1 rfl) ?_
              refine lv_aload_n hx hb dX5_flip_50 rfl (lv_at hl 2 rfl) ?_
              refine lv_iload_n hx hb dX5_flip_51 rfl (lv_at hl 1 rfl) ?_
              refine lv_iload hx hb dX5_flip_52 (lv_at hl 0 rfl) ?_
              refine call_V (n := 2) (As := [.int y3_23, .int y4_34]) (rest := [.int y3_23, .int y4_34, .ref (a 14)]) hX hB (k_X3_get κ l a r4 q6 f_34 i3 y3_23 y4_34 (lt15 hi3)) ⟨rfl, by decide, by decide, by decide +kernel⟩ wm_2_123 wm_1_187 wm_1_188 wm_1_2 wm_1_189 ⟨Nat.le_of_ble_eq_true rfl, Nat.le_of_ble_eq_true rfl⟩ ⟨Nat.le_of_ble_eq_true rfl, Nat.le_of_ble_eq_true rfl⟩ (cwG (i := i3) (lt15 hi3)) rfl rfl rfl hl.1 rfl (Nat.le_of_ble_eq_true rfl) dX5_flip_54 (fun o w' H locs hp hB => ?_)
              obtain ⟨x94, rfl, rfl⟩ := hp
              refine W.eq (g2 := F0 m 57 ls [.long x94, .int y3_23, .int y4_34, .ref (a 14)]) rfl ?_
              refine call_V (n := 3) (As := [.int y4_34, .int y3_23, .long x94]) (rest := []) hX hB (k_X3_set κ l a r4 q6 f_34 4 y4_34 y3_23 x94 (by decide)) ⟨rfl, by decide, by decide, by decide +kernel⟩ wm_3_51 wm_1_223 wm_1_224 wm_1_2 wm_1_225 ⟨Nat.le_of_ble_eq_true rfl, Nat.le_of_ble_eq_true rfl⟩ ⟨Nat.le_of_ble_eq_true rfl, Nat.le_of_ble_eq_true rfl⟩ (cwG (i := 4) (by decide)) rfl rfl rfl hl.1 rfl (Nat.le_of_ble_eq_true rfl) dX5_flip_57 (fun o w' H locs hp hB => ?_)
              obtain ⟨f95, rfl, rfl⟩ := hp
              refine W.eq (g2 := F0 m 60 ls []) rfl ?_
              refine lv_iinc (v := y4_34 + 1) (lv' := [(4, .int (y4_34 + 1)), (3, .int y3_23), (2, .ref (a (6 + 2 * i3))), (0, .ref (a 0)), (1, .int p0)]) hx hb dX5_flip_60 hl (k := 0) rfl rfl (by decide) rfl (fun ls hl => ?_)
              refine lv_goto (tgt := 34) hx hb dX5_flip_63 (by decide) ?_
              exact ih34 (y4_34 + 1) f95 _ _  (gap_step c93 hμ34) hB _ hl
        exact lp34 _ 0 f_23 _ _  (Nat.lt_succ_self _) hB _ hl
  exact lp23 _ 0 f8 _ _  (Nat.lt_succ_self _) hB _ hl
set_option maxHeartbeats 4000000 in
set_option maxRecDepth 100000 in
theorem k_X5_exchange (κ : Kt) (l : Launch) (hst : l.stackTraces = false) (a : Nat → Nat) (r q : Nat → Int32) (f : Nat → Nat → Int64) (p0 : Int32) (p1 : Int32) (p2 : Int32) (p3 : Int32)  : CX κ l yX5_exchange cX5_exchange 6 (some .int) 7 111 2 12 [.ref (a 0), .int p0, .int p1, .int p2, .int p3] (cw κ a r q f) (fun o w' => ∃ x : Int32, ∃ (r' q' : Nat → Int32) (f' : Nat → Nat → Int64), o = some (.int x) ∧ (okr r → okr r') ∧ q' 4 = q 4 ∧ w' = cw κ a r' q' f') (fun E w' => E ∈ (["java/lang/IndexOutOfBoundsException"] : List String) ∧ ∃ (r' q' : Nat → Int32) (f' : Nat → Nat → Int64), (okr r → okr r') ∧ q' 4 = q 4 ∧ w' = cw κ a r' q' f') := by
  refine CX_begin (by decide) (Nat.le_of_ble_eq_true rfl) ?_
  intro p e s m args below meth c A Q hX hne hA3 hQ hB ls hl
  have hx := hX.1.1
  have hb := hX.1.2.1
  have hl : lv_has ls 6 [(0, .ref (a 0)), (1, .int p0), (2, .int p1), (3, .int p2), (4, .int p3)] := hl
  refine lv_aload_n hx hb dX5_exchange_0 rfl (lv_at hl 0 rfl) ?_
  refine lv_iload_n hx hb dX5_exchange_1 rfl (lv_at hl 1 rfl) ?_
  refine CX_after2 hX hB (run_XV (n := 1) (As := [.int p0]) (rest := []) hX hB (k_X5_needTable κ l hst a r q f p0) ⟨rfl, by decide, by decide, by decide +kernel⟩ wm_2_165 wm_2_167 wp_17 wm_1_1 wm_2_168 ⟨Nat.le_of_ble_eq_true rfl, Nat.le_of_ble_eq_true rfl⟩ ⟨Nat.le_of_ble_eq_true rfl, Nat.le_of_ble_eq_true rfl⟩ cw0 rfl rfl rfl hl.1 rfl (Nat.le_of_ble_eq_true rfl) dX5_exchange_2) (fun E ce q9 w' H locs hp hB hce hcv hcl => ?_) (fun o w' H locs hp hB => ?_)
  · obtain ⟨hE1, rfl⟩ := hp
    rw [← hQ]
    exact thrown_on hX hne hB hA3 hce hcv hcl ⟨((by decide : ∀ x ∈ (["java/lang/IndexOutOfBoundsException"] : List String), x ∈ (["java/lang/IndexOutOfBoundsException"] : List String)) _ hE1), r, q, f, (fun h => h), rfl, rfl⟩ (Nat.le_of_ble_eq_true rfl) (Nat.le_of_ble_eq_true rfl)
  obtain ⟨i3, hi3, rfl, rfl⟩ := hp
  refine W.eq (g2 := F0 m 5 ls [.ref (a (6 + 2 * i3))]) rfl ?_
  refine lv_astore (lv' := [(5, .ref (a (6 + 2 * i3))), (0, .ref (a 0)), (1, .int p0), (2, .int p1), (3, .int p2), (4, .int p3)]) hx hb dX5_exchange_5 hl (by decide) rfl (fun ls hl => ?_)
  refine lv_aload hx hb dX5_exchange_7 (lv_at hl 0 rfl) ?_
  refine lv_iload_n hx hb dX5_exchange_9 rfl (lv_at hl 3 rfl) ?_
  refine lv_iload_n hx hb dX5_exchange_10 rfl (lv_at hl 4 rfl) ?_
  refine call_V (n := 2) (As := [.int p1, .int p2]) (rest := []) hX hB (k_X3_hasLine κ l a r q f i3 p1 p2 (lt15 hi3)) ⟨rfl, by decide, by decide, by decide +kernel⟩ wm_3_43 wm_3_44 wm_3_45 wm_1_2 wm_3_46 ⟨Nat.le_of_ble_eq_true rfl, Nat.le_of_ble_eq_true rfl⟩ ⟨Nat.le_of_ble_eq_true rfl, Nat.le_of_ble_eq_true rfl⟩ (cwG (i := i3) (lt15 hi3)) rfl rfl rfl hl.1 rfl (Nat.le_of_ble_eq_true rfl) dX5_exchange_11 (fun o w' H locs hp hB => ?_)
  obtain ⟨x4, rfl, bx4, rfl⟩ := hp
  refine W.eq (g2 := F0 m 14 ls [.int x4]) rfl ?_
  have jn33 : ∀ (z0_33 : Int32) (H : Heap) (locs : List Loc), z0_33 = 0 ∨ z0_33 = 1 → Bd κ A s (cw κ a r q f) H locs → ∀ ls : Array Slot, lv_has ls 6 [(5, .ref (a (6 + 2 * i3))), (0, .ref (a 0)), (1, .int p0), (2, .int p1), (3, .int p2), (4, .int p3)] → W p l e (Rm 7 111 2 12) s m args below meth c H locs 1 6 Q (F0 m 33 ls [.int z0_33]) := by
    intro z0_33 H locs hz0_33 hB ls hl
    refine CX_after2 hX hB (run_XS (n := 1) (As := [.int z0_33]) (rest := []) hX hB (k_X5_needIndex κ l hst a r q f z0_33) ⟨by decide, by decide, by decide +kernel⟩ wm_3_47 wm_3_48 wm_1_1 wm_3_49 ⟨Nat.le_of_ble_eq_true rfl, Nat.le_of_ble_eq_true rfl⟩ ⟨Nat.le_of_ble_eq_true rfl, Nat.le_of_ble_eq_true rfl⟩ rfl hl.1 rfl (Nat.le_of_ble_eq_true rfl) dX5_exchange_33) (fun E ce q9 w' H locs hp hB hce hcv hcl => ?_) (fun o w' H locs hp hB => ?_)
    · obtain ⟨hE8, rfl⟩ := hp
      rw [← hQ]
      exact thrown_on hX hne hB hA3 hce hcv hcl ⟨((by decide : ∀ x ∈ (["java/lang/IndexOutOfBoundsException"] : List String), x ∈ (["java/lang/IndexOutOfBoundsException"] : List String)) _ hE8), r, q, f, (fun h => h), rfl, rfl⟩ (Nat.le_of_ble_eq_true rfl) (Nat.le_of_ble_eq_true rfl)
    obtain ⟨rfl, rfl⟩ := hp
    refine W.eq (g2 := F0 m 36 ls []) rfl ?_
    refine lv_aload_n hx hb dX5_exchange_36 rfl (lv_at hl 1 rfl) ?_
    refine gf hX hB cw0 rfl in5 1 (by decide) wm_1_138 rfl rfl dX5_exchange_37 ?_
    refine lv_aload hx hb dX5_exchange_40 (lv_at hl 0 rfl) ?_
    refine call_V (n := 1) (As := [.ref (a (6 + 2 * i3))]) (rest := []) hX hB (k_X3_becomeLike κ l a r q f 4 i3 (by decide) (lt15 hi3)) ⟨rfl, by decide, by decide, by decide +kernel⟩ wm_3_74 wm_1_205 wm_1_206 wm_1_2 wm_1_207 ⟨Nat.le_of_ble_eq_true rfl, Nat.le_of_ble_eq_true rfl⟩ ⟨Nat.le_of_ble_eq_true rfl, Nat.le_of_ble_eq_true rfl⟩ (cwG (i := 4) (by decide)) rfl rfl rfl hl.1 rfl (Nat.le_of_ble_eq_true rfl) dX5_exchange_42 (fun o w' H locs hp hB => ?_)
    obtain ⟨r9, q11, f13, rfl, ho10, hq12, rfl⟩ := hp
    refine W.eq (g2 := F0 m 45 ls []) rfl ?_
    refine lv_aload_n hx hb dX5_exchange_45 rfl (lv_at hl 1 rfl) ?_
    refine gf hX hB cw0 rfl in5 1 (by decide) wm_1_138 rfl rfl dX5_exchange_46 ?_
    refine lv_iload_n hx hb dX5_exchange_49 rfl (lv_at hl 3 rfl) ?_
    refine lv_iload_n hx hb dX5_exchange_50 rfl (lv_at hl 4 rfl) ?_
    refine lv_iload hx hb dX5_exchange_51 (lv_at hl 5 rfl) ?_
    refine call_V (n := 3) (As := [.int p1, .int p2, .int p3]) (rest := []) hX hB (k_X3_exchangeLines κ l a r9 q11 f13 4 p1 p2 p3 (by decide)) ⟨rfl, by decide, by decide, by decide +kernel⟩ wm_3_96 wm_2_4 wm_2_5 wm_1_2 wm_2_6 ⟨Nat.le_of_ble_eq_true rfl, Nat.le_of_ble_eq_true rfl⟩ ⟨Nat.le_of_ble_eq_true rfl, Nat.le_of_ble_eq_true rfl⟩ (cwG (i := 4) (by decide)) rfl rfl rfl hl.1 rfl (Nat.le_of_ble_eq_true rfl) dX5_exchange_53 (fun o w' H locs hp hB => ?_)
    obtain ⟨f14, rfl, rfl⟩ := hp
    refine W.eq (g2 := F0 m 56 ls []) rfl ?_
    refine lv_aload_n hx hb dX5_exchange_56 rfl (lv_at hl 1 rfl) ?_
    refine lv_aload hx hb dX5_exchange_57 (lv_at hl 0 rfl) ?_
    refine call_V (n := 1) (As := [.ref (a (6 + 2 * i3))]) (rest := []) hX hB (k_X5_settleChange κ l a r9 q11 f14 i3 (lt15 hi3)) ⟨rfl, by decide, by decide, by decide +kernel⟩ wm_3_97 wm_3_99 wp_20 wm_1_1 wm_3_100 ⟨Nat.le_of_ble_eq_true rfl, Nat.le_of_ble_eq_true rfl⟩ ⟨Nat.le_of_ble_eq_true rfl, Nat.le_of_ble_eq_true rfl⟩ cw0 rfl rfl rfl hl.1 rfl (Nat.le_of_ble_eq_true rfl) dX5_exchange_59 (fun o w' H locs hp hB => ?_)
    obtain ⟨x15, r16, q18, f20, rfl, ho17, hq19, rfl⟩ := hp
    refine W.eq (g2 := F0 m 62 ls [.int x15]) rfl ?_
    rw [← hQ]
    exact vx_ret ( end_i hX hB hA3 rfl rfl ⟨x15, r16, q18, f20, rfl, (fun h => ho17 ((fun h => ho10 ((fun h => h) h)) h)), (hq19.trans (hq12.trans rfl)), rfl⟩ (Nat.le_of_ble_eq_true rfl) (Nat.le_of_ble_eq_true rfl) dX5_exchange_62)
  refine lv_if_eq (tgt := 32) hx hb dX5_exchange_14 (by decide) (fun c21 => ?_) (fun c21 => ?_)
  · refine lv_iconst (v := 0) hx hb dX5_exchange_32 (by decide) ?_
    exact jn33 0 _ _ (Or.inl rfl) hB _ hl
  · refine lv_aload hx hb dX5_exchange_17 (lv_at hl 0 rfl) ?_
    refine lv_iload_n hx hb dX5_exchange_19 rfl (lv_at hl 3 rfl) ?_
    refine lv_iload hx hb dX5_exchange_20 (lv_at hl 5 rfl) ?_
    refine call_V (n := 2) (As := [.int p1, .int p3]) (rest := []) hX hB (k_X3_hasLine κ l a r q f i3 p1 p3 (lt15 hi3)) ⟨rfl, by decide, by decide, by decide +kernel⟩ wm_3_43 wm_3_44 wm_3_45 wm_1_2 wm_3_46 ⟨Nat.le_of_ble_eq_true rfl, Nat.le_of_ble_eq_true rfl⟩ ⟨Nat.le_of_ble_eq_true rfl, Nat.le_of_ble_eq_true rfl⟩ (cwG (i := i3) (lt15 hi3)) rfl rfl rfl hl.1 rfl (Nat.le_of_ble_eq_true rfl) dX5_exchange_22 (fun o w' H locs hp hB => ?_)
    obtain ⟨x22, rfl, bx22, rfl⟩ := hp
    refine W.eq (g2 := F0 m 25 ls [.int x22]) rfl ?_
    refine lv_if_eq (tgt := 32) hx hb dX5_exchange_25 (by decide) (fun c23 => ?_) (fun c23 => ?_)
    · refine lv_iconst (v := 0) hx hb dX5_exchange_32 (by decide) ?_
      exact jn33 0 _ _ (Or.inl rfl) hB _ hl
    · refine lv_iconst (v := 1) hx hb dX5_exchange_28 (by decide) ?_
      refine lv_goto (tgt := 33) hx hb dX5_exchange_29 (by decide) ?_
      exact jn33 1 _ _ (Or.inr rfl) hB _ hl
set_option maxHeartbeats 4000000 in
set_option maxRecDepth 100000 in
theorem k_X5_turn (κ : Kt) (l : Launch) (hst : l.stackTraces = false) (a : Nat → Nat) (r q : Nat → Int32) (f : Nat → Nat → Int64) (p0 : Int32) (p1 : Int32) (p2 : Int32)  : CX κ l yX5_turn cX5_turn 5 (some .int) 7 111 2 12 [.ref (a 0), .int p0, .int p1, .int p2] (cw κ a r q f) (fun o w' => ∃ x : Int32, ∃ (r' q' : Nat → Int32) (f' : Nat → Nat → Int64), o = some (.int x) ∧ (okr r → okr r') ∧ q' 4 = q 4 ∧ w' = cw κ a r' q' f') (fun E w' => E ∈ (["java/lang/IndexOutOfBoundsException"] : List String) ∧ ∃ (r' q' : Nat → Int32) (f' : Nat → Nat → Int64), (okr r → okr r') ∧ q' 4 = q 4 ∧ w' = cw κ a r' q' f') := by
  refine CX_begin (by decide) (Nat.le_of_ble_eq_true rfl) ?_
  intro p e s m args below meth c A Q hX hne hA3 hQ hB ls hl
  have hx := hX.1.1
  have hb := hX.1.2.1
  have hl : lv_has ls 5 [(0, .ref (a 0)), (1, .int p0), (2, .int p1), (3, .int p2)] := hl
  refine lv_aload_n hx hb dX5_turn_0 rfl (lv_at hl 0 rfl) ?_
  refine lv_iload_n hx hb dX5_turn_1 rfl (lv_at hl 1 rfl) ?_
  refine CX_after2 hX hB (run_XV (n := 1) (As := [.int p0]) (rest := []) hX hB (k_X5_needTable κ l hst a r q f p0) ⟨rfl, by decide, by decide, by decide +kernel⟩ wm_2_165 wm_2_167 wp_17 wm_1_1 wm_2_168 ⟨Nat.le_of_ble_eq_true rfl, Nat.le_of_ble_eq_true rfl⟩ ⟨Nat.le_of_ble_eq_true rfl, Nat.le_of_ble_eq_true rfl⟩ cw0 rfl rfl rfl hl.1 rfl (Nat.le_of_ble_eq_true rfl) dX5_turn_2) (fun E ce q9 w' H locs hp hB hce hcv hcl => ?_) (fun o w' H locs hp hB => ?_)
  · obtain ⟨hE1, rfl⟩ := hp
    rw [← hQ]
    exact thrown_on hX hne hB hA3 hce hcv hcl ⟨((by decide : ∀ x ∈ (["java/lang/IndexOutOfBoundsException"] : List String), x ∈ (["java/lang/IndexOutOfBoundsException"] : List String)) _ hE1), r, q, f, (fun h => h), rfl, rfl⟩ (Nat.le_of_ble_eq_true rfl) (Nat.le_of_ble_eq_true rfl)
  obtain ⟨i3, hi3, rfl, rfl⟩ := hp
  refine W.eq (g2 := F0 m 5 ls [.ref (a (6 + 2 * i3))]) rfl ?_
  refine lv_astore (lv' := [(4, .ref (a (6 + 2 * i3))), (0, .ref (a 0)), (1, .int p0), (2, .int p1), (3, .int p2)]) hx hb dX5_turn_5 hl (by decide) rfl (fun ls hl => ?_)
  refine lv_aload hx hb dX5_turn_7 (lv_at hl 0 rfl) ?_
  refine lv_iload_n hx hb dX5_turn_9 rfl (lv_at hl 3 rfl) ?_
  refine lv_iload_n hx hb dX5_turn_10 rfl (lv_at hl 4 rfl) ?_
  refine call_V (n := 2) (As := [.int p1, .int p2]) (rest := []) hX hB (k_X3_hasLine κ l a r q f i3 p1 p2 (lt15 hi3)) ⟨rfl, by decide, by decide, by decide +kernel⟩ wm_3_43 wm_3_44 wm_3_45 wm_1_2 wm_3_46 ⟨Nat.le_of_ble_eq_true rfl, Nat.le_of_ble_eq_true rfl⟩ ⟨Nat.le_of_ble_eq_true rfl, Nat.le_of_ble_eq_true rfl⟩ (cwG (i := i3) (lt15 hi3)) rfl rfl rfl hl.1 rfl (Nat.le_of_ble_eq_true rfl) dX5_turn_11 (fun o w' H locs hp hB => ?_)
  obtain ⟨x4, rfl, bx4, rfl⟩ := hp
  refine W.eq (g2 := F0 m 14 ls [.int x4]) rfl ?_
  refine CX_after2 hX hB (run_XS (n := 1) (As := [.int x4]) (rest := []) hX hB (k_X5_needIndex κ l hst a r q f x4) ⟨by decide, by decide, by decide +kernel⟩ wm_3_47 wm_3_48 wm_1_1 wm_3_49 ⟨Nat.le_of_ble_eq_true rfl, Nat.le_of_ble_eq_true rfl⟩ ⟨Nat.le_of_ble_eq_true rfl, Nat.le_of_ble_eq_true rfl⟩ rfl hl.1 rfl (Nat.le_of_ble_eq_true rfl) dX5_turn_14) (fun E ce q9 w' H locs hp hB hce hcv hcl => ?_) (fun o w' H locs hp hB => ?_)
  · obtain ⟨hE5, rfl⟩ := hp
    rw [← hQ]
    exact thrown_on hX hne hB hA3 hce hcv hcl ⟨((by decide : ∀ x ∈ (["java/lang/IndexOutOfBoundsException"] : List String), x ∈ (["java/lang/IndexOutOfBoundsException"] : List String)) _ hE5), r, q, f, (fun h => h), rfl, rfl⟩ (Nat.le_of_ble_eq_true rfl) (Nat.le_of_ble_eq_true rfl)
  obtain ⟨rfl, rfl⟩ := hp
  refine W.eq (g2 := F0 m 17 ls []) rfl ?_
  refine lv_aload_n hx hb dX5_turn_17 rfl (lv_at hl 1 rfl) ?_
  refine gf hX hB cw0 rfl in5 1 (by decide) wm_1_138 rfl rfl dX5_turn_18 ?_
  refine lv_aload hx hb dX5_turn_21 (lv_at hl 0 rfl) ?_
  refine call_V (n := 1) (As := [.ref (a (6 + 2 * i3))]) (rest := []) hX hB (k_X3_becomeLike κ l a r q f 4 i3 (by decide) (lt15 hi3)) ⟨rfl, by decide, by decide, by decide +kernel⟩ wm_3_74 wm_1_205 wm_1_206 wm_1_2 wm_1_207 ⟨Nat.le_of_ble_eq_true rfl, Nat.le_of_ble_eq_true rfl⟩ ⟨Nat.le_of_ble_eq_true rfl, Nat.le_of_ble_eq_true rfl⟩ (cwG (i := 4) (by decide)) rfl rfl rfl hl.1 rfl (Nat.le_of_ble_eq_true rfl) dX5_turn_23 (fun o w' H locs hp hB => ?_)
  obtain ⟨r6, q8, f10, rfl, ho7, hq9, rfl⟩ := hp
  refine W.eq (g2 := F0 m 26 ls []) rfl ?_
  refine lv_aload_n hx hb dX5_turn_26 rfl (lv_at hl 1 rfl) ?_
  refine gf hX hB cw0 rfl in5 1 (by decide) wm_1_138 rfl rfl dX5_turn_27 ?_
  refine lv_iload_n hx hb dX5_turn_30 rfl (lv_at hl 3 rfl) ?_
  refine lv_iload_n hx hb dX5_turn_31 rfl (lv_at hl 4 rfl) ?_
  refine call_V (n := 2) (As := [.int p1, .int p2]) (rest := []) hX hB (k_X3_turnLine κ l a r6 q8 f10 4 p1 p2 (by decide)) ⟨rfl, by decide, by decide, by decide +kernel⟩ wm_3_115 wm_2_9 wm_2_10 wm_1_2 wm_2_11 ⟨Nat.le_of_ble_eq_true rfl, Nat.le_of_ble_eq_true rfl⟩ ⟨Nat.le_of_ble_eq_true rfl, Nat.le_of_ble_eq_true rfl⟩ (cwG (i := 4) (by decide)) rfl rfl rfl hl.1 rfl (Nat.le_of_ble_eq_true rfl) dX5_turn_32 (fun o w' H locs hp hB => ?_)
  obtain ⟨f11, rfl, rfl⟩ := hp
  refine W.eq (g2 := F0 m 35 ls []) rfl ?_
  refine lv_aload_n hx hb dX5_turn_35 rfl (lv_at hl 1 rfl) ?_
  refine lv_aload hx hb dX5_turn_36 (lv_at hl 0 rfl) ?_
  refine call_V (n := 1) (As := [.ref (a (6 + 2 * i3))]) (rest := []) hX hB (k_X5_settleChange κ l a r6 q8 f11 i3 (lt15 hi3)) ⟨rfl, by decide, by decide, by decide +kernel⟩ wm_3_97 wm_3_99 wp_20 wm_1_1 wm_3_100 ⟨Nat.le_of_ble_eq_true rfl, Nat.le_of_ble_eq_true rfl⟩ ⟨Nat.le_of_ble_eq_true rfl, Nat.le_of_ble_eq_true rfl⟩ cw0 rfl rfl rfl hl.1 rfl (Nat.le_of_ble_eq_true rfl) dX5_turn_38 (fun o w' H locs hp hB => ?_)
  obtain ⟨x12, r13, q15, f17, rfl, ho14, hq16, rfl⟩ := hp
  refine W.eq (g2 := F0 m 41 ls [.int x12]) rfl ?_
  rw [← hQ]
  exact vx_ret ( end_i hX hB hA3 rfl rfl ⟨x12, r13, q15, f17, rfl, (fun h => ho14 ((fun h => ho7 ((fun h => h) h)) h)), (hq16.trans (hq9.trans rfl)), rfl⟩ (Nat.le_of_ble_eq_true rfl) (Nat.le_of_ble_eq_true rfl) dX5_turn_41)
set_option maxHeartbeats 4000000 in
set_option maxRecDepth 100000 in
theorem k_X5_add (κ : Kt) (l : Launch) (hst : l.stackTraces = false) (a : Nat → Nat) (r q : Nat → Int32) (f : Nat → Nat → Int64) (p0 : Int32) (p1 : Int32) (p2 : Int32) (p3 : Int32) (p4 : Int32)  : CX κ l yX5_add cX5_add 7 (some .int) 7 111 3 18 [.ref (a 0), .int p0, .int p1, .int p2, .int p3, .int p4] (cw κ a r q f) (fun o w' => ∃ x : Int32, ∃ (r' q' : Nat → Int32) (f' : Nat → Nat → Int64), o = some (.int x) ∧ (okr r → okr r') ∧ q' 4 = q 4 ∧ w' = cw κ a r' q' f') (fun E w' => E ∈ (["java/lang/IndexOutOfBoundsException", "java/lang/IllegalArgumentException"] : List String) ∧ ∃ (r' q' : Nat → Int32) (f' : Nat → Nat → Int64), (okr r → okr r') ∧ q' 4 = q 4 ∧ w' = cw κ a r' q' f') := by
  refine CX_begin (by decide) (Nat.le_of_ble_eq_true rfl) ?_
  intro p e s m args below meth c A Q hX hne hA3 hQ hB ls hl
  have hx := hX.1.1
  have hb := hX.1.2.1
  have hl : lv_has ls 7 [(0, .ref (a 0)), (1, .int p0), (2, .int p1), (3, .int p2), (4, .int p3), (5, .int p4)] := hl
  refine lv_aload_n hx hb dX5_add_0 rfl (lv_at hl 0 rfl) ?_
  refine lv_iload_n hx hb dX5_add_1 rfl (lv_at hl 1 rfl) ?_
  refine CX_after2 hX hB (run_XV (n := 1) (As := [.int p0]) (rest := []) hX hB (k_X5_needTable κ l hst a r q f p0) ⟨rfl, by decide, by decide, by decide +kernel⟩ wm_2_165 wm_2_167 wp_17 wm_1_1 wm_2_168 ⟨Nat.le_of_ble_eq_true rfl, Nat.le_of_ble_eq_true rfl⟩ ⟨Nat.le_of_ble_eq_true rfl, Nat.le_of_ble_eq_true rfl⟩ cw0 rfl rfl rfl hl.1 rfl (Nat.le_of_ble_eq_true rfl) dX5_add_2) (fun E ce q9 w' H locs hp hB hce hcv hcl => ?_) (fun o w' H locs hp hB => ?_)
  · obtain ⟨hE1, rfl⟩ := hp
    rw [← hQ]
    exact thrown_on hX hne hB hA3 hce hcv hcl ⟨((by decide : ∀ x ∈ (["java/lang/IndexOutOfBoundsException"] : List String), x ∈ (["java/lang/IndexOutOfBoundsException", "java/lang/IllegalArgumentException"] : List String)) _ hE1), r, q, f, (fun h => h), rfl, rfl⟩ (Nat.le_of_ble_eq_true rfl) (Nat.le_of_ble_eq_true rfl)
  obtain ⟨i3, hi3, rfl, rfl⟩ := hp
  refine W.eq (g2 := F0 m 5 ls [.ref (a (6 + 2 * i3))]) rfl ?_
  refine lv_astore (lv' := [(6, .ref (a (6 + 2 * i3))), (0, .ref (a 0)), (1, .int p0), (2, .int p1), (3, .int p2), (4, .int p3), (5, .int p4)]) hx hb dX5_add_5 hl (by decide) rfl (fun ls hl => ?_)
  refine lv_aload hx hb dX5_add_7 (lv_at hl 0 rfl) ?_
  refine lv_iload_n hx hb dX5_add_9 rfl (lv_at hl 3 rfl) ?_
  refine lv_iload_n hx hb dX5_add_10 rfl (lv_at hl 4 rfl) ?_
  refine call_V (n := 2) (As := [.int p1, .int p2]) (rest := []) hX hB (k_X3_hasLine κ l a r q f i3 p1 p2 (lt15 hi3)) ⟨rfl, by decide, by decide, by decide +kernel⟩ wm_3_43 wm_3_44 wm_3_45 wm_1_2 wm_3_46 ⟨Nat.le_of_ble_eq_true rfl, Nat.le_of_ble_eq_true rfl⟩ ⟨Nat.le_of_ble_eq_true rfl, Nat.le_of_ble_eq_true rfl⟩ (cwG (i := i3) (lt15 hi3)) rfl rfl rfl hl.1 rfl (Nat.le_of_ble_eq_true rfl) dX5_add_11 (fun o w' H locs hp hB => ?_)
  obtain ⟨x4, rfl, bx4, rfl⟩ := hp
  refine W.eq (g2 := F0 m 14 ls [.int x4]) rfl ?_
  have jn33 : ∀ (z0_33 : Int32) (H : Heap) (locs : List Loc), z0_33 = 0 ∨ z0_33 = 1 → Bd κ A s (cw κ a r q f) H locs → ∀ ls : Array Slot, lv_has ls 7 [(6, .ref (a (6 + 2 * i3))), (0, .ref (a 0)), (1, .int p0), (2, .int p1), (3, .int p2), (4, .int p3), (5, .int p4)] → W p l e (Rm 7 111 3 18) s m args below meth c H locs 1 6 Q (F0 m 33 ls [.int z0_33]) := by
    intro z0_33 H locs hz0_33 hB ls hl
    refine CX_after2 hX hB (run_XS (n := 1) (As := [.int z0_33]) (rest := []) hX hB (k_X5_needIndex κ l hst a r q f z0_33) ⟨by decide, by decide, by decide +kernel⟩ wm_3_47 wm_3_48 wm_1_1 wm_3_49 ⟨Nat.le_of_ble_eq_true rfl, Nat.le_of_ble_eq_true rfl⟩ ⟨Nat.le_of_ble_eq_true rfl, Nat.le_of_ble_eq_true rfl⟩ rfl hl.1 rfl (Nat.le_of_ble_eq_true rfl) dX5_add_33) (fun E ce q9 w' H locs hp hB hce hcv hcl => ?_) (fun o w' H locs hp hB => ?_)
    · obtain ⟨hE8, rfl⟩ := hp
      rw [← hQ]
      exact thrown_on hX hne hB hA3 hce hcv hcl ⟨((by decide : ∀ x ∈ (["java/lang/IndexOutOfBoundsException"] : List String), x ∈ (["java/lang/IndexOutOfBoundsException", "java/lang/IllegalArgumentException"] : List String)) _ hE8), r, q, f, (fun h => h), rfl, rfl⟩ (Nat.le_of_ble_eq_true rfl) (Nat.le_of_ble_eq_true rfl)
    obtain ⟨rfl, rfl⟩ := hp
    refine W.eq (g2 := F0 m 36 ls []) rfl ?_
    refine lv_iload_n hx hb dX5_add_36 rfl (lv_at hl 4 rfl) ?_
    refine lv_iload hx hb dX5_add_37 (lv_at hl 5 rfl) ?_
    have jn61 : ∀ (z0_61 : Int32) (H : Heap) (locs : List Loc), z0_61 = 0 ∨ z0_61 = 1 → Bd κ A s (cw κ a r q f) H locs → ∀ ls : Array Slot, lv_has ls 7 [(6, .ref (a (6 + 2 * i3))), (0, .ref (a 0)), (1, .int p0), (2, .int p1), (3, .int p2), (4, .int p3), (5, .int p4)] → W p l e (Rm 7 111 3 18) s m args below meth c H locs 2 12 Q (F0 m 61 ls [.int z0_61]) := by
      intro z0_61 H locs hz0_61 hB ls hl
      refine CX_after2 hX hB (run_XS (n := 1) (As := [.int z0_61]) (rest := []) hX hB (k_X5_needArgument κ l hst a r q f z0_61) ⟨by decide, by decide, by decide +kernel⟩ wm_3_0 wm_3_1 wm_1_1 wm_3_2 ⟨Nat.le_of_ble_eq_true rfl, Nat.le_of_ble_eq_true rfl⟩ ⟨Nat.le_of_ble_eq_true rfl, Nat.le_of_ble_eq_true rfl⟩ rfl hl.1 rfl (Nat.le_of_ble_eq_true rfl) dX5_add_61) (fun E ce q9 w' H locs hp hB hce hcv hcl => ?_) (fun o w' H locs hp hB => ?_)
      · obtain ⟨hE12, rfl⟩ := hp
        rw [← hQ]
        exact thrown_on hX hne hB hA3 hce hcv hcl ⟨((by decide : ∀ x ∈ (["java/lang/IllegalArgumentException"] : List String), x ∈ (["java/lang/IndexOutOfBoundsException", "java/lang/IllegalArgumentException"] : List String)) _ hE12), r, q, f, (fun h => h), rfl, rfl⟩ (Nat.le_of_ble_eq_true rfl) (Nat.le_of_ble_eq_true rfl)
      obtain ⟨rfl, rfl⟩ := hp
      refine W.eq (g2 := F0 m 64 ls []) rfl ?_
      refine lv_aload_n hx hb dX5_add_64 rfl (lv_at hl 1 rfl) ?_
      refine gf hX hB cw0 rfl in5 1 (by decide) wm_1_138 rfl rfl dX5_add_65 ?_
      refine lv_aload hx hb dX5_add_68 (lv_at hl 0 rfl) ?_
      refine call_V (n := 1) (As := [.ref (a (6 + 2 * i3))]) (rest := []) hX hB (k_X3_becomeLike κ l a r q f 4 i3 (by decide) (lt15 hi3)) ⟨rfl, by decide, by decide, by decide +kernel⟩ wm_3_74 wm_1_205 wm_1_206 wm_1_2 wm_1_207 ⟨Nat.le_of_ble_eq_true rfl, Nat.le_of_ble_eq_true rfl⟩ ⟨Nat.le_of_ble_eq_true rfl, Nat.le_of_ble_eq_true rfl⟩ (cwG (i := 4) (by decide)) rfl rfl rfl hl.1 rfl (Nat.le_of_ble_eq_true rfl) dX5_add_70 (fun o w' H locs hp hB => ?_)
      obtain ⟨r13, q15, f17, rfl, ho14, hq16, rfl⟩ := hp
      refine W.eq (g2 := F0 m 73 ls []) rfl ?_
      refine lv_aload_n hx hb dX5_add_73 rfl (lv_at hl 1 rfl) ?_
      refine gf hX hB cw0 rfl in5 1 (by decide) wm_1_138 rfl rfl dX5_add_74 ?_
      refine lv_iload_n hx hb dX5_add_77 rfl (lv_at hl 3 rfl) ?_
      refine lv_iload_n hx hb dX5_add_78 rfl (lv_at hl 4 rfl) ?_
      refine lv_iload hx hb dX5_add_79 (lv_at hl 5 rfl) ?_
      refine lv_iload hx hb dX5_add_81 (lv_at hl 6 rfl) ?_
      refine lv_i2l hx hb dX5_add_83 rfl ?_
      refine call_V (n := 4) (As := [.int p1, .int p2, .int p3, .long ((p4).toInt64)]) (rest := []) hX hB (k_X3_addLine κ l a r13 q15 f17 4 p1 p2 p3 ((p4).toInt64) (by decide)) ⟨rfl, by decide, by decide, by decide +kernel⟩ wm_3_123 wm_2_23 wm_2_24 wm_1_2 wm_2_25 ⟨Nat.le_of_ble_eq_true rfl, Nat.le_of_ble_eq_true rfl⟩ ⟨Nat.le_of_ble_eq_true rfl, Nat.le_of_ble_eq_true rfl⟩ (cwG (i := 4) (by decide)) rfl rfl rfl hl.1 rfl (Nat.le_of_ble_eq_true rfl) dX5_add_84 (fun o w' H locs hp hB => ?_)
      obtain ⟨f18, rfl, rfl⟩ := hp
      refine W.eq (g2 := F0 m 87 ls []) rfl ?_
      refine lv_aload_n hx hb dX5_add_87 rfl (lv_at hl 1 rfl) ?_
      refine lv_aload hx hb dX5_add_88 (lv_at hl 0 rfl) ?_
      refine call_V (n := 1) (As := [.ref (a (6 + 2 * i3))]) (rest := []) hX hB (k_X5_settleChange κ l a r13 q15 f18 i3 (lt15 hi3)) ⟨rfl, by decide, by decide, by decide +kernel⟩ wm_3_97 wm_3_99 wp_20 wm_1_1 wm_3_100 ⟨Nat.le_of_ble_eq_true rfl, Nat.le_of_ble_eq_true rfl⟩ ⟨Nat.le_of_ble_eq_true rfl, Nat.le_of_ble_eq_true rfl⟩ cw0 rfl rfl rfl hl.1 rfl (Nat.le_of_ble_eq_true rfl) dX5_add_90 (fun o w' H locs hp hB => ?_)
      obtain ⟨x19, r20, q22, f24, rfl, ho21, hq23, rfl⟩ := hp
      refine W.eq (g2 := F0 m 93 ls [.int x19]) rfl ?_
      rw [← hQ]
      exact vx_ret ( end_i hX hB hA3 rfl rfl ⟨x19, r20, q22, f24, rfl, (fun h => ho21 ((fun h => ho14 ((fun h => h) h)) h)), (hq23.trans (hq16.trans rfl)), rfl⟩ (Nat.le_of_ble_eq_true rfl) (Nat.le_of_ble_eq_true rfl) dX5_add_93)
    refine lv_icmp_eq (tgt := 60) hx hb dX5_add_39 (by decide) (fun c25 => ?_) (fun c25 => ?_)
    · refine lv_iconst (v := 0) hx hb dX5_add_60 (by decide) ?_
      exact jn61 0 _ _ (Or.inl rfl) hB _ hl
    · refine lv_iload hx hb dX5_add_42 (lv_at hl 6 rfl) ?_
      refine lv_bipush (v := (-20)) hx hb dX5_add_44 (by decide) ?_
      refine lv_icmp_lt (tgt := 60) hx hb dX5_add_46 (by decide) (fun c26 => ?_) (fun c26 => ?_)
      · refine lv_iconst (v := 0) hx hb dX5_add_60 (by decide) ?_
        exact jn61 0 _ _ (Or.inl rfl) hB _ hl
      · refine lv_iload hx hb dX5_add_49 (lv_at hl 6 rfl) ?_
        refine lv_bipush (v := 20) hx hb dX5_add_51 (by decide) ?_
        refine lv_icmp_gt (tgt := 60) hx hb dX5_add_53 (by decide) (fun c27 => ?_) (fun c27 => ?_)
        · refine lv_iconst (v := 0) hx hb dX5_add_60 (by decide) ?_
          exact jn61 0 _ _ (Or.inl rfl) hB _ hl
        · refine lv_iconst (v := 1) hx hb dX5_add_56 (by decide) ?_
          refine lv_goto (tgt := 61) hx hb dX5_add_57 (by decide) ?_
          exact jn61 1 _ _ (Or.inr rfl) hB _ hl
  refine lv_if_eq (tgt := 32) hx hb dX5_add_14 (by decide) (fun c28 => ?_) (fun c28 => ?_)
  · refine lv_iconst (v := 0) hx hb dX5_add_32 (by decide) ?_
    exact jn33 0 _ _ (Or.inl rfl) hB _ hl
  · refine lv_aload hx hb dX5_add_17 (lv_at hl 0 rfl) ?_
    refine lv_iload_n hx hb dX5_add_19 rfl (lv_at hl 3 rfl) ?_
    refine lv_iload hx hb dX5_add_20 (lv_at hl 5 rfl) ?_
    refine call_V (n := 2) (As := [.int p1, .int p3]) (rest := []) hX hB (k_X3_hasLine κ l a r q f i3 p1 p3 (lt15 hi3)) ⟨rfl, by decide, by decide, by decide +kernel⟩ wm_3_43 wm_3_44 wm_3_45 wm_1_2 wm_3_46 ⟨Nat.le_of_ble_eq_true rfl, Nat.le_of_ble_eq_true rfl⟩ ⟨Nat.le_of_ble_eq_true rfl, Nat.le_of_ble_eq_true rfl⟩ (cwG (i := i3) (lt15 hi3)) rfl rfl rfl hl.1 rfl (Nat.le_of_ble_eq_true rfl) dX5_add_22 (fun o w' H locs hp hB => ?_)
    obtain ⟨x29, rfl, bx29, rfl⟩ := hp
    refine W.eq (g2 := F0 m 25 ls [.int x29]) rfl ?_
    refine lv_if_eq (tgt := 32) hx hb dX5_add_25 (by decide) (fun c30 => ?_) (fun c30 => ?_)
    · refine lv_iconst (v := 0) hx hb dX5_add_32 (by decide) ?_
      exact jn33 0 _ _ (Or.inl rfl) hB _ hl
    · refine lv_iconst (v := 1) hx hb dX5_add_28 (by decide) ?_
      refine lv_goto (tgt := 33) hx hb dX5_add_29 (by decide) ?_
      exact jn33 1 _ _ (Or.inr rfl) hB _ hl
set_option maxHeartbeats 4000000 in
set_option maxRecDepth 100000 in
theorem k_X5_widen (κ : Kt) (l : Launch) (hst : l.stackTraces = false) (a : Nat → Nat) (r q : Nat → Int32) (f : Nat → Nat → Int64) (p0 : Int32) (p1 : Int32)  : CX κ l yX5_widen cX5_widen 5 (some .int) 7 111 1 6 [.ref (a 0), .int p0, .int p1] (cw κ a r q f) (fun o w' => ∃ x : Int32, ∃ (r' q' : Nat → Int32) (f' : Nat → Nat → Int64), o = some (.int x) ∧ (okr r → okr r') ∧ q' 4 = q 4 ∧ w' = cw κ a r' q' f') (fun E w' => E ∈ (["java/lang/IndexOutOfBoundsException"] : List String) ∧ ∃ (r' q' : Nat → Int32) (f' : Nat → Nat → Int64), (okr r → okr r') ∧ q' 4 = q 4 ∧ w' = cw κ a r' q' f') := by
  refine CX_begin (by decide) (Nat.le_of_ble_eq_true rfl) ?_
  intro p e s m args below meth c A Q hX hne hA3 hQ hB ls hl
  have hx := hX.1.1
  have hb := hX.1.2.1
  have hl : lv_has ls 5 [(0, .ref (a 0)), (1, .int p0), (2, .int p1)] := hl
  refine lv_aload_n hx hb dX5_widen_0 rfl (lv_at hl 0 rfl) ?_
  refine lv_iload_n hx hb dX5_widen_1 rfl (lv_at hl 1 rfl) ?_
  refine CX_after2 hX hB (run_XV (n := 1) (As := [.int p0]) (rest := []) hX hB (k_X5_needTable κ l hst a r q f p0) ⟨rfl, by decide, by decide, by decide +kernel⟩ wm_2_165 wm_2_167 wp_17 wm_1_1 wm_2_168 ⟨Nat.le_of_ble_eq_true rfl, Nat.le_of_ble_eq_true rfl⟩ ⟨Nat.le_of_ble_eq_true rfl, Nat.le_of_ble_eq_true rfl⟩ cw0 rfl rfl rfl hl.1 rfl (Nat.le_of_ble_eq_true rfl) dX5_widen_2) (fun E ce q9 w' H locs hp hB hce hcv hcl => ?_) (fun o w' H locs hp hB => ?_)
  · obtain ⟨hE1, rfl⟩ := hp
    rw [← hQ]
    exact thrown_on hX hne hB hA3 hce hcv hcl ⟨((by decide : ∀ x ∈ (["java/lang/IndexOutOfBoundsException"] : List String), x ∈ (["java/lang/IndexOutOfBoundsException"] : List String)) _ hE1), r, q, f, (fun h => h), rfl, rfl⟩ (Nat.le_of_ble_eq_true rfl) (Nat.le_of_ble_eq_true rfl)
  obtain ⟨i3, hi3, rfl, rfl⟩ := hp
  refine W.eq (g2 := F0 m 5 ls [.ref (a (6 + 2 * i3))]) rfl ?_
  refine lv_astore_n (lv' := [(3, .ref (a (6 + 2 * i3))), (0, .ref (a 0)), (1, .int p0), (2, .int p1)]) hx hb dX5_widen_5 rfl hl (by decide) rfl (fun ls hl => ?_)
  refine lv_aload_n hx hb dX5_widen_6 rfl (lv_at hl 0 rfl) ?_
  refine lv_iload_n hx hb dX5_widen_7 rfl (lv_at hl 3 rfl) ?_
  refine call_V (n := 1) (As := [.int p1]) (rest := []) hX hB (k_X3_countLines κ l a r q f i3 p1 (lt15 hi3)) ⟨rfl, by decide, by decide, by decide +kernel⟩ wm_3_131 wm_3_132 wm_3_133 wm_1_2 wm_3_134 ⟨Nat.le_of_ble_eq_true rfl, Nat.le_of_ble_eq_true rfl⟩ ⟨Nat.le_of_ble_eq_true rfl, Nat.le_of_ble_eq_true rfl⟩ (cwG (i := i3) (lt15 hi3)) rfl rfl rfl hl.1 rfl (Nat.le_of_ble_eq_true rfl) dX5_widen_8 (fun o w' H locs hp hB => ?_)
  obtain ⟨x4, rfl, rfl⟩ := hp
  refine W.eq (g2 := F0 m 11 ls [.int x4]) rfl ?_
  refine lv_istore (lv' := [(4, .int x4), (3, .ref (a (6 + 2 * i3))), (0, .ref (a 0)), (1, .int p0), (2, .int p1)]) hx hb dX5_widen_11 hl (by decide) rfl (fun ls hl => ?_)
  refine lv_iload hx hb dX5_widen_13 (lv_at hl 0 rfl) ?_
  refine lv_iconst (v := 4) hx hb dX5_widen_15 (by decide) ?_
  refine lv_icmp_lt (tgt := 24) hx hb dX5_widen_16 (by decide) (fun c5 => ?_) (fun c5 => ?_)
  · refine lv_aload_n hx hb dX5_widen_24 rfl (lv_at hl 2 rfl) ?_
    refine gf hX hB cw0 rfl in5 1 (by decide) wm_1_138 rfl rfl dX5_widen_25 ?_
    refine lv_aload_n hx hb dX5_widen_28 rfl (lv_at hl 1 rfl) ?_
    refine call_V (n := 1) (As := [.ref (a (6 + 2 * i3))]) (rest := []) hX hB (k_X3_becomeLike κ l a r q f 4 i3 (by decide) (lt15 hi3)) ⟨rfl, by decide, by decide, by decide +kernel⟩ wm_3_74 wm_1_205 wm_1_206 wm_1_2 wm_1_207 ⟨Nat.le_of_ble_eq_true rfl, Nat.le_of_ble_eq_true rfl⟩ ⟨Nat.le_of_ble_eq_true rfl, Nat.le_of_ble_eq_true rfl⟩ (cwG (i := 4) (by decide)) rfl rfl rfl hl.1 rfl (Nat.le_of_ble_eq_true rfl) dX5_widen_29 (fun o w' H locs hp hB => ?_)
    obtain ⟨r6, q8, f10, rfl, ho7, hq9, rfl⟩ := hp
    refine W.eq (g2 := F0 m 32 ls []) rfl ?_
    refine lv_aload_n hx hb dX5_widen_32 rfl (lv_at hl 1 rfl) ?_
    refine lv_iload_n hx hb dX5_widen_33 rfl (lv_at hl 4 rfl) ?_
    have jn48 : ∀ (z0_48 : Int32) (H : Heap) (locs : List Loc), Bd κ A s (cw κ a r6 q8 f10) H locs → ∀ ls : Array Slot, lv_has ls 5 [(4, .int x4), (3, .ref (a (6 + 2 * i3))), (0, .ref (a 0)), (1, .int p0), (2, .int p1)] → W p l e (Rm 7 111 1 6) s m args below meth c H locs 1 6 Q (F0 m 48 ls [.int z0_48, .ref (a (6 + 2 * i3))]) := by
      intro z0_48 H locs hB ls hl
      refine lv_iload_n hx hb dX5_widen_48 rfl (lv_at hl 4 rfl) ?_
      have jn63 : ∀ (z0_63 : Int32) (H : Heap) (locs : List Loc), Bd κ A s (cw κ a r6 q8 f10) H locs → ∀ ls : Array Slot, lv_has ls 5 [(4, .int x4), (3, .ref (a (6 + 2 * i3))), (0, .ref (a 0)), (1, .int p0), (2, .int p1)] → W p l e (Rm 7 111 1 6) s m args below meth c H locs 1 6 Q (F0 m 63 ls [.int z0_63, .int z0_48, .ref (a (6 + 2 * i3))]) := by
        intro z0_63 H locs hB ls hl
        refine call_V (n := 2) (As := [.int z0_48, .int z0_63]) (rest := []) hX hB (k_X3_reshape κ l a r6 q8 f10 i3 z0_48 z0_63 (lt15 hi3)) ⟨rfl, by decide, by decide, by decide +kernel⟩ wm_3_23 wm_1_213 wm_1_214 wm_1_2 wm_1_215 ⟨Nat.le_of_ble_eq_true rfl, Nat.le_of_ble_eq_true rfl⟩ ⟨Nat.le_of_ble_eq_true rfl, Nat.le_of_ble_eq_true rfl⟩ (cwG (i := i3) (lt15 hi3)) rfl rfl rfl hl.1 rfl (Nat.le_of_ble_eq_true rfl) dX5_widen_63 (fun o w' H locs hp hB => ?_)
        obtain ⟨r13, q15, f17, rfl, ho14, hq16, rfl⟩ := hp
        refine W.eq (g2 := F0 m 66 ls []) rfl ?_
        refine lv_aload_n hx hb dX5_widen_66 rfl (lv_at hl 1 rfl) ?_
        refine lv_aload_n hx hb dX5_widen_67 rfl (lv_at hl 2 rfl) ?_
        refine gf hX hB cw0 rfl in5 1 (by decide) wm_1_138 rfl rfl dX5_widen_68 ?_
        refine call_V (n := 1) (As := [.ref (a 14)]) (rest := []) hX hB (k_X3_takeOver κ l a r13 q15 f17 i3 4 (lt15 hi3) (by decide)) ⟨rfl, by decide, by decide, by decide +kernel⟩ wm_3_135 wm_3_136 wm_3_137 wm_1_2 wm_3_138 ⟨Nat.le_of_ble_eq_true rfl, Nat.le_of_ble_eq_true rfl⟩ ⟨Nat.le_of_ble_eq_true rfl, Nat.le_of_ble_eq_true rfl⟩ (cwG (i := i3) (lt15 hi3)) rfl rfl rfl hl.1 rfl (Nat.le_of_ble_eq_true rfl) dX5_widen_71 (fun o w' H locs hp hB => ?_)
        obtain ⟨f18, rfl, rfl⟩ := hp
        refine W.eq (g2 := F0 m 74 ls []) rfl ?_
        refine lv_aload_n hx hb dX5_widen_74 rfl (lv_at hl 2 rfl) ?_
        refine lv_iload hx hb dX5_widen_75 (lv_at hl 0 rfl) ?_
        refine lv_iconst (v := 1) hx hb dX5_widen_77 (by decide) ?_
        refine lv_iadd hx hb dX5_widen_78 ?_
        refine call_V (n := 1) (As := [.int (x4 + 1)]) (rest := []) hX hB (k_X5_tellDone κ l a r13 q15 f18 (x4 + 1)) ⟨rfl, by decide, by decide, by decide +kernel⟩ wm_3_24 wm_3_26 wp_19 wm_1_1 wm_3_27 ⟨Nat.le_of_ble_eq_true rfl, Nat.le_of_ble_eq_true rfl⟩ ⟨Nat.le_of_ble_eq_true rfl, Nat.le_of_ble_eq_true rfl⟩ cw0 rfl rfl rfl hl.1 rfl (Nat.le_of_ble_eq_true rfl) dX5_widen_79 (fun o w' H locs hp hB => ?_)
        obtain ⟨x19, q20, f22, rfl, hq21, rfl⟩ := hp
        refine W.eq (g2 := F0 m 82 ls [.int x19]) rfl ?_
        rw [← hQ]
        exact vx_ret ( end_i hX hB hA3 rfl rfl ⟨x19, r13, q20, f22, rfl, (fun h => ho14 ((fun h => ho7 ((fun h => h) h)) h)), (hq21.trans (hq16.trans (hq9.trans rfl))), rfl⟩ (Nat.le_of_ble_eq_true rfl) (Nat.le_of_ble_eq_true rfl) dX5_widen_82)
      refine lv_if_eq (tgt := 59) hx hb dX5_widen_49 (by decide) (fun c23 => ?_) (fun c23 => ?_)
      · refine lv_aload_n hx hb dX5_widen_59 rfl (lv_at hl 1 rfl) ?_
        refine gfN hX hB (cwG (i := i3) (lt15 hi3)) rfl in3 2 (by decide) wn_1_57 rfl rfl dX5_widen_60 ?_
        exact jn63 (r6 (2 * i3 + 1)) _ _  hB _ hl
      · refine lv_iload hx hb dX5_widen_52 (lv_at hl 0 rfl) ?_
        refine lv_iconst (v := 1) hx hb dX5_widen_54 (by decide) ?_
        refine lv_iadd hx hb dX5_widen_55 ?_
        refine lv_goto (tgt := 63) hx hb dX5_widen_56 (by decide) ?_
        exact jn63 (x4 + 1) _ _  hB _ hl
    refine lv_if_eq (tgt := 44) hx hb dX5_widen_34 (by decide) (fun c24 => ?_) (fun c24 => ?_)
    · refine lv_iload hx hb dX5_widen_44 (lv_at hl 0 rfl) ?_
      refine lv_iconst (v := 1) hx hb dX5_widen_46 (by decide) ?_
      refine lv_iadd hx hb dX5_widen_47 ?_
      exact jn48 (x4 + 1) _ _  hB _ hl
    · refine lv_aload_n hx hb dX5_widen_37 rfl (lv_at hl 1 rfl) ?_
      refine gfN hX hB (cwG (i := i3) (lt15 hi3)) rfl in3 1 (by decide) wn_1_51 rfl rfl dX5_widen_38 ?_
      refine lv_goto (tgt := 48) hx hb dX5_widen_41 (by decide) ?_
      exact jn48 (r6 (2 * i3)) _ _  hB _ hl
  · refine lv_aload_n hx hb dX5_widen_19 rfl (lv_at hl 2 rfl) ?_
    refine call_V (n := 0) (As := []) (rest := []) hX hB (k_X5_tellRefused κ l a r q f) ⟨rfl, by decide, by decide, by decide +kernel⟩ wm_3_103 wm_3_105 wp_21 wm_1_1 wm_3_106 ⟨Nat.le_of_ble_eq_true rfl, Nat.le_of_ble_eq_true rfl⟩ ⟨Nat.le_of_ble_eq_true rfl, Nat.le_of_ble_eq_true rfl⟩ cw0 rfl rfl rfl hl.1 rfl (Nat.le_of_ble_eq_true rfl) dX5_widen_20 (fun o w' H locs hp hB => ?_)
    obtain ⟨x25, q26, f28, rfl, hq27, rfl⟩ := hp
    refine W.eq (g2 := F0 m 23 ls [.int x25]) rfl ?_
    rw [← hQ]
    exact vx_ret ( end_i hX hB hA3 rfl rfl ⟨x25, r, q26, f28, rfl, (fun h => h), (hq27.trans rfl), rfl⟩ (Nat.le_of_ble_eq_true rfl) (Nat.le_of_ble_eq_true rfl) dX5_widen_23)
set_option maxHeartbeats 4000000 in
set_option maxRecDepth 100000 in
theorem k_X5_drop (κ : Kt) (l : Launch) (hst : l.stackTraces = false) (a : Nat → Nat) (r q : Nat → Int32) (f : Nat → Nat → Int64) (p0 : Int32) (p1 : Int32) (p2 : Int32)  : CX κ l yX5_drop cX5_drop 7 (some .int) 7 111 2 12 [.ref (a 0), .int p0, .int p1, .int p2] (cw κ a r q f) (fun o w' => ∃ x : Int32, ∃ (r' q' : Nat → Int32) (f' : Nat → Nat → Int64), o = some (.int x) ∧ (okr r → okr r') ∧ q' 4 = q 4 ∧ w' = cw κ a r' q' f') (fun E w' => E ∈ (["java/lang/IndexOutOfBoundsException"] : List String) ∧ ∃ (r' q' : Nat → Int32) (f' : Nat → Nat → Int64), (okr r → okr r') ∧ q' 4 = q 4 ∧ w' = cw κ a r' q' f') := by
  refine CX_begin (by decide) (Nat.le_of_ble_eq_true rfl) ?_
  intro p e s m args below meth c A Q hX hne hA3 hQ hB ls hl
  have hx := hX.1.1
  have hb := hX.1.2.1
  have hl : lv_has ls 7 [(0, .ref (a 0)), (1, .int p0), (2, .int p1), (3, .int p2)] := hl
  refine lv_aload_n hx hb dX5_drop_0 rfl (lv_at hl 0 rfl) ?_
  refine lv_iload_n hx hb dX5_drop_1 rfl (lv_at hl 1 rfl) ?_
  refine CX_after2 hX hB (run_XV (n := 1) (As := [.int p0]) (rest := []) hX hB (k_X5_needTable κ l hst a r q f p0) ⟨rfl, by decide, by decide, by decide +kernel⟩ wm_2_165 wm_2_167 wp_17 wm_1_1 wm_2_168 ⟨Nat.le_of_ble_eq_true rfl, Nat.le_of_ble_eq_true rfl⟩ ⟨Nat.le_of_ble_eq_true rfl, Nat.le_of_ble_eq_true rfl⟩ cw0 rfl rfl rfl hl.1 rfl (Nat.le_of_ble_eq_true rfl) dX5_drop_2) (fun E ce q9 w' H locs hp hB hce hcv hcl => ?_) (fun o w' H locs hp hB => ?_)
  · obtain ⟨hE1, rfl⟩ := hp
    rw [← hQ]
    exact thrown_on hX hne hB hA3 hce hcv hcl ⟨((by decide : ∀ x ∈ (["java/lang/IndexOutOfBoundsException"] : List String), x ∈ (["java/lang/IndexOutOfBoundsException"] : List String)) _ hE1), r, q, f, (fun h => h), rfl, rfl⟩ (Nat.le_of_ble_eq_true rfl) (Nat.le_of_ble_eq_true rfl)
  obtain ⟨i3, hi3, rfl, rfl⟩ := hp
  refine W.eq (g2 := F0 m 5 ls [.ref (a (6 + 2 * i3))]) rfl ?_
  refine lv_astore (lv' := [(4, .ref (a (6 + 2 * i3))), (0, .ref (a 0)), (1, .int p0), (2, .int p1), (3, .int p2)]) hx hb dX5_drop_5 hl (by decide) rfl (fun ls hl => ?_)
  refine lv_aload hx hb dX5_drop_7 (lv_at hl 0 rfl) ?_
  refine lv_iload_n hx hb dX5_drop_9 rfl (lv_at hl 3 rfl) ?_
  refine lv_iload_n hx hb dX5_drop_10 rfl (lv_at hl 4 rfl) ?_
  refine call_V (n := 2) (As := [.int p1, .int p2]) (rest := []) hX hB (k_X3_hasLine κ l a r q f i3 p1 p2 (lt15 hi3)) ⟨rfl, by decide, by decide, by decide +kernel⟩ wm_3_43 wm_3_44 wm_3_45 wm_1_2 wm_3_46 ⟨Nat.le_of_ble_eq_true rfl, Nat.le_of_ble_eq_true rfl⟩ ⟨Nat.le_of_ble_eq_true rfl, Nat.le_of_ble_eq_true rfl⟩ (cwG (i := i3) (lt15 hi3)) rfl rfl rfl hl.1 rfl (Nat.le_of_ble_eq_true rfl) dX5_drop_11 (fun o w' H locs hp hB => ?_)
  obtain ⟨x4, rfl, bx4, rfl⟩ := hp
  refine W.eq (g2 := F0 m 14 ls [.int x4]) rfl ?_
  refine CX_after2 hX hB (run_XS (n := 1) (As := [.int x4]) (rest := []) hX hB (k_X5_needIndex κ l hst a r q f x4) ⟨by decide, by decide, by decide +kernel⟩ wm_3_47 wm_3_48 wm_1_1 wm_3_49 ⟨Nat.le_of_ble_eq_true rfl, Nat.le_of_ble_eq_true rfl⟩ ⟨Nat.le_of_ble_eq_true rfl, Nat.le_of_ble_eq_true rfl⟩ rfl hl.1 rfl (Nat.le_of_ble_eq_true rfl) dX5_drop_14) (fun E ce q9 w' H locs hp hB hce hcv hcl => ?_) (fun o w' H locs hp hB => ?_)
  · obtain ⟨hE5, rfl⟩ := hp
    rw [← hQ]
    exact thrown_on hX hne hB hA3 hce hcv hcl ⟨((by decide : ∀ x ∈ (["java/lang/IndexOutOfBoundsException"] : List String), x ∈ (["java/lang/IndexOutOfBoundsException"] : List String)) _ hE5), r, q, f, (fun h => h), rfl, rfl⟩ (Nat.le_of_ble_eq_true rfl) (Nat.le_of_ble_eq_true rfl)
  obtain ⟨rfl, rfl⟩ := hp
  refine W.eq (g2 := F0 m 17 ls []) rfl ?_
  refine lv_aload hx hb dX5_drop_17 (lv_at hl 0 rfl) ?_
  refine lv_iload_n hx hb dX5_drop_19 rfl (lv_at hl 3 rfl) ?_
  refine call_V (n := 1) (As := [.int p1]) (rest := []) hX hB (k_X3_countLines κ l a r q f i3 p1 (lt15 hi3)) ⟨rfl, by decide, by decide, by decide +kernel⟩ wm_3_131 wm_3_132 wm_3_133 wm_1_2 wm_3_134 ⟨Nat.le_of_ble_eq_true rfl, Nat.le_of_ble_eq_true rfl⟩ ⟨Nat.le_of_ble_eq_true rfl, Nat.le_of_ble_eq_true rfl⟩ (cwG (i := i3) (lt15 hi3)) rfl rfl rfl hl.1 rfl (Nat.le_of_ble_eq_true rfl) dX5_drop_20 (fun o w' H locs hp hB => ?_)
  obtain ⟨x6, rfl, rfl⟩ := hp
  refine W.eq (g2 := F0 m 23 ls [.int x6]) rfl ?_
  refine lv_istore (lv' := [(5, .int x6), (4, .ref (a (6 + 2 * i3))), (0, .ref (a 0)), (1, .int p0), (2, .int p1), (3, .int p2)]) hx hb dX5_drop_23 hl (by decide) rfl (fun ls hl => ?_)
  refine lv_iload hx hb dX5_drop_25 (lv_at hl 0 rfl) ?_
  refine lv_iconst (v := 1) hx hb dX5_drop_27 (by decide) ?_
  refine lv_icmp_gt (tgt := 36) hx hb dX5_drop_28 (by decide) (fun c7 => ?_) (fun c7 => ?_)
  · refine lv_aload_n hx hb dX5_drop_36 rfl (lv_at hl 2 rfl) ?_
    refine gf hX hB cw0 rfl in5 1 (by decide) wm_1_138 rfl rfl dX5_drop_37 ?_
    refine lv_aload hx hb dX5_drop_40 (lv_at hl 1 rfl) ?_
    refine call_V (n := 1) (As := [.ref (a (6 + 2 * i3))]) (rest := []) hX hB (k_X3_becomeLike κ l a r q f 4 i3 (by decide) (lt15 hi3)) ⟨rfl, by decide, by decide, by decide +kernel⟩ wm_3_74 wm_1_205 wm_1_206 wm_1_2 wm_1_207 ⟨Nat.le_of_ble_eq_true rfl, Nat.le_of_ble_eq_true rfl⟩ ⟨Nat.le_of_ble_eq_true rfl, Nat.le_of_ble_eq_true rfl⟩ (cwG (i := 4) (by decide)) rfl rfl rfl hl.1 rfl (Nat.le_of_ble_eq_true rfl) dX5_drop_42 (fun o w' H locs hp hB => ?_)
    obtain ⟨r8, q10, f12, rfl, ho9, hq11, rfl⟩ := hp
    refine W.eq (g2 := F0 m 45 ls []) rfl ?_
    refine lv_iload_n hx hb dX5_drop_45 rfl (lv_at hl 5 rfl) ?_
    refine lv_istore (lv' := [(6, .int p2), (5, .int x6), (4, .ref (a (6 + 2 * i3))), (0, .ref (a 0)), (1, .int p0), (2, .int p1), (3, .int p2)]) hx hb dX5_drop_46 hl (by decide) rfl (fun ls hl => ?_)
    have lp48 : ∀ (nn : Nat) (y6_48 : Int32) (f_48 : Nat → Nat → Int64) (H : Heap) (locs : List Loc), gap (x6 - 1) y6_48 < nn → Bd κ A s (cw κ a r8 q10 f_48) H locs → ∀ ls : Array Slot, lv_has ls 7 [(6, .int y6_48), (5, .int x6), (4, .ref (a (6 + 2 * i3))), (0, .ref (a 0)), (1, .int p0), (2, .int p1), (3, .int p2)] → W p l e (Rm 7 111 2 12) s m args below meth c H locs 2 12 Q (F0 m 48 ls []) := by
      intro nn
      induction nn with
      | zero => intro y6_48 f_48 H locs hμ; exact absurd hμ (Nat.not_lt_zero _)
      | succ nn ih48 =>
        intro y6_48 f_48 H locs hμ48 hB ls hl
        refine lv_iload hx hb dX5_drop_48 (lv_at hl 0 rfl) ?_
        refine lv_iload hx hb dX5_drop_50 (lv_at hl 1 rfl) ?_
        refine lv_iconst (v := 1) hx hb dX5_drop_52 (by decide) ?_
        refine lv_isub hx hb dX5_drop_53 ?_
        refine lv_icmp_ge (tgt := 77) hx hb dX5_drop_54 (by decide) (fun c51 => ?_) (fun c51 => ?_)
        · refine lv_aload hx hb dX5_drop_77 (lv_at hl 2 rfl) ?_
          refine lv_iload_n hx hb dX5_drop_79 rfl (lv_at hl 5 rfl) ?_
          have jn95 : ∀ (z0_95 : Int32) (H : Heap) (locs : List Loc), Bd κ A s (cw κ a r8 q10 f_48) H locs → ∀ ls : Array Slot, lv_has ls 7 [(6, .int y6_48), (5, .int x6), (4, .ref (a (6 + 2 * i3))), (0, .ref (a 0)), (1, .int p0), (2, .int p1), (3, .int p2)] → W p l e (Rm 7 111 2 12) s m args below meth c H locs 2 12 Q (F0 m 95 ls [.int z0_95, .ref (a (6 + 2 * i3))]) := by
            intro z0_95 H locs hB ls hl
            refine lv_iload_n hx hb dX5_drop_95 rfl (lv_at hl 5 rfl) ?_
            have jn111 : ∀ (z0_111 : Int32) (H : Heap) (locs : List Loc), Bd κ A s (cw κ a r8 q10 f_48) H locs → ∀ ls : Array Slot, lv_has ls 7 [(6, .int y6_48), (5, .int x6), (4, .ref (a (6 + 2 * i3))), (0, .ref (a 0)), (1, .int p0), (2, .int p1), (3, .int p2)] → W p l e (Rm 7 111 2 12) s m args below meth c H locs 2 12 Q (F0 m 111 ls [.int z0_111, .int z0_95, .ref (a (6 + 2 * i3))]) := by
              intro z0_111 H locs hB ls hl
              refine call_V (n := 2) (As := [.int z0_95, .int z0_111]) (rest := []) hX hB (k_X3_reshape κ l a r8 q10 f_48 i3 z0_95 z0_111 (lt15 hi3)) ⟨rfl, by decide, by decide, by decide +kernel⟩ wm_3_23 wm_1_213 wm_1_214 wm_1_2 wm_1_215 ⟨Nat.le_of_ble_eq_true rfl, Nat.le_of_ble_eq_true rfl⟩ ⟨Nat.le_of_ble_eq_true rfl, Nat.le_of_ble_eq_true rfl⟩ (cwG (i := i3) (lt15 hi3)) rfl rfl rfl hl.1 rfl (Nat.le_of_ble_eq_true rfl) dX5_drop_111 (fun o w' H locs hp hB => ?_)
              obtain ⟨r54, q56, f58, rfl, ho55, hq57, rfl⟩ := hp
              refine W.eq (g2 := F0 m 114 ls []) rfl ?_
              refine lv_aload hx hb dX5_drop_114 (lv_at hl 2 rfl) ?_
              refine lv_aload_n hx hb dX5_drop_116 rfl (lv_at hl 3 rfl) ?_
              refine gf hX hB cw0 rfl in5 1 (by decide) wm_1_138 rfl rfl dX5_drop_117 ?_
              refine call_V (n := 1) (As := [.ref (a 14)]) (rest := []) hX hB (k_X3_takeOver κ l a r54 q56 f58 i3 4 (lt15 hi3) (by decide)) ⟨rfl, by decide, by decide, by decide +kernel⟩ wm_3_135 wm_3_136 wm_3_137 wm_1_2 wm_3_138 ⟨Nat.le_of_ble_eq_true rfl, Nat.le_of_ble_eq_true rfl⟩ ⟨Nat.le_of_ble_eq_true rfl, Nat.le_of_ble_eq_true rfl⟩ (cwG (i := i3) (lt15 hi3)) rfl rfl rfl hl.1 rfl (Nat.le_of_ble_eq_true rfl) dX5_drop_120 (fun o w' H locs hp hB => ?_)
              obtain ⟨f59, rfl, rfl⟩ := hp
              refine W.eq (g2 := F0 m 123 ls []) rfl ?_
              refine lv_aload_n hx hb dX5_drop_123 rfl (lv_at hl 3 rfl) ?_
              refine lv_iload hx hb dX5_drop_124 (lv_at hl 1 rfl) ?_
              refine lv_iconst (v := 1) hx hb dX5_drop_126 (by decide) ?_
              refine lv_isub hx hb dX5_drop_127 ?_
              refine call_V (n := 1) (As := [.int (x6 - 1)]) (rest := []) hX hB (k_X5_tellDone κ l a r54 q56 f59 (x6 - 1)) ⟨rfl, by decide, by decide, by decide +kernel⟩ wm_3_24 wm_3_26 wp_19 wm_1_1 wm_3_27 ⟨Nat.le_of_ble_eq_true rfl, Nat.le_of_ble_eq_true rfl⟩ ⟨Nat.le_of_ble_eq_true rfl, Nat.le_of_ble_eq_true rfl⟩ cw0 rfl rfl rfl hl.1 rfl (Nat.le_of_ble_eq_true rfl) dX5_drop_128 (fun o w' H locs hp hB => ?_)
              obtain ⟨x60, q61, f63, rfl, hq62, rfl⟩ := hp
              refine W.eq (g2 := F0 m 131 ls [.int x60]) rfl ?_
              rw [← hQ]
              exact vx_ret ( end_i hX hB hA3 rfl rfl ⟨x60, r54, q61, f63, rfl, (fun h => ho55 ((fun h => ho9 ((fun h => h) h)) h)), (hq62.trans (hq57.trans (hq11.trans rfl))), rfl⟩ (Nat.le_of_ble_eq_true rfl) (Nat.le_of_ble_eq_true rfl) dX5_drop_131)
            refine lv_if_eq (tgt := 106) hx hb dX5_drop_96 (by decide) (fun c64 => ?_) (fun c64 => ?_)
            · refine lv_aload hx hb dX5_drop_106 (lv_at hl 2 rfl) ?_
              refine gfN hX hB (cwG (i := i3) (lt15 hi3)) rfl in3 2 (by decide) wn_1_57 rfl rfl dX5_drop_108 ?_
              exact jn111 (r8 (2 * i3 + 1)) _ _  hB _ hl
            · refine lv_iload hx hb dX5_drop_99 (lv_at hl 1 rfl) ?_
              refine lv_iconst (v := 1) hx hb dX5_drop_101 (by decide) ?_
              refine lv_isub hx hb dX5_drop_102 ?_
              refine lv_goto (tgt := 111) hx hb dX5_drop_103 (by decide) ?_
              exact jn111 (x6 - 1) _ _  hB _ hl
          refine lv_if_eq (tgt := 91) hx hb dX5_drop_80 (by decide) (fun c65 => ?_) (fun c65 => ?_)
          · refine lv_iload hx hb dX5_drop_91 (lv_at hl 1 rfl) ?_
            refine lv_iconst (v := 1) hx hb dX5_drop_93 (by decide) ?_
            refine lv_isub hx hb dX5_drop_94 ?_
            exact jn95 (x6 - 1) _ _  hB _ hl
          · refine lv_aload hx hb dX5_drop_83 (lv_at hl 2 rfl) ?_
            refine gfN hX hB (cwG (i := i3) (lt15 hi3)) rfl in3 1 (by decide) wn_1_51 rfl rfl dX5_drop_85 ?_
            refine lv_goto (tgt := 95) hx hb dX5_drop_88 (by decide) ?_
            exact jn95 (r8 (2 * i3)) _ _  hB _ hl
        · refine lv_aload_n hx hb dX5_drop_57 rfl (lv_at hl 3 rfl) ?_
          refine gf hX hB cw0 rfl in5 1 (by decide) wm_1_138 rfl rfl dX5_drop_58 ?_
          refine lv_iload_n hx hb dX5_drop_61 rfl (lv_at hl 5 rfl) ?_
          refine lv_iload hx hb dX5_drop_62 (lv_at hl 0 rfl) ?_
          refine lv_iload hx hb dX5_drop_64 (lv_at hl 0 rfl) ?_
          refine lv_iconst (v := 1) hx hb dX5_drop_66 (by decide) ?_
          refine lv_iadd hx hb dX5_drop_67 ?_
          refine call_V (n := 3) (As := [.int p1, .int y6_48, .int (y6_48 + 1)]) (rest := []) hX hB (k_X3_exchangeLines κ l a r8 q10 f_48 4 p1 y6_48 (y6_48 + 1) (by decide)) ⟨rfl, by decide, by decide, by decide +kernel⟩ wm_3_96 wm_2_4 wm_2_5 wm_1_2 wm_2_6 ⟨Nat.le_of_ble_eq_true rfl, Nat.le_of_ble_eq_true rfl⟩ ⟨Nat.le_of_ble_eq_true rfl, Nat.le_of_ble_eq_true rfl⟩ (cwG (i := 4) (by decide)) rfl rfl rfl hl.1 rfl (Nat.le_of_ble_eq_true rfl) dX5_drop_68 (fun o w' H locs hp hB => ?_)
          obtain ⟨f66, rfl, rfl⟩ := hp
          refine W.eq (g2 := F0 m 71 ls []) rfl ?_
          refine lv_iinc (v := y6_48 + 1) (lv' := [(6, .int (y6_48 + 1)), (5, .int x6), (4, .ref (a (6 + 2 * i3))), (0, .ref (a 0)), (1, .int p0), (2, .int p1), (3, .int p2)]) hx hb dX5_drop_71 hl (k := 0) rfl rfl (by decide) rfl (fun ls hl => ?_)
          refine lv_goto (tgt := 48) hx hb dX5_drop_74 (by decide) ?_
          exact ih48 (y6_48 + 1) f66 _ _  (gap_step c51 hμ48) hB _ hl
    exact lp48 _ p2 f12 _ _  (Nat.lt_succ_self _) hB _ hl
  · refine lv_aload_n hx hb dX5_drop_31 rfl (lv_at hl 2 rfl) ?_
    refine call_V (n := 0) (As := []) (rest := []) hX hB (k_X5_tellRefused κ l a r q f) ⟨rfl, by decide, by decide, by decide +kernel⟩ wm_3_103 wm_3_105 wp_21 wm_1_1 wm_3_106 ⟨Nat.le_of_ble_eq_true rfl, Nat.le_of_ble_eq_true rfl⟩ ⟨Nat.le_of_ble_eq_true rfl, Nat.le_of_ble_eq_true rfl⟩ cw0 rfl rfl rfl hl.1 rfl (Nat.le_of_ble_eq_true rfl) dX5_drop_32 (fun o w' H locs hp hB => ?_)
    obtain ⟨x67, q68, f70, rfl, hq69, rfl⟩ := hp
    refine W.eq (g2 := F0 m 35 ls [.int x67]) rfl ?_
    rw [← hQ]
    exact vx_ret ( end_i hX hB hA3 rfl rfl ⟨x67, r, q68, f70, rfl, (fun h => h), (hq69.trans rfl), rfl⟩ (Nat.le_of_ble_eq_true rfl) (Nat.le_of_ble_eq_true rfl) dX5_drop_35)
set_option maxHeartbeats 4000000 in
set_option maxRecDepth 100000 in
theorem k_X5_sum (κ : Kt) (l : Launch) (hst : l.stackTraces = false) (a : Nat → Nat) (r q : Nat → Int32) (f : Nat → Nat → Int64) (p0 : Int32) (p1 : Int32) (p2 : Int32) (p3 : Int32)  : CX κ l yX5_sum cX5_sum 12 (some .int) 7 111 3 18 [.ref (a 0), .int p0, .int p1, .int p2, .int p3] (cw κ a r q f) (fun o w' => ∃ x : Int32, ∃ (r' q' : Nat → Int32) (f' : Nat → Nat → Int64), o = some (.int x) ∧ (okr r → okr r') ∧ q' 4 = q 4 ∧ w' = cw κ a r' q' f') (fun E w' => E ∈ (["java/lang/IndexOutOfBoundsException"] : List String) ∧ ∃ (r' q' : Nat → Int32) (f' : Nat → Nat → Int64), (okr r → okr r') ∧ q' 4 = q 4 ∧ w' = cw κ a r' q' f') := by
  refine CX_begin (by decide) (Nat.le_of_ble_eq_true rfl) ?_
  intro p e s m args below meth c A Q hX hne hA3 hQ hB ls hl
  have hx := hX.1.1
  have hb := hX.1.2.1
  have hl : lv_has ls 12 [(0, .ref (a 0)), (1, .int p0), (2, .int p1), (3, .int p2), (4, .int p3)] := hl
  refine lv_aload_n hx hb dX5_sum_0 rfl (lv_at hl 0 rfl) ?_
  refine lv_iload_n hx hb dX5_sum_1 rfl (lv_at hl 1 rfl) ?_
  refine CX_after2 hX hB (run_XV (n := 1) (As := [.int p0]) (rest := []) hX hB (k_X5_needTable κ l hst a r q f p0) ⟨rfl, by decide, by decide, by decide +kernel⟩ wm_2_165 wm_2_167 wp_17 wm_1_1 wm_2_168 ⟨Nat.le_of_ble_eq_true rfl, Nat.le_of_ble_eq_true rfl⟩ ⟨Nat.le_of_ble_eq_true rfl, Nat.le_of_ble_eq_true rfl⟩ cw0 rfl rfl rfl hl.1 rfl (Nat.le_of_ble_eq_true rfl) dX5_sum_2) (fun E ce q9 w' H locs hp hB hce hcv hcl => ?_) (fun o w' H locs hp hB => ?_)
  · obtain ⟨hE1, rfl⟩ := hp
    rw [← hQ]
    exact thrown_on hX hne hB hA3 hce hcv hcl ⟨((by decide : ∀ x ∈ (["java/lang/IndexOutOfBoundsException"] : List String), x ∈ (["java/lang/IndexOutOfBoundsException"] : List String)) _ hE1), r, q, f, (fun h => h), rfl, rfl⟩ (Nat.le_of_ble_eq_true rfl) (Nat.le_of_ble_eq_true rfl)
  obtain ⟨i3, hi3, rfl, rfl⟩ := hp
  refine W.eq (g2 := F0 m 5 ls [.ref (a (6 + 2 * i3))]) rfl ?_
  refine lv_astore (lv' := [(5, .ref (a (6 + 2 * i3))), (0, .ref (a 0)), (1, .int p0), (2, .int p1), (3, .int p2), (4, .int p3)]) hx hb dX5_sum_5 hl (by decide) rfl (fun ls hl => ?_)
  refine lv_aload_n hx hb dX5_sum_7 rfl (lv_at hl 1 rfl) ?_
  refine lv_iload_n hx hb dX5_sum_8 rfl (lv_at hl 3 rfl) ?_
  refine CX_after2 hX hB (run_XV (n := 1) (As := [.int p1]) (rest := []) hX hB (k_X5_needTable κ l hst a r q f p1) ⟨rfl, by decide, by decide, by decide +kernel⟩ wm_2_165 wm_2_167 wp_17 wm_1_1 wm_2_168 ⟨Nat.le_of_ble_eq_true rfl, Nat.le_of_ble_eq_true rfl⟩ ⟨Nat.le_of_ble_eq_true rfl, Nat.le_of_ble_eq_true rfl⟩ cw0 rfl rfl rfl hl.1 rfl (Nat.le_of_ble_eq_true rfl) dX5_sum_9) (fun E ce q9 w' H locs hp hB hce hcv hcl => ?_) (fun o w' H locs hp hB => ?_)
  · obtain ⟨hE4, rfl⟩ := hp
    rw [← hQ]
    exact thrown_on hX hne hB hA3 hce hcv hcl ⟨((by decide : ∀ x ∈ (["java/lang/IndexOutOfBoundsException"] : List String), x ∈ (["java/lang/IndexOutOfBoundsException"] : List String)) _ hE4), r, q, f, (fun h => h), rfl, rfl⟩ (Nat.le_of_ble_eq_true rfl) (Nat.le_of_ble_eq_true rfl)
  obtain ⟨i6, hi6, rfl, rfl⟩ := hp
  refine W.eq (g2 := F0 m 12 ls [.ref (a (6 + 2 * i6))]) rfl ?_
  refine lv_astore (lv' := [(6, .ref (a (6 + 2 * i6))), (5, .ref (a (6 + 2 * i3))), (0, .ref (a 0)), (1, .int p0), (2, .int p1), (3, .int p2), (4, .int p3)]) hx hb dX5_sum_12 hl (by decide) rfl (fun ls hl => ?_)
  refine lv_aload_n hx hb dX5_sum_14 rfl (lv_at hl 2 rfl) ?_
  refine lv_iload hx hb dX5_sum_15 (lv_at hl 6 rfl) ?_
  refine CX_after2 hX hB (run_XV (n := 1) (As := [.int p3]) (rest := []) hX hB (k_X5_needTable κ l hst a r q f p3) ⟨rfl, by decide, by decide, by decide +kernel⟩ wm_2_165 wm_2_167 wp_17 wm_1_1 wm_2_168 ⟨Nat.le_of_ble_eq_true rfl, Nat.le_of_ble_eq_true rfl⟩ ⟨Nat.le_of_ble_eq_true rfl, Nat.le_of_ble_eq_true rfl⟩ cw0 rfl rfl rfl hl.1 rfl (Nat.le_of_ble_eq_true rfl) dX5_sum_17) (fun E ce q9 w' H locs hp hB hce hcv hcl => ?_) (fun o w' H locs hp hB => ?_)
  · obtain ⟨hE7, rfl⟩ := hp
    rw [← hQ]
    exact thrown_on hX hne hB hA3 hce hcv hcl ⟨((by decide : ∀ x ∈ (["java/lang/IndexOutOfBoundsException"] : List String), x ∈ (["java/lang/IndexOutOfBoundsException"] : List String)) _ hE7), r, q, f, (fun h => h), rfl, rfl⟩ (Nat.le_of_ble_eq_true rfl) (Nat.le_of_ble_eq_true rfl)
  obtain ⟨i9, hi9, rfl, rfl⟩ := hp
  refine W.eq (g2 := F0 m 20 ls [.ref (a (6 + 2 * i9))]) rfl ?_
  refine lv_astore (lv' := [(7, .ref (a (6 + 2 * i9))), (6, .ref (a (6 + 2 * i6))), (5, .ref (a (6 + 2 * i3))), (0, .ref (a 0)), (1, .int p0), (2, .int p1), (3, .int p2), (4, .int p3)]) hx hb dX5_sum_20 hl (by decide) rfl (fun ls hl => ?_)
  refine lv_aload hx hb dX5_sum_22 (lv_at hl 2 rfl) ?_
  refine gfN hX hB (cwG (i := i3) (lt15 hi3)) rfl in3 1 (by decide) wn_1_51 rfl rfl dX5_sum_24 ?_
  refine lv_aload hx hb dX5_sum_27 (lv_at hl 1 rfl) ?_
  refine gfN hX hB (cwG (i := i6) (lt15 hi6)) rfl in3 1 (by decide) wn_1_51 rfl rfl dX5_sum_29 ?_
  refine lv_icmp_ne (tgt := 48) hx hb dX5_sum_32 (by decide) (fun c10 => ?_) (fun c10 => ?_)
  · refine lv_aload_n hx hb dX5_sum_48 rfl (lv_at hl 3 rfl) ?_
    refine call_V (n := 0) (As := []) (rest := []) hX hB (k_X5_tellRefused κ l a r q f) ⟨rfl, by decide, by decide, by decide +kernel⟩ wm_3_103 wm_3_105 wp_21 wm_1_1 wm_3_106 ⟨Nat.le_of_ble_eq_true rfl, Nat.le_of_ble_eq_true rfl⟩ ⟨Nat.le_of_ble_eq_true rfl, Nat.le_of_ble_eq_true rfl⟩ cw0 rfl rfl rfl hl.1 rfl (Nat.le_of_ble_eq_true rfl) dX5_sum_49 (fun o w' H locs hp hB => ?_)
    obtain ⟨x11, q12, f14, rfl, hq13, rfl⟩ := hp
    refine W.eq (g2 := F0 m 52 ls [.int x11]) rfl ?_
    rw [← hQ]
    exact vx_ret ( end_i hX hB hA3 rfl rfl ⟨x11, r, q12, f14, rfl, (fun h => h), (hq13.trans rfl), rfl⟩ (Nat.le_of_ble_eq_true rfl) (Nat.le_of_ble_eq_true rfl) dX5_sum_52)
  · refine lv_aload hx hb dX5_sum_35 (lv_at hl 2 rfl) ?_
    refine gfN hX hB (cwG (i := i3) (lt15 hi3)) rfl in3 2 (by decide) wn_1_57 rfl rfl dX5_sum_37 ?_
    refine lv_aload hx hb dX5_sum_40 (lv_at hl 1 rfl) ?_
    refine gfN hX hB (cwG (i := i6) (lt15 hi6)) rfl in3 2 (by decide) wn_1_57 rfl rfl dX5_sum_42 ?_
    refine lv_icmp_eq (tgt := 53) hx hb dX5_sum_45 (by decide) (fun c15 => ?_) (fun c15 => ?_)
    · refine lv_aload_n hx hb dX5_sum_53 rfl (lv_at hl 3 rfl) ?_
      refine gf hX hB cw0 rfl in5 1 (by decide) wm_1_138 rfl rfl dX5_sum_54 ?_
      refine lv_aload hx hb dX5_sum_57 (lv_at hl 2 rfl) ?_
      refine gfN hX hB (cwG (i := i3) (lt15 hi3)) rfl in3 1 (by decide) wn_1_51 rfl rfl dX5_sum_59 ?_
      refine lv_aload hx hb dX5_sum_62 (lv_at hl 2 rfl) ?_
      refine gfN hX hB (cwG (i := i3) (lt15 hi3)) rfl in3 2 (by decide) wn_1_57 rfl rfl dX5_sum_64 ?_
      refine call_V (n := 2) (As := [.int (r (2 * i3)), .int (r (2 * i3 + 1))]) (rest := []) hX hB (k_X3_reshape κ l a r q f 4 (r (2 * i3)) (r (2 * i3 + 1)) (by decide)) ⟨rfl, by decide, by decide, by decide +kernel⟩ wm_3_23 wm_1_213 wm_1_214 wm_1_2 wm_1_215 ⟨Nat.le_of_ble_eq_true rfl, Nat.le_of_ble_eq_true rfl⟩ ⟨Nat.le_of_ble_eq_true rfl, Nat.le_of_ble_eq_true rfl⟩ (cwG (i := 4) (by decide)) rfl rfl rfl hl.1 rfl (Nat.le_of_ble_eq_true rfl) dX5_sum_67 (fun o w' H locs hp hB => ?_)
      obtain ⟨r16, q18, f20, rfl, ho17, hq19, rfl⟩ := hp
      refine W.eq (g2 := F0 m 70 ls []) rfl ?_
      refine lv_iconst (v := 0) hx hb dX5_sum_70 (by decide) ?_
      refine lv_istore (lv' := [(8, .int 0), (7, .ref (a (6 + 2 * i9))), (6, .ref (a (6 + 2 * i6))), (5, .ref (a (6 + 2 * i3))), (0, .ref (a 0)), (1, .int p0), (2, .int p1), (3, .int p2), (4, .int p3)]) hx hb dX5_sum_71 hl (by decide) rfl (fun ls hl => ?_)
      have lp73 : ∀ (nn : Nat) (y8_73 : Int32) (f_73 : Nat → Nat → Int64) (H : Heap) (locs : List Loc), gap (r16 (2 * i3)) y8_73 < nn → Bd κ A s (cw κ a r16 q18 f_73) H locs → ∀ ls : Array Slot, lv_has ls 12 [(8, .int y8_73), (7, .ref (a (6 + 2 * i9))), (6, .ref (a (6 + 2 * i6))), (5, .ref (a (6 + 2 * i3))), (0, .ref (a 0)), (1, .int p0), (2, .int p1), (3, .int p2), (4, .int p3)] → W p l e (Rm 7 111 3 18) s m args below meth c H locs 3 18 Q (F0 m 73 ls []) := by
        intro nn
        induction nn with
        | zero => intro y8_73 f_73 H locs hμ; exact absurd hμ (Nat.not_lt_zero _)
        | succ nn ih73 =>
          intro y8_73 f_73 H locs hμ73 hB ls hl
          refine lv_iload hx hb dX5_sum_73 (lv_at hl 0 rfl) ?_
          refine lv_aload hx hb dX5_sum_75 (lv_at hl 3 rfl) ?_
          refine gfN hX hB (cwG (i := i3) (lt15 hi3)) rfl in3 1 (by decide) wn_1_51 rfl rfl dX5_sum_77 ?_
          refine lv_icmp_ge (tgt := 152) hx hb dX5_sum_80 (by decide) (fun c128 => ?_) (fun c128 => ?_)
          · refine lv_aload_n hx hb dX5_sum_152 rfl (lv_at hl 4 rfl) ?_
            refine lv_aload_n hx hb dX5_sum_153 rfl (lv_at hl 4 rfl) ?_
            refine gf hX hB cw0 rfl in5 1 (by decide) wm_1_138 rfl rfl dX5_sum_154 ?_
            refine lv_aload hx hb dX5_sum_157 (lv_at hl 1 rfl) ?_
            refine call_V (n := 2) (As := [.ref (a 14), .ref (a (6 + 2 * i9))]) (rest := []) hX hB (k_X5_settleForm κ l a r16 q18 f_73 4 i9 (by decide) (lt15 hi9)) ⟨rfl, by decide, by decide, by decide +kernel⟩ wm_3_153 wm_3_155 wp_22 wm_1_1 wm_3_156 ⟨Nat.le_of_ble_eq_true rfl, Nat.le_of_ble_eq_true rfl⟩ ⟨Nat.le_of_ble_eq_true rfl, Nat.le_of_ble_eq_true rfl⟩ cw0 rfl rfl rfl hl.1 rfl (Nat.le_of_ble_eq_true rfl) dX5_sum_159 (fun o w' H locs hp hB => ?_)
            obtain ⟨x129, r130, q132, f134, rfl, ho131, hq133, rfl⟩ := hp
            refine W.eq (g2 := F0 m 162 ls [.int x129]) rfl ?_
            rw [← hQ]
            exact vx_ret ( end_i hX hB hA3 rfl rfl ⟨x129, r130, q132, f134, rfl, (fun h => ho131 ((fun h => ho17 ((fun h => h) h)) h)), (hq133.trans (hq19.trans rfl)), rfl⟩ (Nat.le_of_ble_eq_true rfl) (Nat.le_of_ble_eq_true rfl) dX5_sum_162)
          · refine lv_iconst (v := 0) hx hb dX5_sum_83 (by decide) ?_
            refine lv_istore (lv' := [(9, .int 0), (8, .int y8_73), (7, .ref (a (6 + 2 * i9))), (6, .ref (a (6 + 2 * i6))), (5, .ref (a (6 + 2 * i3))), (0, .ref (a 0)), (1, .int p0), (2, .int p1), (3, .int p2), (4, .int p3)]) hx hb dX5_sum_84 hl (by decide) rfl (fun ls hl => ?_)
            have lp86 : ∀ (nn : Nat) (y9_86 : Int32) (f_86 : Nat → Nat → Int64) (H : Heap) (locs : List Loc), gap (r16 (2 * i3 + 1)) y9_86 < nn → Bd κ A s (cw κ a r16 q18 f_86) H locs → ∀ ls : Array Slot, lv_has ls 12 [(9, .int y9_86), (8, .int y8_73), (7, .ref (a (6 + 2 * i9))), (6, .ref (a (6 + 2 * i6))), (5, .ref (a (6 + 2 * i3))), (0, .ref (a 0)), (1, .int p0), (2, .int p1), (3, .int p2), (4, .int p3)] → W p l e (Rm 7 111 3 18) s m args below meth c H locs 3 18 Q (F0 m 86 ls []) := by
              intro nn
              induction nn with
              | zero => intro y9_86 f_86 H locs hμ; exact absurd hμ (Nat.not_lt_zero _)
              | succ nn ih86 =>
                intro y9_86 f_86 H locs hμ86 hB ls hl
                refine lv_iload hx hb dX5_sum_86 (lv_at hl 0 rfl) ?_
                refine lv_aload hx hb dX5_sum_88 (lv_at hl 4 rfl) ?_
                refine gfN hX hB (cwG (i := i3) (lt15 hi3)) rfl in3 2 (by decide) wn_1_57 rfl rfl dX5_sum_90 ?_
                refine lv_icmp_ge (tgt := 146) hx hb dX5_sum_93 (by decide) (fun c147 => ?_) (fun c147 => ?_)
                · refine lv_iinc (v := y8_73 + 1) (lv' := [(8, .int (y8_73 + 1)), (9, .int y9_86), (7, .ref (a (6 + 2 * i9))), (6, .ref (a (6 + 2 * i6))), (5, .ref (a (6 + 2 * i3))), (0, .ref (a 0)), (1, .int p0), (2, .int p1), (3, .int p2), (4, .int p3)]) hx hb dX5_sum_146 hl (k := 1) rfl rfl (by decide) rfl (fun ls hl => ?_)
                  refine lv_goto (tgt := 73) hx hb dX5_sum_149 (by decide) ?_
                  exact ih73 (y8_73 + 1) f_86 _ _  (gap_step c128 hμ73) hB _ (lv_sub hl [0, 2, 3, 4, 5, 6, 7, 8, 9] rfl)
                · refine lv_aload hx hb dX5_sum_96 (lv_at hl 3 rfl) ?_
                  refine lv_iload hx hb dX5_sum_98 (lv_at hl 1 rfl) ?_
                  refine lv_iload hx hb dX5_sum_100 (lv_at hl 0 rfl) ?_
                  refine call_V (n := 2) (As := [.int y8_73, .int y9_86]) (rest := []) hX hB (k_X3_get κ l a r16 q18 f_86 i6 y8_73 y9_86 (lt15 hi6)) ⟨rfl, by decide, by decide, by decide +kernel⟩ wm_2_123 wm_1_187 wm_1_188 wm_1_2 wm_1_189 ⟨Nat.le_of_ble_eq_true rfl, Nat.le_of_ble_eq_true rfl⟩ ⟨Nat.le_of_ble_eq_true rfl, Nat.le_of_ble_eq_true rfl⟩ (cwG (i := i6) (lt15 hi6)) rfl rfl rfl hl.1 rfl (Nat.le_of_ble_eq_true rfl) dX5_sum_102 (fun o w' H locs hp hB => ?_)
                  obtain ⟨x148, rfl, rfl⟩ := hp
                  refine W.eq (g2 := F0 m 105 ls [.long x148]) rfl ?_
                  refine lv_lstore (lv' := [(10, .long x148), (9, .int y9_86), (8, .int y8_73), (7, .ref (a (6 + 2 * i9))), (6, .ref (a (6 + 2 * i6))), (5, .ref (a (6 + 2 * i3))), (0, .ref (a 0)), (1, .int p0), (2, .int p1), (3, .int p2), (4, .int p3)]) hx hb dX5_sum_105 hl (by decide) rfl (fun ls hl => ?_)
                  refine lv_aload_n hx hb dX5_sum_107 rfl (lv_at hl 6 rfl) ?_
                  refine gf hX hB cw0 rfl in5 1 (by decide) wm_1_138 rfl rfl dX5_sum_108 ?_
                  refine lv_iload hx hb dX5_sum_111 (lv_at hl 2 rfl) ?_
                  refine lv_iload hx hb dX5_sum_113 (lv_at hl 1 rfl) ?_
                  refine lv_aload hx hb dX5_sum_115 (lv_at hl 5 rfl) ?_
                  refine lv_iload hx hb dX5_sum_117 (lv_at hl 2 rfl) ?_
                  refine lv_iload hx hb dX5_sum_119 (lv_at hl 1 rfl) ?_
                  refine call_V (n := 2) (As := [.int y8_73, .int y9_86]) (rest := [.int y9_86, .int y8_73, .ref (a 14)]) hX hB (k_X3_get κ l a r16 q18 f_86 i3 y8_73 y9_86 (lt15 hi3)) ⟨rfl, by decide, by decide, by decide +kernel⟩ wm_2_123 wm_1_187 wm_1_188 wm_1_2 wm_1_189 ⟨Nat.le_of_ble_eq_true rfl, Nat.le_of_ble_eq_true rfl⟩ ⟨Nat.le_of_ble_eq_true rfl, Nat.le_of_ble_eq_true rfl⟩ (cwG (i := i3) (lt15 hi3)) rfl rfl rfl hl.1 rfl (Nat.le_of_ble_eq_true rfl) dX5_sum_121 (fun o w' H locs hp hB => ?_)
                  obtain ⟨x149, rfl, rfl⟩ := hp
                  refine W.eq (g2 := F0 m 124 ls [.long x149, .int y9_86, .int y8_73, .ref (a 14)]) rfl ?_
                  refine lv_iload_n hx hb dX5_sum_124 rfl (lv_at hl 9 rfl) ?_
                  have jn136 : ∀ (z0_136 : Int64) (H : Heap) (locs : List Loc), Bd κ A s (cw κ a r16 q18 f_86) H locs → ∀ ls : Array Slot, lv_has ls 12 [(10, .long x148), (9, .int y9_86), (8, .int y8_73), (7, .ref (a (6 + 2 * i9))), (6, .ref (a (6 + 2 * i6))), (5, .ref (a (6 + 2 * i3))), (0, .ref (a 0)), (1, .int p0), (2, .int p1), (3, .int p2), (4, .int p3)] → W p l e (Rm 7 111 3 18) s m args below meth c H locs 3 18 Q (F0 m 136 ls [.long z0_136, .long x149, .int y9_86, .int y8_73, .ref (a 14)]) := by
                    intro z0_136 H locs hB ls hl
                    refine lv_ladd hx hb dX5_sum_136 ?_
                    refine call_V (n := 3) (As := [.int y8_73, .int y9_86, .long (x149 + z0_136)]) (rest := []) hX hB (k_X3_set κ l a r16 q18 f_86 4 y8_73 y9_86 (x149 + z0_136) (by decide)) ⟨rfl, by decide, by decide, by decide +kernel⟩ wm_3_51 wm_1_223 wm_1_224 wm_1_2 wm_1_225 ⟨Nat.le_of_ble_eq_true rfl, Nat.le_of_ble_eq_true rfl⟩ ⟨Nat.le_of_ble_eq_true rfl, Nat.le_of_ble_eq_true rfl⟩ (cwG (i := 4) (by decide)) rfl rfl rfl hl.1 rfl (Nat.le_of_ble_eq_true rfl) dX5_sum_137 (fun o w' H locs hp hB => ?_)
                    obtain ⟨f151, rfl, rfl⟩ := hp
                    refine W.eq (g2 := F0 m 140 ls []) rfl ?_
                    refine lv_iinc (v := y9_86 + 1) (lv' := [(9, .int (y9_86 + 1)), (10, .long x148), (8, .int y8_73), (7, .ref (a (6 + 2 * i9))), (6, .ref (a (6 + 2 * i6))), (5, .ref (a (6 + 2 * i3))), (0, .ref (a 0)), (1, .int p0), (2, .int p1), (3, .int p2), (4, .int p3)]) hx hb dX5_sum_140 hl (k := 1) rfl rfl (by decide) rfl (fun ls hl => ?_)
                    refine lv_goto (tgt := 86) hx hb dX5_sum_143 (by decide) ?_
                    exact ih86 (y9_86 + 1) f151 _ _  (gap_step c147 hμ86) hB _ (lv_sub hl [0, 2, 3, 4, 5, 6, 7, 8, 9, 10] rfl)
                  refine lv_if_eq (tgt := 134) hx hb dX5_sum_125 (by decide) (fun c152 => ?_) (fun c152 => ?_)
                  · refine lv_lload hx hb dX5_sum_134 (lv_at hl 0 rfl) ?_
                    exact jn136 x148 _ _  hB _ hl
                  · refine lv_lload hx hb dX5_sum_128 (lv_at hl 0 rfl) ?_
                    refine lv_lneg hx hb dX5_sum_130 ?_
                    refine lv_goto (tgt := 136) hx hb dX5_sum_131 (by decide) ?_
                    exact jn136 (-x148) _ _  hB _ hl
            exact lp86 _ 0 f_73 _ _  (Nat.lt_succ_self _) hB _ hl
      exact lp73 _ 0 f20 _ _  (Nat.lt_succ_self _) hB _ hl
    · refine lv_aload_n hx hb dX5_sum_48 rfl (lv_at hl 3 rfl) ?_
      refine call_V (n := 0) (As := []) (rest := []) hX hB (k_X5_tellRefused κ l a r q f) ⟨rfl, by decide, by decide, by decide +kernel⟩ wm_3_103 wm_3_105 wp_21 wm_1_1 wm_3_106 ⟨Nat.le_of_ble_eq_true rfl, Nat.le_of_ble_eq_true rfl⟩ ⟨Nat.le_of_ble_eq_true rfl, Nat.le_of_ble_eq_true rfl⟩ cw0 rfl rfl rfl hl.1 rfl (Nat.le_of_ble_eq_true rfl) dX5_sum_49 (fun o w' H locs hp hB => ?_)
      obtain ⟨x153, q154, f156, rfl, hq155, rfl⟩ := hp
      refine W.eq (g2 := F0 m 52 ls [.int x153]) rfl ?_
      rw [← hQ]
      exact vx_ret ( end_i hX hB hA3 rfl rfl ⟨x153, r, q154, f156, rfl, (fun h => h), (hq155.trans rfl), rfl⟩ (Nat.le_of_ble_eq_true rfl) (Nat.le_of_ble_eq_true rfl) dX5_sum_52)
set_option maxHeartbeats 4000000 in
set_option maxRecDepth 100000 in
theorem k_X5_multiply (κ : Kt) (l : Launch) (hst : l.stackTraces = false) (a : Nat → Nat) (r q : Nat → Int32) (f : Nat → Nat → Int64) (p0 : Int32) (p1 : Int32) (p2 : Int32)  : CX κ l yX5_multiply cX5_multiply 7 (some .int) 7 111 3 18 [.ref (a 0), .int p0, .int p1, .int p2] (cw κ a r q f) (fun o w' => ∃ x : Int32, ∃ (r' q' : Nat → Int32) (f' : Nat → Nat → Int64), o = some (.int x) ∧ (okr r → okr r') ∧ q' 4 = q 4 ∧ w' = cw κ a r' q' f') (fun E w' => E ∈ (["java/lang/IndexOutOfBoundsException"] : List String) ∧ ∃ (r' q' : Nat → Int32) (f' : Nat → Nat → Int64), (okr r → okr r') ∧ q' 4 = q 4 ∧ w' = cw κ a r' q' f') := by
  refine CX_begin (by decide) (Nat.le_of_ble_eq_true rfl) ?_
  intro p e s m args below meth c A Q hX hne hA3 hQ hB ls hl
  have hx := hX.1.1
  have hb := hX.1.2.1
  have hl : lv_has ls 7 [(0, .ref (a 0)), (1, .int p0), (2, .int p1), (3, .int p2)] := hl
  refine lv_aload_n hx hb dX5_multiply_0 rfl (lv_at hl 0 rfl) ?_
  refine lv_iload_n hx hb dX5_multiply_1 rfl (lv_at hl 1 rfl) ?_
  refine CX_after2 hX hB (run_XV (n := 1) (As := [.int p0]) (rest := []) hX hB (k_X5_needTable κ l hst a r q f p0) ⟨rfl, by decide, by decide, by decide +kernel⟩ wm_2_165 wm_2_167 wp_17 wm_1_1 wm_2_168 ⟨Nat.le_of_ble_eq_true rfl, Nat.le_of_ble_eq_true rfl⟩ ⟨Nat.le_of_ble_eq_true rfl, Nat.le_of_ble_eq_true rfl⟩ cw0 rfl rfl rfl hl.1 rfl (Nat.le_of_ble_eq_true rfl) dX5_multiply_2) (fun E ce q9 w' H locs hp hB hce hcv hcl => ?_) (fun o w' H locs hp hB => ?_)
  · obtain ⟨hE1, rfl⟩ := hp
    rw [← hQ]
    exact thrown_on hX hne hB hA3 hce hcv hcl ⟨((by decide : ∀ x ∈ (["java/lang/IndexOutOfBoundsException"] : List String), x ∈ (["java/lang/IndexOutOfBoundsException"] : List String)) _ hE1), r, q, f, (fun h => h), rfl, rfl⟩ (Nat.le_of_ble_eq_true rfl) (Nat.le_of_ble_eq_true rfl)
  obtain ⟨i3, hi3, rfl, rfl⟩ := hp
  refine W.eq (g2 := F0 m 5 ls [.ref (a (6 + 2 * i3))]) rfl ?_
  refine lv_astore (lv' := [(4, .ref (a (6 + 2 * i3))), (0, .ref (a 0)), (1, .int p0), (2, .int p1), (3, .int p2)]) hx hb dX5_multiply_5 hl (by decide) rfl (fun ls hl => ?_)
  refine lv_aload_n hx hb dX5_multiply_7 rfl (lv_at hl 1 rfl) ?_
  refine lv_iload_n hx hb dX5_multiply_8 rfl (lv_at hl 3 rfl) ?_
  refine CX_after2 hX hB (run_XV (n := 1) (As := [.int p1]) (rest := []) hX hB (k_X5_needTable κ l hst a r q f p1) ⟨rfl, by decide, by decide, by decide +kernel⟩ wm_2_165 wm_2_167 wp_17 wm_1_1 wm_2_168 ⟨Nat.le_of_ble_eq_true rfl, Nat.le_of_ble_eq_true rfl⟩ ⟨Nat.le_of_ble_eq_true rfl, Nat.le_of_ble_eq_true rfl⟩ cw0 rfl rfl rfl hl.1 rfl (Nat.le_of_ble_eq_true rfl) dX5_multiply_9) (fun E ce q9 w' H locs hp hB hce hcv hcl => ?_) (fun o w' H locs hp hB => ?_)
  · obtain ⟨hE4, rfl⟩ := hp
    rw [← hQ]
    exact thrown_on hX hne hB hA3 hce hcv hcl ⟨((by decide : ∀ x ∈ (["java/lang/IndexOutOfBoundsException"] : List String), x ∈ (["java/lang/IndexOutOfBoundsException"] : List String)) _ hE4), r, q, f, (fun h => h), rfl, rfl⟩ (Nat.le_of_ble_eq_true rfl) (Nat.le_of_ble_eq_true rfl)
  obtain ⟨i6, hi6, rfl, rfl⟩ := hp
  refine W.eq (g2 := F0 m 12 ls [.ref (a (6 + 2 * i6))]) rfl ?_
  refine lv_astore (lv' := [(5, .ref (a (6 + 2 * i6))), (4, .ref (a (6 + 2 * i3))), (0, .ref (a 0)), (1, .int p0), (2, .int p1), (3, .int p2)]) hx hb dX5_multiply_12 hl (by decide) rfl (fun ls hl => ?_)
  refine lv_aload_n hx hb dX5_multiply_14 rfl (lv_at hl 2 rfl) ?_
  refine lv_iload_n hx hb dX5_multiply_15 rfl (lv_at hl 5 rfl) ?_
  refine CX_after2 hX hB (run_XV (n := 1) (As := [.int p2]) (rest := []) hX hB (k_X5_needTable κ l hst a r q f p2) ⟨rfl, by decide, by decide, by decide +kernel⟩ wm_2_165 wm_2_167 wp_17 wm_1_1 wm_2_168 ⟨Nat.le_of_ble_eq_true rfl, Nat.le_of_ble_eq_true rfl⟩ ⟨Nat.le_of_ble_eq_true rfl, Nat.le_of_ble_eq_true rfl⟩ cw0 rfl rfl rfl hl.1 rfl (Nat.le_of_ble_eq_true rfl) dX5_multiply_16) (fun E ce q9 w' H locs hp hB hce hcv hcl => ?_) (fun o w' H locs hp hB => ?_)
  · obtain ⟨hE7, rfl⟩ := hp
    rw [← hQ]
    exact thrown_on hX hne hB hA3 hce hcv hcl ⟨((by decide : ∀ x ∈ (["java/lang/IndexOutOfBoundsException"] : List String), x ∈ (["java/lang/IndexOutOfBoundsException"] : List String)) _ hE7), r, q, f, (fun h => h), rfl, rfl⟩ (Nat.le_of_ble_eq_true rfl) (Nat.le_of_ble_eq_true rfl)
  obtain ⟨i9, hi9, rfl, rfl⟩ := hp
  refine W.eq (g2 := F0 m 19 ls [.ref (a (6 + 2 * i9))]) rfl ?_
  refine lv_astore (lv' := [(6, .ref (a (6 + 2 * i9))), (5, .ref (a (6 + 2 * i6))), (4, .ref (a (6 + 2 * i3))), (0, .ref (a 0)), (1, .int p0), (2, .int p1), (3, .int p2)]) hx hb dX5_multiply_19 hl (by decide) rfl (fun ls hl => ?_)
  refine lv_aload hx hb dX5_multiply_21 (lv_at hl 2 rfl) ?_
  refine gfN hX hB (cwG (i := i3) (lt15 hi3)) rfl in3 2 (by decide) wn_1_57 rfl rfl dX5_multiply_23 ?_
  refine lv_aload hx hb dX5_multiply_26 (lv_at hl 1 rfl) ?_
  refine gfN hX hB (cwG (i := i6) (lt15 hi6)) rfl in3 1 (by decide) wn_1_51 rfl rfl dX5_multiply_28 ?_
  refine lv_icmp_eq (tgt := 39) hx hb dX5_multiply_31 (by decide) (fun c10 => ?_) (fun c10 => ?_)
  · refine lv_aload_n hx hb dX5_multiply_39 rfl (lv_at hl 3 rfl) ?_
    refine gf hX hB cw0 rfl in5 1 (by decide) wm_1_138 rfl rfl dX5_multiply_40 ?_
    refine lv_aload hx hb dX5_multiply_43 (lv_at hl 2 rfl) ?_
    refine lv_aload hx hb dX5_multiply_45 (lv_at hl 1 rfl) ?_
    refine call_V (n := 2) (As := [.ref (a (6 + 2 * i3)), .ref (a (6 + 2 * i6))]) (rest := []) hX hB (k_X3_becomeProduct κ l a r q f 4 i3 i6 (by decide) (lt15 hi3) (lt15 hi6)) ⟨rfl, by decide, by decide, by decide +kernel⟩ wm_2_40 wm_2_41 wm_2_42 wm_1_2 wm_2_43 ⟨Nat.le_of_ble_eq_true rfl, Nat.le_of_ble_eq_true rfl⟩ ⟨Nat.le_of_ble_eq_true rfl, Nat.le_of_ble_eq_true rfl⟩ (cwG (i := 4) (by decide)) rfl rfl rfl hl.1 rfl (Nat.le_of_ble_eq_true rfl) dX5_multiply_47 (fun o w' H locs hp hB => ?_)
    obtain ⟨r11, q13, f15, rfl, ho12, hq14, rfl⟩ := hp
    refine W.eq (g2 := F0 m 50 ls []) rfl ?_
    refine lv_aload_n hx hb dX5_multiply_50 rfl (lv_at hl 3 rfl) ?_
    refine lv_aload_n hx hb dX5_multiply_51 rfl (lv_at hl 3 rfl) ?_
    refine gf hX hB cw0 rfl in5 1 (by decide) wm_1_138 rfl rfl dX5_multiply_52 ?_
    refine lv_aload hx hb dX5_multiply_55 (lv_at hl 0 rfl) ?_
    refine call_V (n := 2) (As := [.ref (a 14), .ref (a (6 + 2 * i9))]) (rest := []) hX hB (k_X5_settleForm κ l a r11 q13 f15 4 i9 (by decide) (lt15 hi9)) ⟨rfl, by decide, by decide, by decide +kernel⟩ wm_3_153 wm_3_155 wp_22 wm_1_1 wm_3_156 ⟨Nat.le_of_ble_eq_true rfl, Nat.le_of_ble_eq_true rfl⟩ ⟨Nat.le_of_ble_eq_true rfl, Nat.le_of_ble_eq_true rfl⟩ cw0 rfl rfl rfl hl.1 rfl (Nat.le_of_ble_eq_true rfl) dX5_multiply_57 (fun o w' H locs hp hB => ?_)
    obtain ⟨x16, r17, q19, f21, rfl, ho18, hq20, rfl⟩ := hp
    refine W.eq (g2 := F0 m 60 ls [.int x16]) rfl ?_
    rw [← hQ]
    exact vx_ret ( end_i hX hB hA3 rfl rfl ⟨x16, r17, q19, f21, rfl, (fun h => ho18 ((fun h => ho12 ((fun h => h) h)) h)), (hq20.trans (hq14.trans rfl)), rfl⟩ (Nat.le_of_ble_eq_true rfl) (Nat.le_of_ble_eq_true rfl) dX5_multiply_60)
  · refine lv_aload_n hx hb dX5_multiply_34 rfl (lv_at hl 3 rfl) ?_
    refine call_V (n := 0) (As := []) (rest := []) hX hB (k_X5_tellRefused κ l a r q f) ⟨rfl, by decide, by decide, by decide +kernel⟩ wm_3_103 wm_3_105 wp_21 wm_1_1 wm_3_106 ⟨Nat.le_of_ble_eq_true rfl, Nat.le_of_ble_eq_true rfl⟩ ⟨Nat.le_of_ble_eq_true rfl, Nat.le_of_ble_eq_true rfl⟩ cw0 rfl rfl rfl hl.1 rfl (Nat.le_of_ble_eq_true rfl) dX5_multiply_35 (fun o w' H locs hp hB => ?_)
    obtain ⟨x22, q23, f25, rfl, hq24, rfl⟩ := hp
    refine W.eq (g2 := F0 m 38 ls [.int x22]) rfl ?_
    rw [← hQ]
    exact vx_ret ( end_i hX hB hA3 rfl rfl ⟨x22, r, q23, f25, rfl, (fun h => h), (hq24.trans rfl), rfl⟩ (Nat.le_of_ble_eq_true rfl) (Nat.le_of_ble_eq_true rfl) dX5_multiply_38)
set_option maxHeartbeats 4000000 in
set_option maxRecDepth 100000 in
theorem k_X5_take (κ : Kt) (l : Launch) (hst : l.stackTraces = false) (a : Nat → Nat) (r q : Nat → Int32) (f : Nat → Nat → Int64) (p0 : Int32) (p1 : Int32) (p2 : Int32)  : CX κ l yX5_take cX5_take 7 (some .int) 7 146 3 18 [.ref (a 0), .int p0, .int p1, .int p2] (cw κ a r q f) (fun o w' => ∃ x : Int32, ∃ (r' q' : Nat → Int32) (f' : Nat → Nat → Int64), o = some (.int x) ∧ (okr r → okr r') ∧ q' 4 = q 4 ∧ w' = cw κ a r' q' f') (fun E w' => E ∈ (["java/lang/IndexOutOfBoundsException", "java/lang/IllegalArgumentException"] : List String) ∧ ∃ (r' q' : Nat → Int32) (f' : Nat → Nat → Int64), (okr r → okr r') ∧ q' 4 = q 4 ∧ w' = cw κ a r' q' f') := by
  refine CX_begin (by decide) (Nat.le_of_ble_eq_true rfl) ?_
  intro p e s m args below meth c A Q hX hne hA3 hQ hB ls hl
  have hx := hX.1.1
  have hb := hX.1.2.1
  have hl : lv_has ls 7 [(0, .ref (a 0)), (1, .int p0), (2, .int p1), (3, .int p2)] := hl
  refine lv_aload_n hx hb dX5_take_0 rfl (lv_at hl 0 rfl) ?_
  refine lv_iload_n hx hb dX5_take_1 rfl (lv_at hl 1 rfl) ?_
  refine CX_after2 hX hB (run_XV (n := 1) (As := [.int p0]) (rest := []) hX hB (k_X5_needTable κ l hst a r q f p0) ⟨rfl, by decide, by decide, by decide +kernel⟩ wm_2_165 wm_2_167 wp_17 wm_1_1 wm_2_168 ⟨Nat.le_of_ble_eq_true rfl, Nat.le_of_ble_eq_true rfl⟩ ⟨Nat.le_of_ble_eq_true rfl, Nat.le_of_ble_eq_true rfl⟩ cw0 rfl rfl rfl hl.1 rfl (Nat.le_of_ble_eq_true rfl) dX5_take_2) (fun E ce q9 w' H locs hp hB hce hcv hcl => ?_) (fun o w' H locs hp hB => ?_)
  · obtain ⟨hE1, rfl⟩ := hp
    rw [← hQ]
    exact thrown_on hX hne hB hA3 hce hcv hcl ⟨((by decide : ∀ x ∈ (["java/lang/IndexOutOfBoundsException"] : List String), x ∈ (["java/lang/IndexOutOfBoundsException", "java/lang/IllegalArgumentException"] : List String)) _ hE1), r, q, f, (fun h => h), rfl, rfl⟩ (Nat.le_of_ble_eq_true rfl) (Nat.le_of_ble_eq_true rfl)
  obtain ⟨i3, hi3, rfl, rfl⟩ := hp
  refine W.eq (g2 := F0 m 5 ls [.ref (a (6 + 2 * i3))]) rfl ?_
  refine lv_astore (lv' := [(4, .ref (a (6 + 2 * i3))), (0, .ref (a 0)), (1, .int p0), (2, .int p1), (3, .int p2)]) hx hb dX5_take_5 hl (by decide) rfl (fun ls hl => ?_)
  refine lv_aload_n hx hb dX5_take_7 rfl (lv_at hl 1 rfl) ?_
  refine lv_iload_n hx hb dX5_take_8 rfl (lv_at hl 4 rfl) ?_
  refine CX_after2 hX hB (run_XV (n := 1) (As := [.int p2]) (rest := []) hX hB (k_X5_needTable κ l hst a r q f p2) ⟨rfl, by decide, by decide, by decide +kernel⟩ wm_2_165 wm_2_167 wp_17 wm_1_1 wm_2_168 ⟨Nat.le_of_ble_eq_true rfl, Nat.le_of_ble_eq_true rfl⟩ ⟨Nat.le_of_ble_eq_true rfl, Nat.le_of_ble_eq_true rfl⟩ cw0 rfl rfl rfl hl.1 rfl (Nat.le_of_ble_eq_true rfl) dX5_take_9) (fun E ce q9 w' H locs hp hB hce hcv hcl => ?_) (fun o w' H locs hp hB => ?_)
  · obtain ⟨hE4, rfl⟩ := hp
    rw [← hQ]
    exact thrown_on hX hne hB hA3 hce hcv hcl ⟨((by decide : ∀ x ∈ (["java/lang/IndexOutOfBoundsException"] : List String), x ∈ (["java/lang/IndexOutOfBoundsException", "java/lang/IllegalArgumentException"] : List String)) _ hE4), r, q, f, (fun h => h), rfl, rfl⟩ (Nat.le_of_ble_eq_true rfl) (Nat.le_of_ble_eq_true rfl)
  obtain ⟨i6, hi6, rfl, rfl⟩ := hp
  refine W.eq (g2 := F0 m 12 ls [.ref (a (6 + 2 * i6))]) rfl ?_
  refine lv_astore (lv' := [(5, .ref (a (6 + 2 * i6))), (4, .ref (a (6 + 2 * i3))), (0, .ref (a 0)), (1, .int p0), (2, .int p1), (3, .int p2)]) hx hb dX5_take_12 hl (by decide) rfl (fun ls hl => ?_)
  refine lv_iload_n hx hb dX5_take_14 rfl (lv_at hl 4 rfl) ?_
  refine call_S (n := 1) (As := [.int p1]) (rest := []) hX hB (k_X5_isForm κ l (cw κ a r q f) p1 ) ⟨by decide, by decide, by decide +kernel⟩ wm_3_171 wm_3_172 wm_1_1 wm_3_173 ⟨Nat.le_of_ble_eq_true rfl, Nat.le_of_ble_eq_true rfl⟩ ⟨Nat.le_of_ble_eq_true rfl, Nat.le_of_ble_eq_true rfl⟩ rfl hl.1 rfl (Nat.le_of_ble_eq_true rfl) dX5_take_15 (fun o w' H locs hp hB => ?_)
  obtain ⟨x7, rfl, bx7, hw9⟩ := hp
  rw [hw9] at hB
  refine W.eq (g2 := F0 m 18 ls [.int x7]) rfl ?_
  refine CX_after2 hX hB (run_XS (n := 1) (As := [.int x7]) (rest := []) hX hB (k_X5_needArgument κ l hst a r q f x7) ⟨by decide, by decide, by decide +kernel⟩ wm_3_0 wm_3_1 wm_1_1 wm_3_2 ⟨Nat.le_of_ble_eq_true rfl, Nat.le_of_ble_eq_true rfl⟩ ⟨Nat.le_of_ble_eq_true rfl, Nat.le_of_ble_eq_true rfl⟩ rfl hl.1 rfl (Nat.le_of_ble_eq_true rfl) dX5_take_18) (fun E ce q9 w' H locs hp hB hce hcv hcl => ?_) (fun o w' H locs hp hB => ?_)
  · obtain ⟨hE8, rfl⟩ := hp
    rw [← hQ]
    exact thrown_on hX hne hB hA3 hce hcv hcl ⟨((by decide : ∀ x ∈ (["java/lang/IllegalArgumentException"] : List String), x ∈ (["java/lang/IndexOutOfBoundsException", "java/lang/IllegalArgumentException"] : List String)) _ hE8), r, q, f, (fun h => h), rfl, rfl⟩ (Nat.le_of_ble_eq_true rfl) (Nat.le_of_ble_eq_true rfl)
  obtain ⟨rfl, rfl⟩ := hp
  refine W.eq (g2 := F0 m 21 ls []) rfl ?_
  refine lv_aload_n hx hb dX5_take_21 rfl (lv_at hl 2 rfl) ?_
  refine lv_aload hx hb dX5_take_22 (lv_at hl 1 rfl) ?_
  refine lv_iload_n hx hb dX5_take_24 rfl (lv_at hl 4 rfl) ?_
  refine call_V (n := 2) (As := [.ref (a (6 + 2 * i3)), .int p1]) (rest := []) hX hB (k_X5_findForm κ l a r q f i3 p1 (lt15 hi3)) ⟨rfl, by decide, by decide, by decide +kernel⟩ wm_3_174 wm_3_176 wp_23 wm_1_1 wm_3_177 ⟨Nat.le_of_ble_eq_true rfl, Nat.le_of_ble_eq_true rfl⟩ ⟨Nat.le_of_ble_eq_true rfl, Nat.le_of_ble_eq_true rfl⟩ cw0 rfl rfl rfl hl.1 rfl (Nat.le_of_ble_eq_true rfl) dX5_take_25 (fun o w' H locs hp hB => ?_)
  obtain ⟨r15, q16, f17, ho18, hq19, rfl, hh20⟩ := hp
  rcases hh20 with rfl | ⟨i21, hi21, rfl⟩
  · refine W.eq (g2 := F0 m 28 ls [.null]) rfl ?_
    refine lv_astoreN (lv' := [(6, .null), (5, .ref (a (6 + 2 * i6))), (4, .ref (a (6 + 2 * i3))), (0, .ref (a 0)), (1, .int p0), (2, .int p1), (3, .int p2)]) hx hb dX5_take_28 hl (by decide) rfl (fun ls hl => ?_)
    refine lv_aloadN hx hb dX5_take_30 (lv_at hl 0 rfl) ?_
    refine lv_ifnonnullN hx hb dX5_take_32 ?_
    refine lv_aload_n hx hb dX5_take_35 rfl (lv_at hl 3 rfl) ?_
    refine call_V (n := 0) (As := []) (rest := []) hX hB (k_X5_tellRefused κ l a r15 q16 f17) ⟨rfl, by decide, by decide, by decide +kernel⟩ wm_3_103 wm_3_105 wp_21 wm_1_1 wm_3_106 ⟨Nat.le_of_ble_eq_true rfl, Nat.le_of_ble_eq_true rfl⟩ ⟨Nat.le_of_ble_eq_true rfl, Nat.le_of_ble_eq_true rfl⟩ cw0 rfl rfl rfl hl.1 rfl (Nat.le_of_ble_eq_true rfl) dX5_take_36 (fun o w' H locs hp hB => ?_)
    obtain ⟨x22, q23, f25, rfl, hq24, rfl⟩ := hp
    refine W.eq (g2 := F0 m 39 ls [.int x22]) rfl ?_
    rw [← hQ]
    exact vx_ret ( end_i hX hB hA3 rfl rfl ⟨x22, r15, q23, f25, rfl, (fun h => ho18 ((fun h => h) h)), (hq24.trans (hq19.trans rfl)), rfl⟩ (Nat.le_of_ble_eq_true rfl) (Nat.le_of_ble_eq_true rfl) dX5_take_39)
  · refine W.eq (g2 := F0 m 28 ls [.ref (a (6 + 2 * i21))]) rfl ?_
    refine lv_astore (lv' := [(6, .ref (a (6 + 2 * i21))), (5, .ref (a (6 + 2 * i6))), (4, .ref (a (6 + 2 * i3))), (0, .ref (a 0)), (1, .int p0), (2, .int p1), (3, .int p2)]) hx hb dX5_take_28 hl (by decide) rfl (fun ls hl => ?_)
    refine lv_aload hx hb dX5_take_30 (lv_at hl 0 rfl) ?_
    refine lv_ifnonnull (tgt := 40) hx hb dX5_take_32 (by decide) ?_
    refine lv_aload_n hx hb dX5_take_40 rfl (lv_at hl 3 rfl) ?_
    refine lv_aload hx hb dX5_take_41 (lv_at hl 0 rfl) ?_
    refine lv_aload hx hb dX5_take_43 (lv_at hl 1 rfl) ?_
    refine call_V (n := 2) (As := [.ref (a (6 + 2 * i21)), .ref (a (6 + 2 * i6))]) (rest := []) hX hB (k_X5_settleForm κ l a r15 q16 f17 i21 i6 hi21 (lt15 hi6)) ⟨rfl, by decide, by decide, by decide +kernel⟩ wm_3_153 wm_3_155 wp_22 wm_1_1 wm_3_156 ⟨Nat.le_of_ble_eq_true rfl, Nat.le_of_ble_eq_true rfl⟩ ⟨Nat.le_of_ble_eq_true rfl, Nat.le_of_ble_eq_true rfl⟩ cw0 rfl rfl rfl hl.1 rfl (Nat.le_of_ble_eq_true rfl) dX5_take_45 (fun o w' H locs hp hB => ?_)
    obtain ⟨x26, r27, q29, f31, rfl, ho28, hq30, rfl⟩ := hp
    refine W.eq (g2 := F0 m 48 ls [.int x26]) rfl ?_
    rw [← hQ]
    exact vx_ret ( end_i hX hB hA3 rfl rfl ⟨x26, r27, q29, f31, rfl, (fun h => ho28 ((fun h => ho18 ((fun h => h) h)) h)), (hq30.trans (hq19.trans rfl)), rfl⟩ (Nat.le_of_ble_eq_true rfl) (Nat.le_of_ble_eq_true rfl) dX5_take_48)
set_option maxHeartbeats 4000000 in
set_option maxRecDepth 100000 in
theorem k_X5_solve (κ : Kt) (l : Launch) (hst : l.stackTraces = false) (a : Nat → Nat) (r q : Nat → Int32) (f : Nat → Nat → Int64) (p0 : Int32) (p1 : Int32) (p2 : Int32) (p3 : Int32)  : CX κ l yX5_solve cX5_solve 8 (some .int) 7 122 4 24 [.ref (a 0), .int p0, .int p1, .int p2, .int p3] (cw κ a r q f) (fun o w' => ∃ x : Int32, ∃ (r' q' : Nat → Int32) (f' : Nat → Nat → Int64), o = some (.int x) ∧ (okr r → okr r') ∧ q' 4 = q 4 ∧ w' = cw κ a r' q' f') (fun E w' => E ∈ (["java/lang/IndexOutOfBoundsException"] : List String) ∧ ∃ (r' q' : Nat → Int32) (f' : Nat → Nat → Int64), (okr r → okr r') ∧ q' 4 = q 4 ∧ w' = cw κ a r' q' f') := by
  refine CX_begin (by decide) (Nat.le_of_ble_eq_true rfl) ?_
  intro p e s m args below meth c A Q hX hne hA3 hQ hB ls hl
  have hx := hX.1.1
  have hb := hX.1.2.1
  have hl : lv_has ls 8 [(0, .ref (a 0)), (1, .int p0), (2, .int p1), (3, .int p2), (4, .int p3)] := hl
  refine lv_aload_n hx hb dX5_solve_0 rfl (lv_at hl 0 rfl) ?_
  refine lv_iload_n hx hb dX5_solve_1 rfl (lv_at hl 1 rfl) ?_
  refine CX_after2 hX hB (run_XV (n := 1) (As := [.int p0]) (rest := []) hX hB (k_X5_needTable κ l hst a r q f p0) ⟨rfl, by decide, by decide, by decide +kernel⟩ wm_2_165 wm_2_167 wp_17 wm_1_1 wm_2_168 ⟨Nat.le_of_ble_eq_true rfl, Nat.le_of_ble_eq_true rfl⟩ ⟨Nat.le_of_ble_eq_true rfl, Nat.le_of_ble_eq_true rfl⟩ cw0 rfl rfl rfl hl.1 rfl (Nat.le_of_ble_eq_true rfl) dX5_solve_2) (fun E ce q9 w' H locs hp hB hce hcv hcl => ?_) (fun o w' H locs hp hB => ?_)
  · obtain ⟨hE1, rfl⟩ := hp
    rw [← hQ]
    exact thrown_on hX hne hB hA3 hce hcv hcl ⟨((by decide : ∀ x ∈ (["java/lang/IndexOutOfBoundsException"] : List String), x ∈ (["java/lang/IndexOutOfBoundsException"] : List String)) _ hE1), r, q, f, (fun h => h), rfl, rfl⟩ (Nat.le_of_ble_eq_true rfl) (Nat.le_of_ble_eq_true rfl)
  obtain ⟨i3, hi3, rfl, rfl⟩ := hp
  refine W.eq (g2 := F0 m 5 ls [.ref (a (6 + 2 * i3))]) rfl ?_
  refine lv_astore (lv' := [(5, .ref (a (6 + 2 * i3))), (0, .ref (a 0)), (1, .int p0), (2, .int p1), (3, .int p2), (4, .int p3)]) hx hb dX5_solve_5 hl (by decide) rfl (fun ls hl => ?_)
  refine lv_aload_n hx hb dX5_solve_7 rfl (lv_at hl 1 rfl) ?_
  refine lv_iload_n hx hb dX5_solve_8 rfl (lv_at hl 3 rfl) ?_
  refine CX_after2 hX hB (run_XV (n := 1) (As := [.int p1]) (rest := []) hX hB (k_X5_needTable κ l hst a r q f p1) ⟨rfl, by decide, by decide, by decide +kernel⟩ wm_2_165 wm_2_167 wp_17 wm_1_1 wm_2_168 ⟨Nat.le_of_ble_eq_true rfl, Nat.le_of_ble_eq_true rfl⟩ ⟨Nat.le_of_ble_eq_true rfl, Nat.le_of_ble_eq_true rfl⟩ cw0 rfl rfl rfl hl.1 rfl (Nat.le_of_ble_eq_true rfl) dX5_solve_9) (fun E ce q9 w' H locs hp hB hce hcv hcl => ?_) (fun o w' H locs hp hB => ?_)
  · obtain ⟨hE4, rfl⟩ := hp
    rw [← hQ]
    exact thrown_on hX hne hB hA3 hce hcv hcl ⟨((by decide : ∀ x ∈ (["java/lang/IndexOutOfBoundsException"] : List String), x ∈ (["java/lang/IndexOutOfBoundsException"] : List String)) _ hE4), r, q, f, (fun h => h), rfl, rfl⟩ (Nat.le_of_ble_eq_true rfl) (Nat.le_of_ble_eq_true rfl)
  obtain ⟨i6, hi6, rfl, rfl⟩ := hp
  refine W.eq (g2 := F0 m 12 ls [.ref (a (6 + 2 * i6))]) rfl ?_
  refine lv_astore (lv' := [(6, .ref (a (6 + 2 * i6))), (5, .ref (a (6 + 2 * i3))), (0, .ref (a 0)), (1, .int p0), (2, .int p1), (3, .int p2), (4, .int p3)]) hx hb dX5_solve_12 hl (by decide) rfl (fun ls hl => ?_)
  refine lv_aload_n hx hb dX5_solve_14 rfl (lv_at hl 2 rfl) ?_
  refine lv_iload hx hb dX5_solve_15 (lv_at hl 6 rfl) ?_
  refine CX_after2 hX hB (run_XV (n := 1) (As := [.int p3]) (rest := []) hX hB (k_X5_needTable κ l hst a r q f p3) ⟨rfl, by decide, by decide, by decide +kernel⟩ wm_2_165 wm_2_167 wp_17 wm_1_1 wm_2_168 ⟨Nat.le_of_ble_eq_true rfl, Nat.le_of_ble_eq_true rfl⟩ ⟨Nat.le_of_ble_eq_true rfl, Nat.le_of_ble_eq_true rfl⟩ cw0 rfl rfl rfl hl.1 rfl (Nat.le_of_ble_eq_true rfl) dX5_solve_17) (fun E ce q9 w' H locs hp hB hce hcv hcl => ?_) (fun o w' H locs hp hB => ?_)
  · obtain ⟨hE7, rfl⟩ := hp
    rw [← hQ]
    exact thrown_on hX hne hB hA3 hce hcv hcl ⟨((by decide : ∀ x ∈ (["java/lang/IndexOutOfBoundsException"] : List String), x ∈ (["java/lang/IndexOutOfBoundsException"] : List String)) _ hE7), r, q, f, (fun h => h), rfl, rfl⟩ (Nat.le_of_ble_eq_true rfl) (Nat.le_of_ble_eq_true rfl)
  obtain ⟨i9, hi9, rfl, rfl⟩ := hp
  refine W.eq (g2 := F0 m 20 ls [.ref (a (6 + 2 * i9))]) rfl ?_
  refine lv_astore (lv' := [(7, .ref (a (6 + 2 * i9))), (6, .ref (a (6 + 2 * i6))), (5, .ref (a (6 + 2 * i3))), (0, .ref (a 0)), (1, .int p0), (2, .int p1), (3, .int p2), (4, .int p3)]) hx hb dX5_solve_20 hl (by decide) rfl (fun ls hl => ?_)
  refine lv_aload hx hb dX5_solve_22 (lv_at hl 1 rfl) ?_
  refine lv_iconst (v := 1) hx hb dX5_solve_24 (by decide) ?_
  refine lv_iload_n hx hb dX5_solve_25 rfl (lv_at hl 6 rfl) ?_
  refine call_V (n := 2) (As := [.int 1, .int p2]) (rest := []) hX hB (k_X3_hasLine κ l a r q f i6 1 p2 (lt15 hi6)) ⟨rfl, by decide, by decide, by decide +kernel⟩ wm_3_43 wm_3_44 wm_3_45 wm_1_2 wm_3_46 ⟨Nat.le_of_ble_eq_true rfl, Nat.le_of_ble_eq_true rfl⟩ ⟨Nat.le_of_ble_eq_true rfl, Nat.le_of_ble_eq_true rfl⟩ (cwG (i := i6) (lt15 hi6)) rfl rfl rfl hl.1 rfl (Nat.le_of_ble_eq_true rfl) dX5_solve_26 (fun o w' H locs hp hB => ?_)
  obtain ⟨x10, rfl, bx10, rfl⟩ := hp
  refine W.eq (g2 := F0 m 29 ls [.int x10]) rfl ?_
  refine CX_after2 hX hB (run_XS (n := 1) (As := [.int x10]) (rest := []) hX hB (k_X5_needIndex κ l hst a r q f x10) ⟨by decide, by decide, by decide +kernel⟩ wm_3_47 wm_3_48 wm_1_1 wm_3_49 ⟨Nat.le_of_ble_eq_true rfl, Nat.le_of_ble_eq_true rfl⟩ ⟨Nat.le_of_ble_eq_true rfl, Nat.le_of_ble_eq_true rfl⟩ rfl hl.1 rfl (Nat.le_of_ble_eq_true rfl) dX5_solve_29) (fun E ce q9 w' H locs hp hB hce hcv hcl => ?_) (fun o w' H locs hp hB => ?_)
  · obtain ⟨hE11, rfl⟩ := hp
    rw [← hQ]
    exact thrown_on hX hne hB hA3 hce hcv hcl ⟨((by decide : ∀ x ∈ (["java/lang/IndexOutOfBoundsException"] : List String), x ∈ (["java/lang/IndexOutOfBoundsException"] : List String)) _ hE11), r, q, f, (fun h => h), rfl, rfl⟩ (Nat.le_of_ble_eq_true rfl) (Nat.le_of_ble_eq_true rfl)
  obtain ⟨rfl, rfl⟩ := hp
  refine W.eq (g2 := F0 m 32 ls []) rfl ?_
  refine lv_aload hx hb dX5_solve_32 (lv_at hl 2 rfl) ?_
  refine gfN hX hB (cwG (i := i3) (lt15 hi3)) rfl in3 1 (by decide) wn_1_51 rfl rfl dX5_solve_34 ?_
  refine lv_aload hx hb dX5_solve_37 (lv_at hl 1 rfl) ?_
  refine gfN hX hB (cwG (i := i6) (lt15 hi6)) rfl in3 1 (by decide) wn_1_51 rfl rfl dX5_solve_39 ?_
  refine lv_icmp_eq (tgt := 50) hx hb dX5_solve_42 (by decide) (fun c12 => ?_) (fun c12 => ?_)
  · refine lv_aload_n hx hb dX5_solve_50 rfl (lv_at hl 3 rfl) ?_
    refine gf hX hB cw0 rfl in5 4 (by decide) wm_1_141 rfl rfl dX5_solve_51 ?_
    refine lv_aload hx hb dX5_solve_54 (lv_at hl 2 rfl) ?_
    refine call_V (n := 1) (As := [.ref (a (6 + 2 * i3))]) (rest := []) hX hB (k_X1_walk κ l a r q f i3 (lt15 hi3)) ⟨rfl, by decide, by decide, by decide +kernel⟩ wm_2_72 wm_2_73 wm_2_74 wm_1_4 wm_2_75 ⟨Nat.le_of_ble_eq_true rfl, Nat.le_of_ble_eq_true rfl⟩ ⟨Nat.le_of_ble_eq_true rfl, Nat.le_of_ble_eq_true rfl⟩ cw3 rfl rfl rfl hl.1 rfl (Nat.le_of_ble_eq_true rfl) dX5_solve_56 (fun o w' H locs hp hB => ?_)
    obtain ⟨r13, q15, f17, rfl, ho14, hq16, rfl⟩ := hp
    refine W.eq (g2 := F0 m 59 ls []) rfl ?_
    refine lv_aload_n hx hb dX5_solve_59 rfl (lv_at hl 3 rfl) ?_
    refine gf hX hB cw0 rfl in5 4 (by decide) wm_1_141 rfl rfl dX5_solve_60 ?_
    refine gfN hX hB cw3 rfl in1 3 (by decide) wn_1_105 rfl rfl dX5_solve_63 ?_
    refine lv_if_ne (tgt := 86) hx hb dX5_solve_66 (by decide) (fun c18 => ?_) (fun c18 => ?_)
    · refine lv_aload_n hx hb dX5_solve_86 rfl (lv_at hl 3 rfl) ?_
      refine call_V (n := 0) (As := []) (rest := []) hX hB (k_X5_tellRefused κ l a r13 q15 f17) ⟨rfl, by decide, by decide, by decide +kernel⟩ wm_3_103 wm_3_105 wp_21 wm_1_1 wm_3_106 ⟨Nat.le_of_ble_eq_true rfl, Nat.le_of_ble_eq_true rfl⟩ ⟨Nat.le_of_ble_eq_true rfl, Nat.le_of_ble_eq_true rfl⟩ cw0 rfl rfl rfl hl.1 rfl (Nat.le_of_ble_eq_true rfl) dX5_solve_87 (fun o w' H locs hp hB => ?_)
      obtain ⟨x19, q20, f22, rfl, hq21, rfl⟩ := hp
      refine W.eq (g2 := F0 m 90 ls [.int x19]) rfl ?_
      rw [← hQ]
      exact vx_ret ( end_i hX hB hA3 rfl rfl ⟨x19, r13, q20, f22, rfl, (fun h => ho14 ((fun h => h) h)), (hq21.trans (hq16.trans rfl)), rfl⟩ (Nat.le_of_ble_eq_true rfl) (Nat.le_of_ble_eq_true rfl) dX5_solve_90)
    · refine lv_aload_n hx hb dX5_solve_69 rfl (lv_at hl 3 rfl) ?_
      refine gf hX hB cw0 rfl in5 5 (by decide) wm_1_142 rfl rfl dX5_solve_70 ?_
      refine lv_aload_n hx hb dX5_solve_73 rfl (lv_at hl 3 rfl) ?_
      refine gf hX hB cw0 rfl in5 4 (by decide) wm_1_141 rfl rfl dX5_solve_74 ?_
      refine lv_aload hx hb dX5_solve_77 (lv_at hl 1 rfl) ?_
      refine lv_iload_n hx hb dX5_solve_79 rfl (lv_at hl 6 rfl) ?_
      refine call_V (n := 3) (As := [.ref (a 3), .ref (a (6 + 2 * i6)), .int p2]) (rest := []) hX hB (k_X2_divide κ l a r13 q15 f17 i6 p2 (lt15 hi6)) ⟨rfl, by decide, by decide, by decide +kernel⟩ wm_3_185 wm_3_186 wm_3_187 wm_1_5 wm_3_188 ⟨Nat.le_of_ble_eq_true rfl, Nat.le_of_ble_eq_true rfl⟩ ⟨Nat.le_of_ble_eq_true rfl, Nat.le_of_ble_eq_true rfl⟩ cw4 rfl rfl rfl hl.1 rfl (Nat.le_of_ble_eq_true rfl) dX5_solve_80 (fun o w' H locs hp hB => ?_)
      obtain ⟨x23, r24, q26, f28, rfl, bx23, ho25, hq27, rfl⟩ := hp
      refine W.eq (g2 := F0 m 83 ls [.int x23]) rfl ?_
      refine lv_if_ne (tgt := 91) hx hb dX5_solve_83 (by decide) (fun c29 => ?_) (fun c29 => ?_)
      · refine lv_aload_n hx hb dX5_solve_91 rfl (lv_at hl 3 rfl) ?_
        refine gf hX hB cw0 rfl in5 5 (by decide) wm_1_142 rfl rfl dX5_solve_92 ?_
        refine lv_aload_n hx hb dX5_solve_95 rfl (lv_at hl 3 rfl) ?_
        refine gf hX hB cw0 rfl in5 4 (by decide) wm_1_141 rfl rfl dX5_solve_96 ?_
        refine call_V (n := 1) (As := [.ref (a 3)]) (rest := []) hX hB (k_X2_findSolution κ l a r24 q26 f28) ⟨rfl, by decide, by decide, by decide +kernel⟩ wm_3_203 wm_3_204 wm_3_205 wm_1_5 wm_3_206 ⟨Nat.le_of_ble_eq_true rfl, Nat.le_of_ble_eq_true rfl⟩ ⟨Nat.le_of_ble_eq_true rfl, Nat.le_of_ble_eq_true rfl⟩ cw4 rfl rfl rfl hl.1 rfl (Nat.le_of_ble_eq_true rfl) dX5_solve_99 (fun o w' H locs hp hB => ?_)
        obtain ⟨x30, r31, q33, f35, rfl, bx30, ho32, hq34, rfl⟩ := hp
        refine W.eq (g2 := F0 m 102 ls [.int x30]) rfl ?_
        refine lv_if_ne (tgt := 110) hx hb dX5_solve_102 (by decide) (fun c36 => ?_) (fun c36 => ?_)
        · refine lv_aload_n hx hb dX5_solve_110 rfl (lv_at hl 3 rfl) ?_
          refine lv_aload_n hx hb dX5_solve_111 rfl (lv_at hl 3 rfl) ?_
          refine gf hX hB cw0 rfl in5 5 (by decide) wm_1_142 rfl rfl dX5_solve_112 ?_
          refine gfN hX hB cw4 rfl in2 3 (by decide) wn_1_127 rfl rfl dX5_solve_115 ?_
          refine lv_aload hx hb dX5_solve_118 (lv_at hl 0 rfl) ?_
          refine call_V (n := 2) (As := [.ref (a 34), .ref (a (6 + 2 * i9))]) (rest := []) hX hB (k_X5_settleForm κ l a r31 q33 f35 14 i9 (by decide) (lt15 hi9)) ⟨rfl, by decide, by decide, by decide +kernel⟩ wm_3_153 wm_3_155 wp_22 wm_1_1 wm_3_156 ⟨Nat.le_of_ble_eq_true rfl, Nat.le_of_ble_eq_true rfl⟩ ⟨Nat.le_of_ble_eq_true rfl, Nat.le_of_ble_eq_true rfl⟩ cw0 rfl rfl rfl hl.1 rfl (Nat.le_of_ble_eq_true rfl) dX5_solve_120 (fun o w' H locs hp hB => ?_)
          obtain ⟨x37, r38, q40, f42, rfl, ho39, hq41, rfl⟩ := hp
          refine W.eq (g2 := F0 m 123 ls [.int x37]) rfl ?_
          rw [← hQ]
          exact vx_ret ( end_i hX hB hA3 rfl rfl ⟨x37, r38, q40, f42, rfl, (fun h => ho39 ((fun h => ho32 ((fun h => ho25 ((fun h => ho14 ((fun h => h) h)) h)) h)) h)), (hq41.trans (hq34.trans (hq27.trans (hq16.trans rfl)))), rfl⟩ (Nat.le_of_ble_eq_true rfl) (Nat.le_of_ble_eq_true rfl) dX5_solve_123)
        · refine lv_aload_n hx hb dX5_solve_105 rfl (lv_at hl 3 rfl) ?_
          refine call_V (n := 0) (As := []) (rest := []) hX hB (k_X5_tellRefused κ l a r31 q33 f35) ⟨rfl, by decide, by decide, by decide +kernel⟩ wm_3_103 wm_3_105 wp_21 wm_1_1 wm_3_106 ⟨Nat.le_of_ble_eq_true rfl, Nat.le_of_ble_eq_true rfl⟩ ⟨Nat.le_of_ble_eq_true rfl, Nat.le_of_ble_eq_true rfl⟩ cw0 rfl rfl rfl hl.1 rfl (Nat.le_of_ble_eq_true rfl) dX5_solve_106 (fun o w' H locs hp hB => ?_)
          obtain ⟨x43, q44, f46, rfl, hq45, rfl⟩ := hp
          refine W.eq (g2 := F0 m 109 ls [.int x43]) rfl ?_
          rw [← hQ]
          exact vx_ret ( end_i hX hB hA3 rfl rfl ⟨x43, r31, q44, f46, rfl, (fun h => ho32 ((fun h => ho25 ((fun h => ho14 ((fun h => h) h)) h)) h)), (hq45.trans (hq34.trans (hq27.trans (hq16.trans rfl)))), rfl⟩ (Nat.le_of_ble_eq_true rfl) (Nat.le_of_ble_eq_true rfl) dX5_solve_109)
      · refine lv_aload_n hx hb dX5_solve_86 rfl (lv_at hl 3 rfl) ?_
        refine call_V (n := 0) (As := []) (rest := []) hX hB (k_X5_tellRefused κ l a r24 q26 f28) ⟨rfl, by decide, by decide, by decide +kernel⟩ wm_3_103 wm_3_105 wp_21 wm_1_1 wm_3_106 ⟨Nat.le_of_ble_eq_true rfl, Nat.le_of_ble_eq_true rfl⟩ ⟨Nat.le_of_ble_eq_true rfl, Nat.le_of_ble_eq_true rfl⟩ cw0 rfl rfl rfl hl.1 rfl (Nat.le_of_ble_eq_true rfl) dX5_solve_87 (fun o w' H locs hp hB => ?_)
        obtain ⟨x47, q48, f50, rfl, hq49, rfl⟩ := hp
        refine W.eq (g2 := F0 m 90 ls [.int x47]) rfl ?_
        rw [← hQ]
        exact vx_ret ( end_i hX hB hA3 rfl rfl ⟨x47, r24, q48, f50, rfl, (fun h => ho25 ((fun h => ho14 ((fun h => h) h)) h)), (hq49.trans (hq27.trans (hq16.trans rfl))), rfl⟩ (Nat.le_of_ble_eq_true rfl) (Nat.le_of_ble_eq_true rfl) dX5_solve_90)
  · refine lv_aload_n hx hb dX5_solve_45 rfl (lv_at hl 3 rfl) ?_
    refine call_V (n := 0) (As := []) (rest := []) hX hB (k_X5_tellRefused κ l a r q f) ⟨rfl, by decide, by decide, by decide +kernel⟩ wm_3_103 wm_3_105 wp_21 wm_1_1 wm_3_106 ⟨Nat.le_of_ble_eq_true rfl, Nat.le_of_ble_eq_true rfl⟩ ⟨Nat.le_of_ble_eq_true rfl, Nat.le_of_ble_eq_true rfl⟩ cw0 rfl rfl rfl hl.1 rfl (Nat.le_of_ble_eq_true rfl) dX5_solve_46 (fun o w' H locs hp hB => ?_)
    obtain ⟨x51, q52, f54, rfl, hq53, rfl⟩ := hp
    refine W.eq (g2 := F0 m 49 ls [.int x51]) rfl ?_
    rw [← hQ]
    exact vx_ret ( end_i hX hB hA3 rfl rfl ⟨x51, r, q52, f54, rfl, (fun h => h), (hq53.trans rfl), rfl⟩ (Nat.le_of_ble_eq_true rfl) (Nat.le_of_ble_eq_true rfl) dX5_solve_49)
set_option maxHeartbeats 4000000 in
set_option maxRecDepth 100000 in
theorem k_X5_shape (κ : Kt) (l : Launch) (hst : l.stackTraces = false) (a : Nat → Nat) (r q : Nat → Int32) (f : Nat → Nat → Int64) (p0 : Int32) (p1 : Int32)  : CX κ l yX5_shape cX5_shape 3 (some .int) 7 111 1 6 [.ref (a 0), .int p0, .int p1] (cw κ a r q f) (fun o w' => ∃ x : Int32, ∃ (r' q' : Nat → Int32) (f' : Nat → Nat → Int64), o = some (.int x) ∧ (okr r → okr r') ∧ q' 4 = q 4 ∧ w' = cw κ a r' q' f') (fun E w' => E ∈ (["java/lang/IndexOutOfBoundsException"] : List String) ∧ ∃ (r' q' : Nat → Int32) (f' : Nat → Nat → Int64), (okr r → okr r') ∧ q' 4 = q 4 ∧ w' = cw κ a r' q' f') := by
  refine CX_begin (by decide) (Nat.le_of_ble_eq_true rfl) ?_
  intro p e s m args below meth c A Q hX hne hA3 hQ hB ls hl
  have hx := hX.1.1
  have hb := hX.1.2.1
  have hl : lv_has ls 3 [(0, .ref (a 0)), (1, .int p0), (2, .int p1)] := hl
  refine lv_aload_n hx hb dX5_shape_0 rfl (lv_at hl 0 rfl) ?_
  refine lv_iload_n hx hb dX5_shape_1 rfl (lv_at hl 1 rfl) ?_
  refine CX_after2 hX hB (run_XV (n := 1) (As := [.int p0]) (rest := []) hX hB (k_X5_needTable κ l hst a r q f p0) ⟨rfl, by decide, by decide, by decide +kernel⟩ wm_2_165 wm_2_167 wp_17 wm_1_1 wm_2_168 ⟨Nat.le_of_ble_eq_true rfl, Nat.le_of_ble_eq_true rfl⟩ ⟨Nat.le_of_ble_eq_true rfl, Nat.le_of_ble_eq_true rfl⟩ cw0 rfl rfl rfl hl.1 rfl (Nat.le_of_ble_eq_true rfl) dX5_shape_2) (fun E ce q9 w' H locs hp hB hce hcv hcl => ?_) (fun o w' H locs hp hB => ?_)
  · obtain ⟨hE1, rfl⟩ := hp
    rw [← hQ]
    exact thrown_on hX hne hB hA3 hce hcv hcl ⟨((by decide : ∀ x ∈ (["java/lang/IndexOutOfBoundsException"] : List String), x ∈ (["java/lang/IndexOutOfBoundsException"] : List String)) _ hE1), r, q, f, (fun h => h), rfl, rfl⟩ (Nat.le_of_ble_eq_true rfl) (Nat.le_of_ble_eq_true rfl)
  obtain ⟨i3, hi3, rfl, rfl⟩ := hp
  refine W.eq (g2 := F0 m 5 ls [.ref (a (6 + 2 * i3))]) rfl ?_
  refine lv_iload_n hx hb dX5_shape_5 rfl (lv_at hl 2 rfl) ?_
  refine call_V (n := 1) (As := [.int p1]) (rest := []) hX hB (k_X3_countLines κ l a r q f i3 p1 (lt15 hi3)) ⟨rfl, by decide, by decide, by decide +kernel⟩ wm_3_131 wm_3_132 wm_3_133 wm_1_2 wm_3_134 ⟨Nat.le_of_ble_eq_true rfl, Nat.le_of_ble_eq_true rfl⟩ ⟨Nat.le_of_ble_eq_true rfl, Nat.le_of_ble_eq_true rfl⟩ (cwG (i := i3) (lt15 hi3)) rfl rfl rfl hl.1 rfl (Nat.le_of_ble_eq_true rfl) dX5_shape_6 (fun o w' H locs hp hB => ?_)
  obtain ⟨x4, rfl, rfl⟩ := hp
  refine W.eq (g2 := F0 m 9 ls [.int x4]) rfl ?_
  rw [← hQ]
  exact vx_ret ( end_i hX hB hA3 rfl rfl ⟨x4, r, q, f, rfl, (fun h => h), rfl, rfl⟩ (Nat.le_of_ble_eq_true rfl) (Nat.le_of_ble_eq_true rfl) dX5_shape_9)
set_option maxHeartbeats 4000000 in
set_option maxRecDepth 100000 in
theorem k_X5_at (κ : Kt) (l : Launch) (hst : l.stackTraces = false) (a : Nat → Nat) (r q : Nat → Int32) (f : Nat → Nat → Int64) (p0 : Int32) (p1 : Int32) (p2 : Int32)  : CX κ l yX5_at cX5_at 5 (some .int) 7 111 2 12 [.ref (a 0), .int p0, .int p1, .int p2] (cw κ a r q f) (fun o w' => ∃ x : Int32, ∃ (r' q' : Nat → Int32) (f' : Nat → Nat → Int64), o = some (.int x) ∧ (okr r → okr r') ∧ q' 4 = q 4 ∧ w' = cw κ a r' q' f') (fun E w' => E ∈ (["java/lang/IndexOutOfBoundsException"] : List String) ∧ ∃ (r' q' : Nat → Int32) (f' : Nat → Nat → Int64), (okr r → okr r') ∧ q' 4 = q 4 ∧ w' = cw κ a r' q' f') := by
  refine CX_begin (by decide) (Nat.le_of_ble_eq_true rfl) ?_
  intro p e s m args below meth c A Q hX hne hA3 hQ hB ls hl
  have hx := hX.1.1
  have hb := hX.1.2.1
  have hl : lv_has ls 5 [(0, .ref (a 0)), (1, .int p0), (2, .int p1), (3, .int p2)] := hl
  refine lv_aload_n hx hb dX5_at_0 rfl (lv_at hl 0 rfl) ?_
  refine lv_iload_n hx hb dX5_at_1 rfl (lv_at hl 1 rfl) ?_
  refine CX_after2 hX hB (run_XV (n := 1) (As := [.int p0]) (rest := []) hX hB (k_X5_needTable κ l hst a r q f p0) ⟨rfl, by decide, by decide, by decide +kernel⟩ wm_2_165 wm_2_167 wp_17 wm_1_1 wm_2_168 ⟨Nat.le_of_ble_eq_true rfl, Nat.le_of_ble_eq_true rfl⟩ ⟨Nat.le_of_ble_eq_true rfl, Nat.le_of_ble_eq_true rfl⟩ cw0 rfl rfl rfl hl.1 rfl (Nat.le_of_ble_eq_true rfl) dX5_at_2) (fun E ce q9 w' H locs hp hB hce hcv hcl => ?_) (fun o w' H locs hp hB => ?_)
  · obtain ⟨hE1, rfl⟩ := hp
    rw [← hQ]
    exact thrown_on hX hne hB hA3 hce hcv hcl ⟨((by decide : ∀ x ∈ (["java/lang/IndexOutOfBoundsException"] : List String), x ∈ (["java/lang/IndexOutOfBoundsException"] : List String)) _ hE1), r, q, f, (fun h => h), rfl, rfl⟩ (Nat.le_of_ble_eq_true rfl) (Nat.le_of_ble_eq_true rfl)
  obtain ⟨i3, hi3, rfl, rfl⟩ := hp
  refine W.eq (g2 := F0 m 5 ls [.ref (a (6 + 2 * i3))]) rfl ?_
  refine lv_astore (lv' := [(4, .ref (a (6 + 2 * i3))), (0, .ref (a 0)), (1, .int p0), (2, .int p1), (3, .int p2)]) hx hb dX5_at_5 hl (by decide) rfl (fun ls hl => ?_)
  refine lv_aload hx hb dX5_at_7 (lv_at hl 0 rfl) ?_
  refine lv_iconst (v := 0) hx hb dX5_at_9 (by decide) ?_
  refine lv_iload_n hx hb dX5_at_10 rfl (lv_at hl 3 rfl) ?_
  refine call_V (n := 2) (As := [.int 0, .int p1]) (rest := []) hX hB (k_X3_hasLine κ l a r q f i3 0 p1 (lt15 hi3)) ⟨rfl, by decide, by decide, by decide +kernel⟩ wm_3_43 wm_3_44 wm_3_45 wm_1_2 wm_3_46 ⟨Nat.le_of_ble_eq_true rfl, Nat.le_of_ble_eq_true rfl⟩ ⟨Nat.le_of_ble_eq_true rfl, Nat.le_of_ble_eq_true rfl⟩ (cwG (i := i3) (lt15 hi3)) rfl rfl rfl hl.1 rfl (Nat.le_of_ble_eq_true rfl) dX5_at_11 (fun o w' H locs hp hB => ?_)
  obtain ⟨x4, rfl, bx4, rfl⟩ := hp
  refine W.eq (g2 := F0 m 14 ls [.int x4]) rfl ?_
  have jn32 : ∀ (z0_32 : Int32) (H : Heap) (locs : List Loc), z0_32 = 0 ∨ z0_32 = 1 → Bd κ A s (cw κ a r q f) H locs → ∀ ls : Array Slot, lv_has ls 5 [(4, .ref (a (6 + 2 * i3))), (0, .ref (a 0)), (1, .int p0), (2, .int p1), (3, .int p2)] → W p l e (Rm 7 111 2 12) s m args below meth c H locs 1 6 Q (F0 m 32 ls [.int z0_32]) := by
    intro z0_32 H locs hz0_32 hB ls hl
    refine CX_after2 hX hB (run_XS (n := 1) (As := [.int z0_32]) (rest := []) hX hB (k_X5_needIndex κ l hst a r q f z0_32) ⟨by decide, by decide, by decide +kernel⟩ wm_3_47 wm_3_48 wm_1_1 wm_3_49 ⟨Nat.le_of_ble_eq_true rfl, Nat.le_of_ble_eq_true rfl⟩ ⟨Nat.le_of_ble_eq_true rfl, Nat.le_of_ble_eq_true rfl⟩ rfl hl.1 rfl (Nat.le_of_ble_eq_true rfl) dX5_at_32) (fun E ce q9 w' H locs hp hB hce hcv hcl => ?_) (fun o w' H locs hp hB => ?_)
    · obtain ⟨hE8, rfl⟩ := hp
      rw [← hQ]
      exact thrown_on hX hne hB hA3 hce hcv hcl ⟨((by decide : ∀ x ∈ (["java/lang/IndexOutOfBoundsException"] : List String), x ∈ (["java/lang/IndexOutOfBoundsException"] : List String)) _ hE8), r, q, f, (fun h => h), rfl, rfl⟩ (Nat.le_of_ble_eq_true rfl) (Nat.le_of_ble_eq_true rfl)
    obtain ⟨rfl, rfl⟩ := hp
    refine W.eq (g2 := F0 m 35 ls []) rfl ?_
    refine lv_aload hx hb dX5_at_35 (lv_at hl 0 rfl) ?_
    refine lv_iload_n hx hb dX5_at_37 rfl (lv_at hl 3 rfl) ?_
    refine lv_iload_n hx hb dX5_at_38 rfl (lv_at hl 4 rfl) ?_
    refine call_V (n := 2) (As := [.int p1, .int p2]) (rest := []) hX hB (k_X3_get κ l a r q f i3 p1 p2 (lt15 hi3)) ⟨rfl, by decide, by decide, by decide +kernel⟩ wm_2_123 wm_1_187 wm_1_188 wm_1_2 wm_1_189 ⟨Nat.le_of_ble_eq_true rfl, Nat.le_of_ble_eq_true rfl⟩ ⟨Nat.le_of_ble_eq_true rfl, Nat.le_of_ble_eq_true rfl⟩ (cwG (i := i3) (lt15 hi3)) rfl rfl rfl hl.1 rfl (Nat.le_of_ble_eq_true rfl) dX5_at_39 (fun o w' H locs hp hB => ?_)
    obtain ⟨x9, rfl, rfl⟩ := hp
    refine W.eq (g2 := F0 m 42 ls [.long x9]) rfl ?_
    refine lv_l2i hx hb dX5_at_42 rfl ?_
    rw [← hQ]
    exact vx_ret ( end_i hX hB hA3 rfl rfl ⟨((x9).toInt32), r, q, f, rfl, (fun h => h), rfl, rfl⟩ (Nat.le_of_ble_eq_true rfl) (Nat.le_of_ble_eq_true rfl) dX5_at_43)
  refine lv_if_eq (tgt := 31) hx hb dX5_at_14 (by decide) (fun c10 => ?_) (fun c10 => ?_)
  · refine lv_iconst (v := 0) hx hb dX5_at_31 (by decide) ?_
    exact jn32 0 _ _ (Or.inl rfl) hB _ hl
  · refine lv_aload hx hb dX5_at_17 (lv_at hl 0 rfl) ?_
    refine lv_iconst (v := 1) hx hb dX5_at_19 (by decide) ?_
    refine lv_iload_n hx hb dX5_at_20 rfl (lv_at hl 4 rfl) ?_
    refine call_V (n := 2) (As := [.int 1, .int p2]) (rest := []) hX hB (k_X3_hasLine κ l a r q f i3 1 p2 (lt15 hi3)) ⟨rfl, by decide, by decide, by decide +kernel⟩ wm_3_43 wm_3_44 wm_3_45 wm_1_2 wm_3_46 ⟨Nat.le_of_ble_eq_true rfl, Nat.le_of_ble_eq_true rfl⟩ ⟨Nat.le_of_ble_eq_true rfl, Nat.le_of_ble_eq_true rfl⟩ (cwG (i := i3) (lt15 hi3)) rfl rfl rfl hl.1 rfl (Nat.le_of_ble_eq_true rfl) dX5_at_21 (fun o w' H locs hp hB => ?_)
    obtain ⟨x11, rfl, bx11, rfl⟩ := hp
    refine W.eq (g2 := F0 m 24 ls [.int x11]) rfl ?_
    refine lv_if_eq (tgt := 31) hx hb dX5_at_24 (by decide) (fun c12 => ?_) (fun c12 => ?_)
    · refine lv_iconst (v := 0) hx hb dX5_at_31 (by decide) ?_
      exact jn32 0 _ _ (Or.inl rfl) hB _ hl
    · refine lv_iconst (v := 1) hx hb dX5_at_27 (by decide) ?_
      refine lv_goto (tgt := 32) hx hb dX5_at_28 (by decide) ?_
      exact jn32 1 _ _ (Or.inr rfl) hB _ hl
set_option maxHeartbeats 4000000 in
set_option maxRecDepth 100000 in
theorem k_X5_isSame (κ : Kt) (l : Launch) (hst : l.stackTraces = false) (a : Nat → Nat) (r q : Nat → Int32) (f : Nat → Nat → Int64) (p0 : Int32) (p1 : Int32)  : CX κ l yX5_isSame cX5_isSame 5 (some .boolean) 7 111 2 12 [.ref (a 0), .int p0, .int p1] (cw κ a r q f) (fun o w' => ∃ x : Int32, ∃ (r' q' : Nat → Int32) (f' : Nat → Nat → Int64), o = some (.int x) ∧ (x = 0 ∨ x = 1) ∧ (okr r → okr r') ∧ q' 4 = q 4 ∧ w' = cw κ a r' q' f') (fun E w' => E ∈ (["java/lang/IndexOutOfBoundsException"] : List String) ∧ ∃ (r' q' : Nat → Int32) (f' : Nat → Nat → Int64), (okr r → okr r') ∧ q' 4 = q 4 ∧ w' = cw κ a r' q' f') := by
  refine CX_begin (by decide) (Nat.le_of_ble_eq_true rfl) ?_
  intro p e s m args below meth c A Q hX hne hA3 hQ hB ls hl
  have hx := hX.1.1
  have hb := hX.1.2.1
  have hl : lv_has ls 5 [(0, .ref (a 0)), (1, .int p0), (2, .int p1)] := hl
  refine lv_aload_n hx hb dX5_isSame_0 rfl (lv_at hl 0 rfl) ?_
  refine lv_iload_n hx hb dX5_isSame_1 rfl (lv_at hl 1 rfl) ?_
  refine CX_after2 hX hB (run_XV (n := 1) (As := [.int p0]) (rest := []) hX hB (k_X5_needTable κ l hst a r q f p0) ⟨rfl, by decide, by decide, by decide +kernel⟩ wm_2_165 wm_2_167 wp_17 wm_1_1 wm_2_168 ⟨Nat.le_of_ble_eq_true rfl, Nat.le_of_ble_eq_true rfl⟩ ⟨Nat.le_of_ble_eq_true rfl, Nat.le_of_ble_eq_true rfl⟩ cw0 rfl rfl rfl hl.1 rfl (Nat.le_of_ble_eq_true rfl) dX5_isSame_2) (fun E ce q9 w' H locs hp hB hce hcv hcl => ?_) (fun o w' H locs hp hB => ?_)
  · obtain ⟨hE1, rfl⟩ := hp
    rw [← hQ]
    exact thrown_on hX hne hB hA3 hce hcv hcl ⟨((by decide : ∀ x ∈ (["java/lang/IndexOutOfBoundsException"] : List String), x ∈ (["java/lang/IndexOutOfBoundsException"] : List String)) _ hE1), r, q, f, (fun h => h), rfl, rfl⟩ (Nat.le_of_ble_eq_true rfl) (Nat.le_of_ble_eq_true rfl)
  obtain ⟨i3, hi3, rfl, rfl⟩ := hp
  refine W.eq (g2 := F0 m 5 ls [.ref (a (6 + 2 * i3))]) rfl ?_
  refine lv_astore_n (lv' := [(3, .ref (a (6 + 2 * i3))), (0, .ref (a 0)), (1, .int p0), (2, .int p1)]) hx hb dX5_isSame_5 rfl hl (by decide) rfl (fun ls hl => ?_)
  refine lv_aload_n hx hb dX5_isSame_6 rfl (lv_at hl 1 rfl) ?_
  refine lv_iload_n hx hb dX5_isSame_7 rfl (lv_at hl 3 rfl) ?_
  refine CX_after2 hX hB (run_XV (n := 1) (As := [.int p1]) (rest := []) hX hB (k_X5_needTable κ l hst a r q f p1) ⟨rfl, by decide, by decide, by decide +kernel⟩ wm_2_165 wm_2_167 wp_17 wm_1_1 wm_2_168 ⟨Nat.le_of_ble_eq_true rfl, Nat.le_of_ble_eq_true rfl⟩ ⟨Nat.le_of_ble_eq_true rfl, Nat.le_of_ble_eq_true rfl⟩ cw0 rfl rfl rfl hl.1 rfl (Nat.le_of_ble_eq_true rfl) dX5_isSame_8) (fun E ce q9 w' H locs hp hB hce hcv hcl => ?_) (fun o w' H locs hp hB => ?_)
  · obtain ⟨hE4, rfl⟩ := hp
    rw [← hQ]
    exact thrown_on hX hne hB hA3 hce hcv hcl ⟨((by decide : ∀ x ∈ (["java/lang/IndexOutOfBoundsException"] : List String), x ∈ (["java/lang/IndexOutOfBoundsException"] : List String)) _ hE4), r, q, f, (fun h => h), rfl, rfl⟩ (Nat.le_of_ble_eq_true rfl) (Nat.le_of_ble_eq_true rfl)
  obtain ⟨i6, hi6, rfl, rfl⟩ := hp
  refine W.eq (g2 := F0 m 11 ls [.ref (a (6 + 2 * i6))]) rfl ?_
  refine lv_astore (lv' := [(4, .ref (a (6 + 2 * i6))), (3, .ref (a (6 + 2 * i3))), (0, .ref (a 0)), (1, .int p0), (2, .int p1)]) hx hb dX5_isSame_11 hl (by decide) rfl (fun ls hl => ?_)
  refine lv_aload_n hx hb dX5_isSame_13 rfl (lv_at hl 1 rfl) ?_
  refine lv_aload hx hb dX5_isSame_14 (lv_at hl 0 rfl) ?_
  refine call_V (n := 1) (As := [.ref (a (6 + 2 * i6))]) (rest := []) hX hB (k_X3_isLike κ l a r q f i3 i6 (lt15 hi3) (lt15 hi6)) ⟨rfl, by decide, by decide, by decide +kernel⟩ wm_2_44 wm_2_45 wm_2_46 wm_1_2 wm_2_47 ⟨Nat.le_of_ble_eq_true rfl, Nat.le_of_ble_eq_true rfl⟩ ⟨Nat.le_of_ble_eq_true rfl, Nat.le_of_ble_eq_true rfl⟩ (cwG (i := i3) (lt15 hi3)) rfl rfl rfl hl.1 rfl (Nat.le_of_ble_eq_true rfl) dX5_isSame_16 (fun o w' H locs hp hB => ?_)
  obtain ⟨x7, rfl, bx7, rfl⟩ := hp
  refine W.eq (g2 := F0 m 19 ls [.int x7]) rfl ?_
  rw [← hQ]
  exact vx_ret ( end_i hX hB hA3 rfl (nbz (by assumption)) ⟨x7, r, q, f, rfl, (by assumption), (fun h => h), rfl, rfl⟩ (Nat.le_of_ble_eq_true rfl) (Nat.le_of_ble_eq_true rfl) dX5_isSame_19)
set_option maxHeartbeats 4000000 in
set_option maxRecDepth 100000 in
theorem k_X5_determinant (κ : Kt) (l : Launch) (hst : l.stackTraces = false) (a : Nat → Nat) (r q : Nat → Int32) (f : Nat → Nat → Int64) (p0 : Int32) (p1 : Int32)  : CX κ l yX5_determinant cX5_determinant 4 (some .int) 7 188 4 24 [.ref (a 0), .int p0, .int p1] (cw κ a r q f) (fun o w' => ∃ x : Int32, ∃ (r' q' : Nat → Int32) (f' : Nat → Nat → Int64), o = some (.int x) ∧ (okr r → okr r') ∧ q' 4 = q 4 ∧ w' = cw κ a r' q' f') (fun E w' => E ∈ (["java/lang/IndexOutOfBoundsException", "java/lang/IllegalArgumentException", "java/lang/IllegalStateException"] : List String) ∧ ∃ (r' q' : Nat → Int32) (f' : Nat → Nat → Int64), (okr r → okr r') ∧ q' 4 = q 4 ∧ w' = cw κ a r' q' f') := by
  refine CX_begin (by decide) (Nat.le_of_ble_eq_true rfl) ?_
  intro p e s m args below meth c A Q hX hne hA3 hQ hB ls hl
  have hx := hX.1.1
  have hb := hX.1.2.1
  have hl : lv_has ls 4 [(0, .ref (a 0)), (1, .int p0), (2, .int p1)] := hl
  refine lv_aload_n hx hb dX5_determinant_0 rfl (lv_at hl 0 rfl) ?_
  refine lv_iload_n hx hb dX5_determinant_1 rfl (lv_at hl 1 rfl) ?_
  refine CX_after2 hX hB (run_XV (n := 1) (As := [.int p0]) (rest := []) hX hB (k_X5_needTable κ l hst a r q f p0) ⟨rfl, by decide, by decide, by decide +kernel⟩ wm_2_165 wm_2_167 wp_17 wm_1_1 wm_2_168 ⟨Nat.le_of_ble_eq_true rfl, Nat.le_of_ble_eq_true rfl⟩ ⟨Nat.le_of_ble_eq_true rfl, Nat.le_of_ble_eq_true rfl⟩ cw0 rfl rfl rfl hl.1 rfl (Nat.le_of_ble_eq_true rfl) dX5_determinant_2) (fun E ce q9 w' H locs hp hB hce hcv hcl => ?_) (fun o w' H locs hp hB => ?_)
  · obtain ⟨hE1, rfl⟩ := hp
    rw [← hQ]
    exact thrown_on hX hne hB hA3 hce hcv hcl ⟨((by decide : ∀ x ∈ (["java/lang/IndexOutOfBoundsException"] : List String), x ∈ (["java/lang/IndexOutOfBoundsException", "java/lang/IllegalArgumentException", "java/lang/IllegalStateException"] : List String)) _ hE1), r, q, f, (fun h => h), rfl, rfl⟩ (Nat.le_of_ble_eq_true rfl) (Nat.le_of_ble_eq_true rfl)
  obtain ⟨i3, hi3, rfl, rfl⟩ := hp
  refine W.eq (g2 := F0 m 5 ls [.ref (a (6 + 2 * i3))]) rfl ?_
  refine lv_astore_n (lv' := [(3, .ref (a (6 + 2 * i3))), (0, .ref (a 0)), (1, .int p0), (2, .int p1)]) hx hb dX5_determinant_5 rfl hl (by decide) rfl (fun ls hl => ?_)
  refine lv_iload_n hx hb dX5_determinant_6 rfl (lv_at hl 3 rfl) ?_
  have jn20 : ∀ (z0_20 : Int32) (H : Heap) (locs : List Loc), z0_20 = 0 ∨ z0_20 = 1 → Bd κ A s (cw κ a r q f) H locs → ∀ ls : Array Slot, lv_has ls 4 [(3, .ref (a (6 + 2 * i3))), (0, .ref (a 0)), (1, .int p0), (2, .int p1)] → W p l e (Rm 7 188 4 24) s m args below meth c H locs 1 6 Q (F0 m 20 ls [.int z0_20]) := by
    intro z0_20 H locs hz0_20 hB ls hl
    refine CX_after2 hX hB (run_XS (n := 1) (As := [.int z0_20]) (rest := []) hX hB (k_X5_needArgument κ l hst a r q f z0_20) ⟨by decide, by decide, by decide +kernel⟩ wm_3_0 wm_3_1 wm_1_1 wm_3_2 ⟨Nat.le_of_ble_eq_true rfl, Nat.le_of_ble_eq_true rfl⟩ ⟨Nat.le_of_ble_eq_true rfl, Nat.le_of_ble_eq_true rfl⟩ rfl hl.1 rfl (Nat.le_of_ble_eq_true rfl) dX5_determinant_20) (fun E ce q9 w' H locs hp hB hce hcv hcl => ?_) (fun o w' H locs hp hB => ?_)
    · obtain ⟨hE6, rfl⟩ := hp
      rw [← hQ]
      exact thrown_on hX hne hB hA3 hce hcv hcl ⟨((by decide : ∀ x ∈ (["java/lang/IllegalArgumentException"] : List String), x ∈ (["java/lang/IndexOutOfBoundsException", "java/lang/IllegalArgumentException", "java/lang/IllegalStateException"] : List String)) _ hE6), r, q, f, (fun h => h), rfl, rfl⟩ (Nat.le_of_ble_eq_true rfl) (Nat.le_of_ble_eq_true rfl)
    obtain ⟨rfl, rfl⟩ := hp
    refine W.eq (g2 := F0 m 23 ls []) rfl ?_
    refine lv_aload_n hx hb dX5_determinant_23 rfl (lv_at hl 0 rfl) ?_
    refine gfN hX hB (cwG (i := i3) (lt15 hi3)) rfl in3 1 (by decide) wn_1_51 rfl rfl dX5_determinant_24 ?_
    refine lv_aload_n hx hb dX5_determinant_27 rfl (lv_at hl 0 rfl) ?_
    refine gfN hX hB (cwG (i := i3) (lt15 hi3)) rfl in3 2 (by decide) wn_1_57 rfl rfl dX5_determinant_28 ?_
    have jn39 : ∀ (z0_39 : Int32) (H : Heap) (locs : List Loc), z0_39 = 0 ∨ z0_39 = 1 → Bd κ A s (cw κ a r q f) H locs → ∀ ls : Array Slot, lv_has ls 4 [(3, .ref (a (6 + 2 * i3))), (0, .ref (a 0)), (1, .int p0), (2, .int p1)] → W p l e (Rm 7 188 4 24) s m args below meth c H locs 2 12 Q (F0 m 39 ls [.int z0_39]) := by
      intro z0_39 H locs hz0_39 hB ls hl
      refine CX_after2 hX hB (run_XS (n := 1) (As := [.int z0_39]) (rest := []) hX hB (k_X5_needState κ l hst a r q f z0_39) ⟨by decide, by decide, by decide +kernel⟩ wm_5_26 wm_5_27 wm_1_1 wm_5_28 ⟨Nat.le_of_ble_eq_true rfl, Nat.le_of_ble_eq_true rfl⟩ ⟨Nat.le_of_ble_eq_true rfl, Nat.le_of_ble_eq_true rfl⟩ rfl hl.1 rfl (Nat.le_of_ble_eq_true rfl) dX5_determinant_39) (fun E ce q9 w' H locs hp hB hce hcv hcl => ?_) (fun o w' H locs hp hB => ?_)
      · obtain ⟨hE8, rfl⟩ := hp
        rw [← hQ]
        exact thrown_on hX hne hB hA3 hce hcv hcl ⟨((by decide : ∀ x ∈ (["java/lang/IllegalStateException"] : List String), x ∈ (["java/lang/IndexOutOfBoundsException", "java/lang/IllegalArgumentException", "java/lang/IllegalStateException"] : List String)) _ hE8), r, q, f, (fun h => h), rfl, rfl⟩ (Nat.le_of_ble_eq_true rfl) (Nat.le_of_ble_eq_true rfl)
      obtain ⟨rfl, rfl⟩ := hp
      refine W.eq (g2 := F0 m 42 ls []) rfl ?_
      refine lv_iload_n hx hb dX5_determinant_42 rfl (lv_at hl 3 rfl) ?_
      refine lv_if_ne (tgt := 52) hx hb dX5_determinant_43 (by decide) (fun c9 => ?_) (fun c9 => ?_)
      · refine lv_iload_n hx hb dX5_determinant_52 rfl (lv_at hl 3 rfl) ?_
        refine lv_iconst (v := 1) hx hb dX5_determinant_53 (by decide) ?_
        refine lv_icmp_ne (tgt := 65) hx hb dX5_determinant_54 (by decide) (fun c10 => ?_) (fun c10 => ?_)
        · refine lv_aload_n hx hb dX5_determinant_65 rfl (lv_at hl 1 rfl) ?_
          refine gf hX hB cw0 rfl in5 3 (by decide) wm_1_140 rfl rfl dX5_determinant_66 ?_
          refine lv_aload_n hx hb dX5_determinant_69 rfl (lv_at hl 0 rfl) ?_
          refine call_V (n := 1) (As := [.ref (a (6 + 2 * i3))]) (rest := []) hX hB (k_X4_walk κ l a r q f i3 (lt15 hi3)) ⟨rfl, by decide, by decide, by decide +kernel⟩ wm_1_200 wm_1_201 wm_1_202 wm_1_3 wm_1_203 ⟨Nat.le_of_ble_eq_true rfl, Nat.le_of_ble_eq_true rfl⟩ ⟨Nat.le_of_ble_eq_true rfl, Nat.le_of_ble_eq_true rfl⟩ cw2 rfl rfl rfl hl.1 rfl (Nat.le_of_ble_eq_true rfl) dX5_determinant_70 (fun o w' H locs hp hB => ?_)
          obtain ⟨r11, q13, f15, rfl, ho12, hq14, rfl⟩ := hp
          refine W.eq (g2 := F0 m 73 ls []) rfl ?_
          refine lv_aload_n hx hb dX5_determinant_73 rfl (lv_at hl 1 rfl) ?_
          refine gf hX hB cw0 rfl in5 3 (by decide) wm_1_140 rfl rfl dX5_determinant_74 ?_
          refine gfN hX hB cw2 rfl in4 2 (by decide) wn_1_79 rfl rfl dX5_determinant_77 ?_
          have jn88 : ∀ (z0_88 : Int32) (H : Heap) (locs : List Loc), z0_88 = 0 ∨ z0_88 = 1 → Bd κ A s (cw κ a r11 q13 f15) H locs → ∀ ls : Array Slot, lv_has ls 4 [(3, .ref (a (6 + 2 * i3))), (0, .ref (a 0)), (1, .int p0), (2, .int p1)] → W p l e (Rm 7 188 4 24) s m args below meth c H locs 3 18 Q (F0 m 88 ls [.int z0_88]) := by
            intro z0_88 H locs hz0_88 hB ls hl
            refine CX_after2 hX hB (run_XS (n := 1) (As := [.int z0_88]) (rest := []) hX hB (k_X5_needState κ l hst a r11 q13 f15 z0_88) ⟨by decide, by decide, by decide +kernel⟩ wm_5_26 wm_5_27 wm_1_1 wm_5_28 ⟨Nat.le_of_ble_eq_true rfl, Nat.le_of_ble_eq_true rfl⟩ ⟨Nat.le_of_ble_eq_true rfl, Nat.le_of_ble_eq_true rfl⟩ rfl hl.1 rfl (Nat.le_of_ble_eq_true rfl) dX5_determinant_88) (fun E ce q9 w' H locs hp hB hce hcv hcl => ?_) (fun o w' H locs hp hB => ?_)
            · obtain ⟨hE17, rfl⟩ := hp
              rw [← hQ]
              exact thrown_on hX hne hB hA3 hce hcv hcl ⟨((by decide : ∀ x ∈ (["java/lang/IllegalStateException"] : List String), x ∈ (["java/lang/IndexOutOfBoundsException", "java/lang/IllegalArgumentException", "java/lang/IllegalStateException"] : List String)) _ hE17), r11, q13, f15, (fun h => ho12 ((fun h => h) h)), (hq14.trans rfl), rfl⟩ (Nat.le_of_ble_eq_true rfl) (Nat.le_of_ble_eq_true rfl)
            obtain ⟨rfl, rfl⟩ := hp
            refine W.eq (g2 := F0 m 91 ls []) rfl ?_
            refine lv_aload_n hx hb dX5_determinant_91 rfl (lv_at hl 1 rfl) ?_
            refine gf hX hB cw0 rfl in5 3 (by decide) wm_1_140 rfl rfl dX5_determinant_92 ?_
            refine call_V (n := 0) (As := []) (rest := []) hX hB (k_X4_findDeterminant κ l a r11 q13 f15) ⟨rfl, by decide, by decide, by decide +kernel⟩ wm_2_67 wm_2_68 wm_2_69 wm_1_3 wm_2_70 ⟨Nat.le_of_ble_eq_true rfl, Nat.le_of_ble_eq_true rfl⟩ ⟨Nat.le_of_ble_eq_true rfl, Nat.le_of_ble_eq_true rfl⟩ cw2 rfl rfl rfl hl.1 rfl (Nat.le_of_ble_eq_true rfl) dX5_determinant_95 (fun o w' H locs hp hB => ?_)
            obtain ⟨x18, rfl, rfl⟩ := hp
            refine W.eq (g2 := F0 m 98 ls [.long x18]) rfl ?_
            refine lv_l2i hx hb dX5_determinant_98 rfl ?_
            rw [← hQ]
            exact vx_ret ( end_i hX hB hA3 rfl rfl ⟨((x18).toInt32), r11, q13, f15, rfl, (fun h => ho12 ((fun h => h) h)), (hq14.trans rfl), rfl⟩ (Nat.le_of_ble_eq_true rfl) (Nat.le_of_ble_eq_true rfl) dX5_determinant_99)
          refine lv_if_ne (tgt := 87) hx hb dX5_determinant_80 (by decide) (fun c19 => ?_) (fun c19 => ?_)
          · refine lv_iconst (v := 0) hx hb dX5_determinant_87 (by decide) ?_
            exact jn88 0 _ _ (Or.inl rfl) hB _ hl
          · refine lv_iconst (v := 1) hx hb dX5_determinant_83 (by decide) ?_
            refine lv_goto (tgt := 88) hx hb dX5_determinant_84 (by decide) ?_
            exact jn88 1 _ _ (Or.inr rfl) hB _ hl
        · refine lv_aload_n hx hb dX5_determinant_57 rfl (lv_at hl 0 rfl) ?_
          refine lv_iconst (v := 0) hx hb dX5_determinant_58 (by decide) ?_
          refine lv_iconst (v := 0) hx hb dX5_determinant_59 (by decide) ?_
          refine call_S (n := 3) (As := [.ref (a (6 + 2 * i3)), .int 0, .int 0]) (rest := []) hX hB (k_X0_bySequences_4 κ l a r q f i3 0 0 (lt15 hi3) (by decide)) ⟨by decide, by decide, by decide +kernel⟩ wm_1_190 wm_1_191 wm_1_29 wm_1_192 ⟨Nat.le_of_ble_eq_true rfl, Nat.le_of_ble_eq_true rfl⟩ ⟨Nat.le_of_ble_eq_true rfl, Nat.le_of_ble_eq_true rfl⟩ rfl hl.1 rfl (Nat.le_of_ble_eq_true rfl) dX5_determinant_60 (fun o w' H locs hp hB => ?_)
          obtain ⟨x20, rfl, rfl⟩ := hp
          refine W.eq (g2 := F0 m 63 ls [.long x20]) rfl ?_
          refine lv_l2i hx hb dX5_determinant_63 rfl ?_
          rw [← hQ]
          exact vx_ret ( end_i hX hB hA3 rfl rfl ⟨((x20).toInt32), r, q, f, rfl, (fun h => h), rfl, rfl⟩ (Nat.le_of_ble_eq_true rfl) (Nat.le_of_ble_eq_true rfl) dX5_determinant_64)
      · refine lv_aload_n hx hb dX5_determinant_46 rfl (lv_at hl 0 rfl) ?_
        refine call_S (n := 1) (As := [.ref (a (6 + 2 * i3))]) (rest := []) hX hB (k_X0_byFirstRow κ l a r q f i3 (lt15 hi3)) ⟨by decide, by decide, by decide +kernel⟩ wm_1_180 wm_1_181 wm_1_29 wm_1_182 ⟨Nat.le_of_ble_eq_true rfl, Nat.le_of_ble_eq_true rfl⟩ ⟨Nat.le_of_ble_eq_true rfl, Nat.le_of_ble_eq_true rfl⟩ rfl hl.1 rfl (Nat.le_of_ble_eq_true rfl) dX5_determinant_47 (fun o w' H locs hp hB => ?_)
        obtain ⟨x21, rfl, rfl⟩ := hp
        refine W.eq (g2 := F0 m 50 ls [.long x21]) rfl ?_
        refine lv_l2i hx hb dX5_determinant_50 rfl ?_
        rw [← hQ]
        exact vx_ret ( end_i hX hB hA3 rfl rfl ⟨((x21).toInt32), r, q, f, rfl, (fun h => h), rfl, rfl⟩ (Nat.le_of_ble_eq_true rfl) (Nat.le_of_ble_eq_true rfl) dX5_determinant_51)
    refine lv_icmp_ne (tgt := 38) hx hb dX5_determinant_31 (by decide) (fun c22 => ?_) (fun c22 => ?_)
    · refine lv_iconst (v := 0) hx hb dX5_determinant_38 (by decide) ?_
      exact jn39 0 _ _ (Or.inl rfl) hB _ hl
    · refine lv_iconst (v := 1) hx hb dX5_determinant_34 (by decide) ?_
      refine lv_goto (tgt := 39) hx hb dX5_determinant_35 (by decide) ?_
      exact jn39 1 _ _ (Or.inr rfl) hB _ hl
  refine lv_if_lt (tgt := 19) hx hb dX5_determinant_7 (by decide) (fun c23 => ?_) (fun c23 => ?_)
  · refine lv_iconst (v := 0) hx hb dX5_determinant_19 (by decide) ?_
    exact jn20 0 _ _ (Or.inl rfl) hB _ hl
  · refine lv_iload_n hx hb dX5_determinant_10 rfl (lv_at hl 3 rfl) ?_
    refine lv_iconst (v := 2) hx hb dX5_determinant_11 (by decide) ?_
    refine lv_icmp_gt (tgt := 19) hx hb dX5_determinant_12 (by decide) (fun c24 => ?_) (fun c24 => ?_)
    · refine lv_iconst (v := 0) hx hb dX5_determinant_19 (by decide) ?_
      exact jn20 0 _ _ (Or.inl rfl) hB _ hl
    · refine lv_iconst (v := 1) hx hb dX5_determinant_15 (by decide) ?_
      refine lv_goto (tgt := 20) hx hb dX5_determinant_16 (by decide) ?_
      exact jn20 1 _ _ (Or.inr rfl) hB _ hl
set_option maxHeartbeats 4000000 in
set_option maxRecDepth 100000 in
theorem k_X5_minor (κ : Kt) (l : Launch) (hst : l.stackTraces = false) (a : Nat → Nat) (r q : Nat → Int32) (f : Nat → Nat → Int64) (p0 : Int32) (p1 : Int32) (p2 : Int32)  : CX κ l yX5_minor cX5_minor 5 (some .int) 7 145 3 18 [.ref (a 0), .int p0, .int p1, .int p2] (cw κ a r q f) (fun o w' => ∃ x : Int32, ∃ (r' q' : Nat → Int32) (f' : Nat → Nat → Int64), o = some (.int x) ∧ (okr r → okr r') ∧ q' 4 = q 4 ∧ w' = cw κ a r' q' f') (fun E w' => E ∈ (["java/lang/IndexOutOfBoundsException", "java/lang/IllegalArgumentException"] : List String) ∧ ∃ (r' q' : Nat → Int32) (f' : Nat → Nat → Int64), (okr r → okr r') ∧ q' 4 = q 4 ∧ w' = cw κ a r' q' f') := by
  refine CX_begin (by decide) (Nat.le_of_ble_eq_true rfl) ?_
  intro p e s m args below meth c A Q hX hne hA3 hQ hB ls hl
  have hx := hX.1.1
  have hb := hX.1.2.1
  have hl : lv_has ls 5 [(0, .ref (a 0)), (1, .int p0), (2, .int p1), (3, .int p2)] := hl
  refine lv_aload_n hx hb dX5_minor_0 rfl (lv_at hl 0 rfl) ?_
  refine lv_iload_n hx hb dX5_minor_1 rfl (lv_at hl 1 rfl) ?_
  refine CX_after2 hX hB (run_XV (n := 1) (As := [.int p0]) (rest := []) hX hB (k_X5_needTable κ l hst a r q f p0) ⟨rfl, by decide, by decide, by decide +kernel⟩ wm_2_165 wm_2_167 wp_17 wm_1_1 wm_2_168 ⟨Nat.le_of_ble_eq_true rfl, Nat.le_of_ble_eq_true rfl⟩ ⟨Nat.le_of_ble_eq_true rfl, Nat.le_of_ble_eq_true rfl⟩ cw0 rfl rfl rfl hl.1 rfl (Nat.le_of_ble_eq_true rfl) dX5_minor_2) (fun E ce q9 w' H locs hp hB hce hcv hcl => ?_) (fun o w' H locs hp hB => ?_)
  · obtain ⟨hE1, rfl⟩ := hp
    rw [← hQ]
    exact thrown_on hX hne hB hA3 hce hcv hcl ⟨((by decide : ∀ x ∈ (["java/lang/IndexOutOfBoundsException"] : List String), x ∈ (["java/lang/IndexOutOfBoundsException", "java/lang/IllegalArgumentException"] : List String)) _ hE1), r, q, f, (fun h => h), rfl, rfl⟩ (Nat.le_of_ble_eq_true rfl) (Nat.le_of_ble_eq_true rfl)
  obtain ⟨i3, hi3, rfl, rfl⟩ := hp
  refine W.eq (g2 := F0 m 5 ls [.ref (a (6 + 2 * i3))]) rfl ?_
  refine lv_astore (lv' := [(4, .ref (a (6 + 2 * i3))), (0, .ref (a 0)), (1, .int p0), (2, .int p1), (3, .int p2)]) hx hb dX5_minor_5 hl (by decide) rfl (fun ls hl => ?_)
  refine lv_iload_n hx hb dX5_minor_7 rfl (lv_at hl 3 rfl) ?_
  refine lv_iconst (v := 1) hx hb dX5_minor_8 (by decide) ?_
  have jn44 : ∀ (z0_44 : Int32) (H : Heap) (locs : List Loc), z0_44 = 0 ∨ z0_44 = 1 → Bd κ A s (cw κ a r q f) H locs → ∀ ls : Array Slot, lv_has ls 5 [(4, .ref (a (6 + 2 * i3))), (0, .ref (a 0)), (1, .int p0), (2, .int p1), (3, .int p2)] → W p l e (Rm 7 145 3 18) s m args below meth c H locs 1 6 Q (F0 m 44 ls [.int z0_44]) := by
    intro z0_44 H locs hz0_44 hB ls hl
    refine CX_after2 hX hB (run_XS (n := 1) (As := [.int z0_44]) (rest := []) hX hB (k_X5_needArgument κ l hst a r q f z0_44) ⟨by decide, by decide, by decide +kernel⟩ wm_3_0 wm_3_1 wm_1_1 wm_3_2 ⟨Nat.le_of_ble_eq_true rfl, Nat.le_of_ble_eq_true rfl⟩ ⟨Nat.le_of_ble_eq_true rfl, Nat.le_of_ble_eq_true rfl⟩ rfl hl.1 rfl (Nat.le_of_ble_eq_true rfl) dX5_minor_44) (fun E ce q9 w' H locs hp hB hce hcv hcl => ?_) (fun o w' H locs hp hB => ?_)
    · obtain ⟨hE8, rfl⟩ := hp
      rw [← hQ]
      exact thrown_on hX hne hB hA3 hce hcv hcl ⟨((by decide : ∀ x ∈ (["java/lang/IllegalArgumentException"] : List String), x ∈ (["java/lang/IndexOutOfBoundsException", "java/lang/IllegalArgumentException"] : List String)) _ hE8), r, q, f, (fun h => h), rfl, rfl⟩ (Nat.le_of_ble_eq_true rfl) (Nat.le_of_ble_eq_true rfl)
    obtain ⟨rfl, rfl⟩ := hp
    refine W.eq (g2 := F0 m 47 ls []) rfl ?_
    refine lv_iload_n hx hb dX5_minor_47 rfl (lv_at hl 3 rfl) ?_
    refine call_S (n := 1) (As := [.int p1]) (rest := []) hX hB (k_J6_bitCount_0f7a4 κ l (cw κ a r q f) p1 ) ⟨by decide, by decide, by decide +kernel⟩ wm_5_52 wm_1_195 wm_1_26 wm_1_196 ⟨Nat.le_of_ble_eq_true rfl, Nat.le_of_ble_eq_true rfl⟩ ⟨Nat.le_of_ble_eq_true rfl, Nat.le_of_ble_eq_true rfl⟩ rfl hl.1 rfl (Nat.le_of_ble_eq_true rfl) dX5_minor_48 (fun o w' H locs hp hB => ?_)
    obtain ⟨x9, rfl, ebx9, hw9⟩ := hp
    rw [hw9] at hB
    refine W.eq (g2 := F0 m 51 ls [.int x9]) rfl ?_
    refine lv_iload_n hx hb dX5_minor_51 rfl (lv_at hl 4 rfl) ?_
    refine call_S (n := 1) (As := [.int p2]) (rest := [.int x9]) hX hB (k_J6_bitCount_0f7a4 κ l (cw κ a r q f) p2 ) ⟨by decide, by decide, by decide +kernel⟩ wm_5_52 wm_1_195 wm_1_26 wm_1_196 ⟨Nat.le_of_ble_eq_true rfl, Nat.le_of_ble_eq_true rfl⟩ ⟨Nat.le_of_ble_eq_true rfl, Nat.le_of_ble_eq_true rfl⟩ rfl hl.1 rfl (Nat.le_of_ble_eq_true rfl) dX5_minor_52 (fun o w' H locs hp hB => ?_)
    obtain ⟨x10, rfl, ebx10, hw9⟩ := hp
    rw [hw9] at hB
    refine W.eq (g2 := F0 m 55 ls [.int x10, .int x9]) rfl ?_
    have jn63 : ∀ (z0_63 : Int32) (H : Heap) (locs : List Loc), z0_63 = 0 ∨ z0_63 = 1 → Bd κ A s (cw κ a r q f) H locs → ∀ ls : Array Slot, lv_has ls 5 [(4, .ref (a (6 + 2 * i3))), (0, .ref (a 0)), (1, .int p0), (2, .int p1), (3, .int p2)] → W p l e (Rm 7 145 3 18) s m args below meth c H locs 2 12 Q (F0 m 63 ls [.int z0_63]) := by
      intro z0_63 H locs hz0_63 hB ls hl
      refine CX_after2 hX hB (run_XS (n := 1) (As := [.int z0_63]) (rest := []) hX hB (k_X5_needArgument κ l hst a r q f z0_63) ⟨by decide, by decide, by decide +kernel⟩ wm_3_0 wm_3_1 wm_1_1 wm_3_2 ⟨Nat.le_of_ble_eq_true rfl, Nat.le_of_ble_eq_true rfl⟩ ⟨Nat.le_of_ble_eq_true rfl, Nat.le_of_ble_eq_true rfl⟩ rfl hl.1 rfl (Nat.le_of_ble_eq_true rfl) dX5_minor_63) (fun E ce q9 w' H locs hp hB hce hcv hcl => ?_) (fun o w' H locs hp hB => ?_)
      · obtain ⟨hE12, rfl⟩ := hp
        rw [← hQ]
        exact thrown_on hX hne hB hA3 hce hcv hcl ⟨((by decide : ∀ x ∈ (["java/lang/IllegalArgumentException"] : List String), x ∈ (["java/lang/IndexOutOfBoundsException", "java/lang/IllegalArgumentException"] : List String)) _ hE12), r, q, f, (fun h => h), rfl, rfl⟩ (Nat.le_of_ble_eq_true rfl) (Nat.le_of_ble_eq_true rfl)
      obtain ⟨rfl, rfl⟩ := hp
      refine W.eq (g2 := F0 m 66 ls []) rfl ?_
      refine lv_aload hx hb dX5_minor_66 (lv_at hl 0 rfl) ?_
      refine lv_iload_n hx hb dX5_minor_68 rfl (lv_at hl 3 rfl) ?_
      refine lv_iload_n hx hb dX5_minor_69 rfl (lv_at hl 4 rfl) ?_
      refine lv_iconst (v := 0) hx hb dX5_minor_70 (by decide) ?_
      refine call_S (n := 4) (As := [.ref (a (6 + 2 * i3)), .int p1, .int p2, .int 0]) (rest := []) hX hB (k_X0_ofRest_4 κ l a r q f i3 p1 p2 0 (lt15 hi3) (by decide)) ⟨by decide, by decide, by decide +kernel⟩ wm_5_53 wm_1_184 wm_1_29 wm_1_185 ⟨Nat.le_of_ble_eq_true rfl, Nat.le_of_ble_eq_true rfl⟩ ⟨Nat.le_of_ble_eq_true rfl, Nat.le_of_ble_eq_true rfl⟩ rfl hl.1 rfl (Nat.le_of_ble_eq_true rfl) dX5_minor_71 (fun o w' H locs hp hB => ?_)
      obtain ⟨x13, rfl, rfl⟩ := hp
      refine W.eq (g2 := F0 m 74 ls [.long x13]) rfl ?_
      refine lv_l2i hx hb dX5_minor_74 rfl ?_
      rw [← hQ]
      exact vx_ret ( end_i hX hB hA3 rfl rfl ⟨((x13).toInt32), r, q, f, rfl, (fun h => h), rfl, rfl⟩ (Nat.le_of_ble_eq_true rfl) (Nat.le_of_ble_eq_true rfl) dX5_minor_75)
    refine lv_icmp_ne (tgt := 62) hx hb dX5_minor_55 (by decide) (fun c14 => ?_) (fun c14 => ?_)
    · refine lv_iconst (v := 0) hx hb dX5_minor_62 (by decide) ?_
      exact jn63 0 _ _ (Or.inl rfl) hB _ hl
    · refine lv_iconst (v := 1) hx hb dX5_minor_58 (by decide) ?_
      refine lv_goto (tgt := 63) hx hb dX5_minor_59 (by decide) ?_
      exact jn63 1 _ _ (Or.inr rfl) hB _ hl
  refine lv_icmp_lt (tgt := 43) hx hb dX5_minor_9 (by decide) (fun c15 => ?_) (fun c15 => ?_)
  · refine lv_iconst (v := 0) hx hb dX5_minor_43 (by decide) ?_
    exact jn44 0 _ _ (Or.inl rfl) hB _ hl
  · refine lv_iload_n hx hb dX5_minor_12 rfl (lv_at hl 3 rfl) ?_
    refine lv_iconst (v := 1) hx hb dX5_minor_13 (by decide) ?_
    refine lv_aload hx hb dX5_minor_14 (lv_at hl 0 rfl) ?_
    refine gfN hX hB (cwG (i := i3) (lt15 hi3)) rfl in3 1 (by decide) wn_1_51 rfl rfl dX5_minor_16 ?_
    refine lv_ishl hx hb dX5_minor_19 ?_
    refine lv_icmp_ge (tgt := 43) hx hb dX5_minor_20 (by decide) (fun c16 => ?_) (fun c16 => ?_)
    · refine lv_iconst (v := 0) hx hb dX5_minor_43 (by decide) ?_
      exact jn44 0 _ _ (Or.inl rfl) hB _ hl
    · refine lv_iload_n hx hb dX5_minor_23 rfl (lv_at hl 4 rfl) ?_
      refine lv_iconst (v := 1) hx hb dX5_minor_24 (by decide) ?_
      refine lv_icmp_lt (tgt := 43) hx hb dX5_minor_25 (by decide) (fun c17 => ?_) (fun c17 => ?_)
      · refine lv_iconst (v := 0) hx hb dX5_minor_43 (by decide) ?_
        exact jn44 0 _ _ (Or.inl rfl) hB _ hl
      · refine lv_iload_n hx hb dX5_minor_28 rfl (lv_at hl 4 rfl) ?_
        refine lv_iconst (v := 1) hx hb dX5_minor_29 (by decide) ?_
        refine lv_aload hx hb dX5_minor_30 (lv_at hl 0 rfl) ?_
        refine gfN hX hB (cwG (i := i3) (lt15 hi3)) rfl in3 2 (by decide) wn_1_57 rfl rfl dX5_minor_32 ?_
        refine lv_ishl hx hb dX5_minor_35 ?_
        refine lv_icmp_ge (tgt := 43) hx hb dX5_minor_36 (by decide) (fun c18 => ?_) (fun c18 => ?_)
        · refine lv_iconst (v := 0) hx hb dX5_minor_43 (by decide) ?_
          exact jn44 0 _ _ (Or.inl rfl) hB _ hl
        · refine lv_iconst (v := 1) hx hb dX5_minor_39 (by decide) ?_
          refine lv_goto (tgt := 44) hx hb dX5_minor_40 (by decide) ?_
          exact jn44 1 _ _ (Or.inr rfl) hB _ hl
set_option maxHeartbeats 4000000 in
set_option maxRecDepth 100000 in
theorem k_X5_divisor (κ : Kt) (l : Launch) (hst : l.stackTraces = false) (a : Nat → Nat) (r q : Nat → Int32) (f : Nat → Nat → Int64) (p0 : Int32) (p1 : Int32)  : CX κ l yX5_divisor cX5_divisor 4 (some .int) 7 171 2 12 [.ref (a 0), .int p0, .int p1] (cw κ a r q f) (fun o w' => ∃ x : Int32, ∃ (r' q' : Nat → Int32) (f' : Nat → Nat → Int64), o = some (.int x) ∧ (okr r → okr r') ∧ q' 4 = q 4 ∧ w' = cw κ a r' q' f') (fun E w' => E ∈ (["java/lang/IndexOutOfBoundsException", "java/lang/IllegalArgumentException"] : List String) ∧ ∃ (r' q' : Nat → Int32) (f' : Nat → Nat → Int64), (okr r → okr r') ∧ q' 4 = q 4 ∧ w' = cw κ a r' q' f') := by
  refine CX_begin (by decide) (Nat.le_of_ble_eq_true rfl) ?_
  intro p e s m args below meth c A Q hX hne hA3 hQ hB ls hl
  have hx := hX.1.1
  have hb := hX.1.2.1
  have hl : lv_has ls 4 [(0, .ref (a 0)), (1, .int p0), (2, .int p1)] := hl
  refine lv_aload_n hx hb dX5_divisor_0 rfl (lv_at hl 0 rfl) ?_
  refine lv_iload_n hx hb dX5_divisor_1 rfl (lv_at hl 1 rfl) ?_
  refine CX_after2 hX hB (run_XV (n := 1) (As := [.int p0]) (rest := []) hX hB (k_X5_needTable κ l hst a r q f p0) ⟨rfl, by decide, by decide, by decide +kernel⟩ wm_2_165 wm_2_167 wp_17 wm_1_1 wm_2_168 ⟨Nat.le_of_ble_eq_true rfl, Nat.le_of_ble_eq_true rfl⟩ ⟨Nat.le_of_ble_eq_true rfl, Nat.le_of_ble_eq_true rfl⟩ cw0 rfl rfl rfl hl.1 rfl (Nat.le_of_ble_eq_true rfl) dX5_divisor_2) (fun E ce q9 w' H locs hp hB hce hcv hcl => ?_) (fun o w' H locs hp hB => ?_)
  · obtain ⟨hE1, rfl⟩ := hp
    rw [← hQ]
    exact thrown_on hX hne hB hA3 hce hcv hcl ⟨((by decide : ∀ x ∈ (["java/lang/IndexOutOfBoundsException"] : List String), x ∈ (["java/lang/IndexOutOfBoundsException", "java/lang/IllegalArgumentException"] : List String)) _ hE1), r, q, f, (fun h => h), rfl, rfl⟩ (Nat.le_of_ble_eq_true rfl) (Nat.le_of_ble_eq_true rfl)
  obtain ⟨i3, hi3, rfl, rfl⟩ := hp
  refine W.eq (g2 := F0 m 5 ls [.ref (a (6 + 2 * i3))]) rfl ?_
  refine lv_astore_n (lv' := [(3, .ref (a (6 + 2 * i3))), (0, .ref (a 0)), (1, .int p0), (2, .int p1)]) hx hb dX5_divisor_5 rfl hl (by decide) rfl (fun ls hl => ?_)
  refine lv_iload_n hx hb dX5_divisor_6 rfl (lv_at hl 3 rfl) ?_
  have jn31 : ∀ (z0_31 : Int32) (H : Heap) (locs : List Loc), z0_31 = 0 ∨ z0_31 = 1 → Bd κ A s (cw κ a r q f) H locs → ∀ ls : Array Slot, lv_has ls 4 [(3, .ref (a (6 + 2 * i3))), (0, .ref (a 0)), (1, .int p0), (2, .int p1)] → W p l e (Rm 7 171 2 12) s m args below meth c H locs 1 6 Q (F0 m 31 ls [.int z0_31]) := by
    intro z0_31 H locs hz0_31 hB ls hl
    refine CX_after2 hX hB (run_XS (n := 1) (As := [.int z0_31]) (rest := []) hX hB (k_X5_needArgument κ l hst a r q f z0_31) ⟨by decide, by decide, by decide +kernel⟩ wm_3_0 wm_3_1 wm_1_1 wm_3_2 ⟨Nat.le_of_ble_eq_true rfl, Nat.le_of_ble_eq_true rfl⟩ ⟨Nat.le_of_ble_eq_true rfl, Nat.le_of_ble_eq_true rfl⟩ rfl hl.1 rfl (Nat.le_of_ble_eq_true rfl) dX5_divisor_31) (fun E ce q9 w' H locs hp hB hce hcv hcl => ?_) (fun o w' H locs hp hB => ?_)
    · obtain ⟨hE7, rfl⟩ := hp
      rw [← hQ]
      exact thrown_on hX hne hB hA3 hce hcv hcl ⟨((by decide : ∀ x ∈ (["java/lang/IllegalArgumentException"] : List String), x ∈ (["java/lang/IndexOutOfBoundsException", "java/lang/IllegalArgumentException"] : List String)) _ hE7), r, q, f, (fun h => h), rfl, rfl⟩ (Nat.le_of_ble_eq_true rfl) (Nat.le_of_ble_eq_true rfl)
    obtain ⟨rfl, rfl⟩ := hp
    refine W.eq (g2 := F0 m 34 ls []) rfl ?_
    refine lv_aload_n hx hb dX5_divisor_34 rfl (lv_at hl 0 rfl) ?_
    refine lv_iload_n hx hb dX5_divisor_35 rfl (lv_at hl 3 rfl) ?_
    refine call_S (n := 2) (As := [.ref (a (6 + 2 * i3)), .int p1]) (rest := []) hX hB (k_X0_findDivisor κ l a r q f i3 p1 (lt15 hi3)) ⟨by decide, by decide, by decide +kernel⟩ wm_2_122 wm_2_56 wm_1_29 wm_2_57 ⟨Nat.le_of_ble_eq_true rfl, Nat.le_of_ble_eq_true rfl⟩ ⟨Nat.le_of_ble_eq_true rfl, Nat.le_of_ble_eq_true rfl⟩ rfl hl.1 rfl (Nat.le_of_ble_eq_true rfl) dX5_divisor_36 (fun o w' H locs hp hB => ?_)
    obtain ⟨x8, rfl, rfl⟩ := hp
    refine W.eq (g2 := F0 m 39 ls [.long x8]) rfl ?_
    refine lv_l2i hx hb dX5_divisor_39 rfl ?_
    rw [← hQ]
    exact vx_ret ( end_i hX hB hA3 rfl rfl ⟨((x8).toInt32), r, q, f, rfl, (fun h => h), rfl, rfl⟩ (Nat.le_of_ble_eq_true rfl) (Nat.le_of_ble_eq_true rfl) dX5_divisor_40)
  refine lv_if_lt (tgt := 30) hx hb dX5_divisor_7 (by decide) (fun c9 => ?_) (fun c9 => ?_)
  · refine lv_iconst (v := 0) hx hb dX5_divisor_30 (by decide) ?_
    exact jn31 0 _ _ (Or.inl rfl) hB _ hl
  · refine lv_iload_n hx hb dX5_divisor_10 rfl (lv_at hl 3 rfl) ?_
    refine lv_aload_n hx hb dX5_divisor_11 rfl (lv_at hl 0 rfl) ?_
    refine gfN hX hB (cwG (i := i3) (lt15 hi3)) rfl in3 1 (by decide) wn_1_51 rfl rfl dX5_divisor_12 ?_
    refine lv_icmp_gt (tgt := 30) hx hb dX5_divisor_15 (by decide) (fun c10 => ?_) (fun c10 => ?_)
    · refine lv_iconst (v := 0) hx hb dX5_divisor_30 (by decide) ?_
      exact jn31 0 _ _ (Or.inl rfl) hB _ hl
    · refine lv_iload_n hx hb dX5_divisor_18 rfl (lv_at hl 3 rfl) ?_
      refine lv_aload_n hx hb dX5_divisor_19 rfl (lv_at hl 0 rfl) ?_
      refine gfN hX hB (cwG (i := i3) (lt15 hi3)) rfl in3 2 (by decide) wn_1_57 rfl rfl dX5_divisor_20 ?_
      refine lv_icmp_gt (tgt := 30) hx hb dX5_divisor_23 (by decide) (fun c11 => ?_) (fun c11 => ?_)
      · refine lv_iconst (v := 0) hx hb dX5_divisor_30 (by decide) ?_
        exact jn31 0 _ _ (Or.inl rfl) hB _ hl
      · refine lv_iconst (v := 1) hx hb dX5_divisor_26 (by decide) ?_
        refine lv_goto (tgt := 31) hx hb dX5_divisor_27 (by decide) ?_
        exact jn31 1 _ _ (Or.inr rfl) hB _ hl
set_option maxHeartbeats 4000000 in
set_option maxRecDepth 100000 in
theorem k_X5_rank (κ : Kt) (l : Launch) (hst : l.stackTraces = false) (a : Nat → Nat) (r q : Nat → Int32) (f : Nat → Nat → Int64) (p0 : Int32) (p1 : Int32) (hok : okr r) : CX κ l yX5_rank cX5_rank 4 (some .int) 7 193 3 18 [.ref (a 0), .int p0, .int p1] (cw κ a r q f) (fun o w' => ∃ x : Int32, ∃ (r' q' : Nat → Int32) (f' : Nat → Nat → Int64), o = some (.int x) ∧ (okr r → okr r') ∧ q' 4 = q 4 ∧ w' = cw κ a r' q' f') (fun E w' => E ∈ (["java/lang/IndexOutOfBoundsException", "java/lang/IllegalArgumentException", "java/lang/IllegalStateException"] : List String) ∧ ∃ (r' q' : Nat → Int32) (f' : Nat → Nat → Int64), (okr r → okr r') ∧ q' 4 = q 4 ∧ w' = cw κ a r' q' f') := by
  refine CX_begin (by decide) (Nat.le_of_ble_eq_true rfl) ?_
  intro p e s m args below meth c A Q hX hne hA3 hQ hB ls hl
  have hx := hX.1.1
  have hb := hX.1.2.1
  have hl : lv_has ls 4 [(0, .ref (a 0)), (1, .int p0), (2, .int p1)] := hl
  refine lv_aload_n hx hb dX5_rank_0 rfl (lv_at hl 0 rfl) ?_
  refine lv_iload_n hx hb dX5_rank_1 rfl (lv_at hl 1 rfl) ?_
  refine CX_after2 hX hB (run_XV (n := 1) (As := [.int p0]) (rest := []) hX hB (k_X5_needTable κ l hst a r q f p0) ⟨rfl, by decide, by decide, by decide +kernel⟩ wm_2_165 wm_2_167 wp_17 wm_1_1 wm_2_168 ⟨Nat.le_of_ble_eq_true rfl, Nat.le_of_ble_eq_true rfl⟩ ⟨Nat.le_of_ble_eq_true rfl, Nat.le_of_ble_eq_true rfl⟩ cw0 rfl rfl rfl hl.1 rfl (Nat.le_of_ble_eq_true rfl) dX5_rank_2) (fun E ce q9 w' H locs hp hB hce hcv hcl => ?_) (fun o w' H locs hp hB => ?_)
  · obtain ⟨hE1, rfl⟩ := hp
    rw [← hQ]
    exact thrown_on hX hne hB hA3 hce hcv hcl ⟨((by decide : ∀ x ∈ (["java/lang/IndexOutOfBoundsException"] : List String), x ∈ (["java/lang/IndexOutOfBoundsException", "java/lang/IllegalArgumentException", "java/lang/IllegalStateException"] : List String)) _ hE1), r, q, f, (fun h => h), rfl, rfl⟩ (Nat.le_of_ble_eq_true rfl) (Nat.le_of_ble_eq_true rfl)
  obtain ⟨i3, hi3, rfl, rfl⟩ := hp
  refine W.eq (g2 := F0 m 5 ls [.ref (a (6 + 2 * i3))]) rfl ?_
  refine lv_astore_n (lv' := [(3, .ref (a (6 + 2 * i3))), (0, .ref (a 0)), (1, .int p0), (2, .int p1)]) hx hb dX5_rank_5 rfl hl (by decide) rfl (fun ls hl => ?_)
  refine lv_iload_n hx hb dX5_rank_6 rfl (lv_at hl 3 rfl) ?_
  have jn20 : ∀ (z0_20 : Int32) (H : Heap) (locs : List Loc), z0_20 = 0 ∨ z0_20 = 1 → Bd κ A s (cw κ a r q f) H locs → ∀ ls : Array Slot, lv_has ls 4 [(3, .ref (a (6 + 2 * i3))), (0, .ref (a 0)), (1, .int p0), (2, .int p1)] → W p l e (Rm 7 193 3 18) s m args below meth c H locs 1 6 Q (F0 m 20 ls [.int z0_20]) := by
    intro z0_20 H locs hz0_20 hB ls hl
    refine CX_after2 hX hB (run_XS (n := 1) (As := [.int z0_20]) (rest := []) hX hB (k_X5_needArgument κ l hst a r q f z0_20) ⟨by decide, by decide, by decide +kernel⟩ wm_3_0 wm_3_1 wm_1_1 wm_3_2 ⟨Nat.le_of_ble_eq_true rfl, Nat.le_of_ble_eq_true rfl⟩ ⟨Nat.le_of_ble_eq_true rfl, Nat.le_of_ble_eq_true rfl⟩ rfl hl.1 rfl (Nat.le_of_ble_eq_true rfl) dX5_rank_20) (fun E ce q9 w' H locs hp hB hce hcv hcl => ?_) (fun o w' H locs hp hB => ?_)
    · obtain ⟨hE6, rfl⟩ := hp
      rw [← hQ]
      exact thrown_on hX hne hB hA3 hce hcv hcl ⟨((by decide : ∀ x ∈ (["java/lang/IllegalArgumentException"] : List String), x ∈ (["java/lang/IndexOutOfBoundsException", "java/lang/IllegalArgumentException", "java/lang/IllegalStateException"] : List String)) _ hE6), r, q, f, (fun h => h), rfl, rfl⟩ (Nat.le_of_ble_eq_true rfl) (Nat.le_of_ble_eq_true rfl)
    obtain ⟨rfl, rfl⟩ := hp
    refine W.eq (g2 := F0 m 23 ls []) rfl ?_
    refine lv_iload_n hx hb dX5_rank_23 rfl (lv_at hl 3 rfl) ?_
    refine lv_if_ne (tgt := 32) hx hb dX5_rank_24 (by decide) (fun c7 => ?_) (fun c7 => ?_)
    · refine lv_aload_n hx hb dX5_rank_32 rfl (lv_at hl 1 rfl) ?_
      refine gf hX hB cw0 rfl in5 3 (by decide) wm_1_140 rfl rfl dX5_rank_33 ?_
      refine lv_aload_n hx hb dX5_rank_36 rfl (lv_at hl 0 rfl) ?_
      refine call_V (n := 1) (As := [.ref (a (6 + 2 * i3))]) (rest := []) hX hB (k_X4_walk κ l a r q f i3 (lt15 hi3)) ⟨rfl, by decide, by decide, by decide +kernel⟩ wm_1_200 wm_1_201 wm_1_202 wm_1_3 wm_1_203 ⟨Nat.le_of_ble_eq_true rfl, Nat.le_of_ble_eq_true rfl⟩ ⟨Nat.le_of_ble_eq_true rfl, Nat.le_of_ble_eq_true rfl⟩ cw2 rfl rfl rfl hl.1 rfl (Nat.le_of_ble_eq_true rfl) dX5_rank_37 (fun o w' H locs hp hB => ?_)
      obtain ⟨r8, q10, f12, rfl, ho9, hq11, rfl⟩ := hp
      refine W.eq (g2 := F0 m 40 ls []) rfl ?_
      refine lv_aload_n hx hb dX5_rank_40 rfl (lv_at hl 1 rfl) ?_
      refine gf hX hB cw0 rfl in5 3 (by decide) wm_1_140 rfl rfl dX5_rank_41 ?_
      refine gfN hX hB cw2 rfl in4 2 (by decide) wn_1_79 rfl rfl dX5_rank_44 ?_
      have jn55 : ∀ (z0_55 : Int32) (H : Heap) (locs : List Loc), z0_55 = 0 ∨ z0_55 = 1 → Bd κ A s (cw κ a r8 q10 f12) H locs → ∀ ls : Array Slot, lv_has ls 4 [(3, .ref (a (6 + 2 * i3))), (0, .ref (a 0)), (1, .int p0), (2, .int p1)] → W p l e (Rm 7 193 3 18) s m args below meth c H locs 2 12 Q (F0 m 55 ls [.int z0_55]) := by
        intro z0_55 H locs hz0_55 hB ls hl
        refine CX_after2 hX hB (run_XS (n := 1) (As := [.int z0_55]) (rest := []) hX hB (k_X5_needState κ l hst a r8 q10 f12 z0_55) ⟨by decide, by decide, by decide +kernel⟩ wm_5_26 wm_5_27 wm_1_1 wm_5_28 ⟨Nat.le_of_ble_eq_true rfl, Nat.le_of_ble_eq_true rfl⟩ ⟨Nat.le_of_ble_eq_true rfl, Nat.le_of_ble_eq_true rfl⟩ rfl hl.1 rfl (Nat.le_of_ble_eq_true rfl) dX5_rank_55) (fun E ce q9 w' H locs hp hB hce hcv hcl => ?_) (fun o w' H locs hp hB => ?_)
        · obtain ⟨hE14, rfl⟩ := hp
          rw [← hQ]
          exact thrown_on hX hne hB hA3 hce hcv hcl ⟨((by decide : ∀ x ∈ (["java/lang/IllegalStateException"] : List String), x ∈ (["java/lang/IndexOutOfBoundsException", "java/lang/IllegalArgumentException", "java/lang/IllegalStateException"] : List String)) _ hE14), r8, q10, f12, (fun h => ho9 ((fun h => h) h)), (hq11.trans rfl), rfl⟩ (Nat.le_of_ble_eq_true rfl) (Nat.le_of_ble_eq_true rfl)
        obtain ⟨rfl, rfl⟩ := hp
        refine W.eq (g2 := F0 m 58 ls []) rfl ?_
        refine lv_aload_n hx hb dX5_rank_58 rfl (lv_at hl 1 rfl) ?_
        refine gf hX hB cw0 rfl in5 3 (by decide) wm_1_140 rfl rfl dX5_rank_59 ?_
        refine call_V (n := 0) (As := []) (rest := []) hX hB (k_X4_countFilledRows κ l a r8 q10 f12) ⟨rfl, by decide, by decide, by decide +kernel⟩ wm_2_63 wm_2_64 wm_2_65 wm_1_3 wm_2_66 ⟨Nat.le_of_ble_eq_true rfl, Nat.le_of_ble_eq_true rfl⟩ ⟨Nat.le_of_ble_eq_true rfl, Nat.le_of_ble_eq_true rfl⟩ cw2 rfl rfl rfl hl.1 rfl (Nat.le_of_ble_eq_true rfl) dX5_rank_62 (fun o w' H locs hp hB => ?_)
        obtain ⟨x15, rfl, rfl⟩ := hp
        refine W.eq (g2 := F0 m 65 ls [.int x15]) rfl ?_
        rw [← hQ]
        exact vx_ret ( end_i hX hB hA3 rfl rfl ⟨x15, r8, q10, f12, rfl, (fun h => ho9 ((fun h => h) h)), (hq11.trans rfl), rfl⟩ (Nat.le_of_ble_eq_true rfl) (Nat.le_of_ble_eq_true rfl) dX5_rank_65)
      refine lv_if_ne (tgt := 54) hx hb dX5_rank_47 (by decide) (fun c16 => ?_) (fun c16 => ?_)
      · refine lv_iconst (v := 0) hx hb dX5_rank_54 (by decide) ?_
        exact jn55 0 _ _ (Or.inl rfl) hB _ hl
      · refine lv_iconst (v := 1) hx hb dX5_rank_50 (by decide) ?_
        refine lv_goto (tgt := 55) hx hb dX5_rank_51 (by decide) ?_
        exact jn55 1 _ _ (Or.inr rfl) hB _ hl
    · refine lv_aload_n hx hb dX5_rank_27 rfl (lv_at hl 0 rfl) ?_
      refine call_S (n := 1) (As := [.ref (a (6 + 2 * i3))]) (rest := []) hX hB (k_X0_findRank κ l a r q f i3 (lt15 hi3) ((fun h => h) hok)) ⟨by decide, by decide, by decide +kernel⟩ wm_2_52 wm_2_53 wm_1_29 wm_2_54 ⟨Nat.le_of_ble_eq_true rfl, Nat.le_of_ble_eq_true rfl⟩ ⟨Nat.le_of_ble_eq_true rfl, Nat.le_of_ble_eq_true rfl⟩ rfl hl.1 rfl (Nat.le_of_ble_eq_true rfl) dX5_rank_28 (fun o w' H locs hp hB => ?_)
      obtain ⟨x17, rfl, rfl⟩ := hp
      refine W.eq (g2 := F0 m 31 ls [.int x17]) rfl ?_
      rw [← hQ]
      exact vx_ret ( end_i hX hB hA3 rfl rfl ⟨x17, r, q, f, rfl, (fun h => h), rfl, rfl⟩ (Nat.le_of_ble_eq_true rfl) (Nat.le_of_ble_eq_true rfl) dX5_rank_31)
  refine lv_if_eq (tgt := 15) hx hb dX5_rank_7 (by decide) (fun c18 => ?_) (fun c18 => ?_)
  · refine lv_iconst (v := 1) hx hb dX5_rank_15 (by decide) ?_
    refine lv_goto (tgt := 20) hx hb dX5_rank_16 (by decide) ?_
    exact jn20 1 _ _ (Or.inr rfl) hB _ hl
  · refine lv_iload_n hx hb dX5_rank_10 rfl (lv_at hl 3 rfl) ?_
    refine lv_iconst (v := 1) hx hb dX5_rank_11 (by decide) ?_
    refine lv_icmp_ne (tgt := 19) hx hb dX5_rank_12 (by decide) (fun c19 => ?_) (fun c19 => ?_)
    · refine lv_iconst (v := 0) hx hb dX5_rank_19 (by decide) ?_
      exact jn20 0 _ _ (Or.inl rfl) hB _ hl
    · refine lv_iconst (v := 1) hx hb dX5_rank_15 (by decide) ?_
      refine lv_goto (tgt := 20) hx hb dX5_rank_16 (by decide) ?_
      exact jn20 1 _ _ (Or.inr rfl) hB _ hl
set_option maxHeartbeats 4000000 in
set_option maxRecDepth 100000 in
theorem k_X5_told (κ : Kt) (l : Launch) (hst : l.stackTraces = false) (a : Nat → Nat) (r q : Nat → Int32) (f : Nat → Nat → Int64) (p0 : Int32) (p1 : Int32) (p2 : Int32) (p3 : Int32)  : CX κ l yX5_told cX5_told 9 (some .int) 7 146 4 24 [.ref (a 0), .int p0, .int p1, .int p2, .int p3] (cw κ a r q f) (fun o w' => ∃ x : Int32, ∃ (r' q' : Nat → Int32) (f' : Nat → Nat → Int64), o = some (.int x) ∧ (okr r → okr r') ∧ q' 4 = q 4 ∧ w' = cw κ a r' q' f') (fun E w' => E ∈ (["java/lang/IndexOutOfBoundsException", "java/lang/IllegalArgumentException", "java/lang/IllegalStateException"] : List String) ∧ ∃ (r' q' : Nat → Int32) (f' : Nat → Nat → Int64), (okr r → okr r') ∧ q' 4 = q 4 ∧ w' = cw κ a r' q' f') := by
  refine CX_begin (by decide) (Nat.le_of_ble_eq_true rfl) ?_
  intro p e s m args below meth c A Q hX hne hA3 hQ hB ls hl
  have hx := hX.1.1
  have hb := hX.1.2.1
  have hl : lv_has ls 9 [(0, .ref (a 0)), (1, .int p0), (2, .int p1), (3, .int p2), (4, .int p3)] := hl
  refine lv_aload_n hx hb dX5_told_0 rfl (lv_at hl 0 rfl) ?_
  refine lv_iload_n hx hb dX5_told_1 rfl (lv_at hl 1 rfl) ?_
  refine CX_after2 hX hB (run_XV (n := 1) (As := [.int p0]) (rest := []) hX hB (k_X5_needTable κ l hst a r q f p0) ⟨rfl, by decide, by decide, by decide +kernel⟩ wm_2_165 wm_2_167 wp_17 wm_1_1 wm_2_168 ⟨Nat.le_of_ble_eq_true rfl, Nat.le_of_ble_eq_true rfl⟩ ⟨Nat.le_of_ble_eq_true rfl, Nat.le_of_ble_eq_true rfl⟩ cw0 rfl rfl rfl hl.1 rfl (Nat.le_of_ble_eq_true rfl) dX5_told_2) (fun E ce q9 w' H locs hp hB hce hcv hcl => ?_) (fun o w' H locs hp hB => ?_)
  · obtain ⟨hE1, rfl⟩ := hp
    rw [← hQ]
    exact thrown_on hX hne hB hA3 hce hcv hcl ⟨((by decide : ∀ x ∈ (["java/lang/IndexOutOfBoundsException"] : List String), x ∈ (["java/lang/IndexOutOfBoundsException", "java/lang/IllegalArgumentException", "java/lang/IllegalStateException"] : List String)) _ hE1), r, q, f, (fun h => h), rfl, rfl⟩ (Nat.le_of_ble_eq_true rfl) (Nat.le_of_ble_eq_true rfl)
  obtain ⟨i3, hi3, rfl, rfl⟩ := hp
  refine W.eq (g2 := F0 m 5 ls [.ref (a (6 + 2 * i3))]) rfl ?_
  refine lv_astore (lv' := [(5, .ref (a (6 + 2 * i3))), (0, .ref (a 0)), (1, .int p0), (2, .int p1), (3, .int p2), (4, .int p3)]) hx hb dX5_told_5 hl (by decide) rfl (fun ls hl => ?_)
  refine lv_iload_n hx hb dX5_told_7 rfl (lv_at hl 3 rfl) ?_
  refine call_S (n := 1) (As := [.int p1]) (rest := []) hX hB (k_X5_isForm κ l (cw κ a r q f) p1 ) ⟨by decide, by decide, by decide +kernel⟩ wm_3_171 wm_3_172 wm_1_1 wm_3_173 ⟨Nat.le_of_ble_eq_true rfl, Nat.le_of_ble_eq_true rfl⟩ ⟨Nat.le_of_ble_eq_true rfl, Nat.le_of_ble_eq_true rfl⟩ rfl hl.1 rfl (Nat.le_of_ble_eq_true rfl) dX5_told_8 (fun o w' H locs hp hB => ?_)
  obtain ⟨x4, rfl, bx4, hw9⟩ := hp
  rw [hw9] at hB
  refine W.eq (g2 := F0 m 11 ls [.int x4]) rfl ?_
  refine CX_after2 hX hB (run_XS (n := 1) (As := [.int x4]) (rest := []) hX hB (k_X5_needArgument κ l hst a r q f x4) ⟨by decide, by decide, by decide +kernel⟩ wm_3_0 wm_3_1 wm_1_1 wm_3_2 ⟨Nat.le_of_ble_eq_true rfl, Nat.le_of_ble_eq_true rfl⟩ ⟨Nat.le_of_ble_eq_true rfl, Nat.le_of_ble_eq_true rfl⟩ rfl hl.1 rfl (Nat.le_of_ble_eq_true rfl) dX5_told_11) (fun E ce q9 w' H locs hp hB hce hcv hcl => ?_) (fun o w' H locs hp hB => ?_)
  · obtain ⟨hE5, rfl⟩ := hp
    rw [← hQ]
    exact thrown_on hX hne hB hA3 hce hcv hcl ⟨((by decide : ∀ x ∈ (["java/lang/IllegalArgumentException"] : List String), x ∈ (["java/lang/IndexOutOfBoundsException", "java/lang/IllegalArgumentException", "java/lang/IllegalStateException"] : List String)) _ hE5), r, q, f, (fun h => h), rfl, rfl⟩ (Nat.le_of_ble_eq_true rfl) (Nat.le_of_ble_eq_true rfl)
  obtain ⟨rfl, rfl⟩ := hp
  refine W.eq (g2 := F0 m 14 ls []) rfl ?_
  refine lv_iload_n hx hb dX5_told_14 rfl (lv_at hl 3 rfl) ?_
  refine lv_iconst (v := 4) hx hb dX5_told_15 (by decide) ?_
  have jn32 : ∀ (z0_32 : Int32) (H : Heap) (locs : List Loc), Bd κ A s (cw κ a r q f) H locs → ∀ ls : Array Slot, lv_has ls 9 [(5, .ref (a (6 + 2 * i3))), (0, .ref (a 0)), (1, .int p0), (2, .int p1), (3, .int p2), (4, .int p3)] → W p l e (Rm 7 146 4 24) s m args below meth c H locs 2 12 Q (F0 m 32 ls [.int z0_32]) := by
    intro z0_32 H locs hB ls hl
    refine lv_istore (lv' := [(6, .int z0_32), (5, .ref (a (6 + 2 * i3))), (0, .ref (a 0)), (1, .int p0), (2, .int p1), (3, .int p2), (4, .int p3)]) hx hb dX5_told_32 hl (by decide) rfl (fun ls hl => ?_)
    refine lv_iload_n hx hb dX5_told_34 rfl (lv_at hl 4 rfl) ?_
    refine lv_iconst (v := 1) hx hb dX5_told_35 (by decide) ?_
    have jn57 : ∀ (z0_57 : Int32) (H : Heap) (locs : List Loc), Bd κ A s (cw κ a r q f) H locs → ∀ ls : Array Slot, lv_has ls 9 [(6, .int z0_32), (5, .ref (a (6 + 2 * i3))), (0, .ref (a 0)), (1, .int p0), (2, .int p1), (3, .int p2), (4, .int p3)] → W p l e (Rm 7 146 4 24) s m args below meth c H locs 2 12 Q (F0 m 57 ls [.int z0_57]) := by
      intro z0_57 H locs hB ls hl
      refine lv_istore (lv' := [(7, .int z0_57), (6, .int z0_32), (5, .ref (a (6 + 2 * i3))), (0, .ref (a 0)), (1, .int p0), (2, .int p1), (3, .int p2), (4, .int p3)]) hx hb dX5_told_57 hl (by decide) rfl (fun ls hl => ?_)
      refine lv_iload_n hx hb dX5_told_59 rfl (lv_at hl 6 rfl) ?_
      have jn86 : ∀ (z0_86 : Int32) (H : Heap) (locs : List Loc), z0_86 = 0 ∨ z0_86 = 1 → Bd κ A s (cw κ a r q f) H locs → ∀ ls : Array Slot, lv_has ls 9 [(7, .int z0_57), (6, .int z0_32), (5, .ref (a (6 + 2 * i3))), (0, .ref (a 0)), (1, .int p0), (2, .int p1), (3, .int p2), (4, .int p3)] → W p l e (Rm 7 146 4 24) s m args below meth c H locs 2 12 Q (F0 m 86 ls [.int z0_86]) := by
        intro z0_86 H locs hz0_86 hB ls hl
        refine CX_after2 hX hB (run_XS (n := 1) (As := [.int z0_86]) (rest := []) hX hB (k_X5_needArgument κ l hst a r q f z0_86) ⟨by decide, by decide, by decide +kernel⟩ wm_3_0 wm_3_1 wm_1_1 wm_3_2 ⟨Nat.le_of_ble_eq_true rfl, Nat.le_of_ble_eq_true rfl⟩ ⟨Nat.le_of_ble_eq_true rfl, Nat.le_of_ble_eq_true rfl⟩ rfl hl.1 rfl (Nat.le_of_ble_eq_true rfl) dX5_told_86) (fun E ce q9 w' H locs hp hB hce hcv hcl => ?_) (fun o w' H locs hp hB => ?_)
        · obtain ⟨hE13, rfl⟩ := hp
          rw [← hQ]
          exact thrown_on hX hne hB hA3 hce hcv hcl ⟨((by decide : ∀ x ∈ (["java/lang/IllegalArgumentException"] : List String), x ∈ (["java/lang/IndexOutOfBoundsException", "java/lang/IllegalArgumentException", "java/lang/IllegalStateException"] : List String)) _ hE13), r, q, f, (fun h => h), rfl, rfl⟩ (Nat.le_of_ble_eq_true rfl) (Nat.le_of_ble_eq_true rfl)
        obtain ⟨rfl, rfl⟩ := hp
        refine W.eq (g2 := F0 m 89 ls []) rfl ?_
        refine lv_aload_n hx hb dX5_told_89 rfl (lv_at hl 3 rfl) ?_
        refine lv_aload hx hb dX5_told_90 (lv_at hl 2 rfl) ?_
        refine lv_iload_n hx hb dX5_told_92 rfl (lv_at hl 5 rfl) ?_
        refine call_V (n := 2) (As := [.ref (a (6 + 2 * i3)), .int p1]) (rest := []) hX hB (k_X5_findForm κ l a r q f i3 p1 (lt15 hi3)) ⟨rfl, by decide, by decide, by decide +kernel⟩ wm_3_174 wm_3_176 wp_23 wm_1_1 wm_3_177 ⟨Nat.le_of_ble_eq_true rfl, Nat.le_of_ble_eq_true rfl⟩ ⟨Nat.le_of_ble_eq_true rfl, Nat.le_of_ble_eq_true rfl⟩ cw0 rfl rfl rfl hl.1 rfl (Nat.le_of_ble_eq_true rfl) dX5_told_93 (fun o w' H locs hp hB => ?_)
        obtain ⟨r20, q21, f22, ho23, hq24, rfl, hh25⟩ := hp
        rcases hh25 with rfl | ⟨i26, hi26, rfl⟩
        · refine W.eq (g2 := F0 m 96 ls [.null]) rfl ?_
          refine lv_astoreN (lv' := [(8, .null), (7, .int z0_57), (6, .int z0_32), (5, .ref (a (6 + 2 * i3))), (0, .ref (a 0)), (1, .int p0), (2, .int p1), (3, .int p2), (4, .int p3)]) hx hb dX5_told_96 hl (by decide) rfl (fun ls hl => ?_)
          refine lv_aloadN hx hb dX5_told_98 (lv_at hl 0 rfl) ?_
          refine lv_ifnonnullN hx hb dX5_told_100 ?_
          rw [← hQ]
          exact throw_T (cls := "java/lang/IllegalStateException") (text := "the steps are great") (nL := 9) hst hX hne hB hA3 rfl (by decide) wm_5_29 wm_1_28 (by decide) tw_227a tw_227b tw_227c hl.1 dX5_told_103 dX5_told_106 dX5_told_107 dX5_told_109 dX5_told_112 (Nat.le_of_ble_eq_true rfl) (Nat.le_of_ble_eq_true rfl) (Nat.le_of_ble_eq_true rfl) (Nat.le_of_ble_eq_true rfl) ⟨(by decide), r20, q21, f22, (fun h => ho23 ((fun h => h) h)), (hq24.trans rfl), rfl⟩ (Nat.le_of_ble_eq_true rfl) (Nat.le_of_ble_eq_true rfl)
        · refine W.eq (g2 := F0 m 96 ls [.ref (a (6 + 2 * i26))]) rfl ?_
          refine lv_astore (lv' := [(8, .ref (a (6 + 2 * i26))), (7, .int z0_57), (6, .int z0_32), (5, .ref (a (6 + 2 * i3))), (0, .ref (a 0)), (1, .int p0), (2, .int p1), (3, .int p2), (4, .int p3)]) hx hb dX5_told_96 hl (by decide) rfl (fun ls hl => ?_)
          refine lv_aload hx hb dX5_told_98 (lv_at hl 0 rfl) ?_
          refine lv_ifnonnull (tgt := 113) hx hb dX5_told_100 (by decide) ?_
          refine lv_aload hx hb dX5_told_113 (lv_at hl 0 rfl) ?_
          refine lv_iload_n hx hb dX5_told_115 rfl (lv_at hl 7 rfl) ?_
          refine lv_iload hx hb dX5_told_116 (lv_at hl 8 rfl) ?_
          refine call_V (n := 2) (As := [.int p2, .int p3]) (rest := []) hX hB (k_X3_get κ l a r20 q21 f22 i26 p2 p3 hi26) ⟨rfl, by decide, by decide, by decide +kernel⟩ wm_2_123 wm_1_187 wm_1_188 wm_1_2 wm_1_189 ⟨Nat.le_of_ble_eq_true rfl, Nat.le_of_ble_eq_true rfl⟩ ⟨Nat.le_of_ble_eq_true rfl, Nat.le_of_ble_eq_true rfl⟩ (cwG (i := i26) hi26) rfl rfl rfl hl.1 rfl (Nat.le_of_ble_eq_true rfl) dX5_told_118 (fun o w' H locs hp hB => ?_)
          obtain ⟨x27, rfl, rfl⟩ := hp
          refine W.eq (g2 := F0 m 121 ls [.long x27]) rfl ?_
          refine lv_l2i hx hb dX5_told_121 rfl ?_
          rw [← hQ]
          exact vx_ret ( end_i hX hB hA3 rfl rfl ⟨((x27).toInt32), r20, q21, f22, rfl, (fun h => ho23 ((fun h => h) h)), (hq24.trans rfl), rfl⟩ (Nat.le_of_ble_eq_true rfl) (Nat.le_of_ble_eq_true rfl) dX5_told_122)
      refine lv_if_lt (tgt := 85) hx hb dX5_told_60 (by decide) (fun c28 => ?_) (fun c28 => ?_)
      · refine lv_iconst (v := 0) hx hb dX5_told_85 (by decide) ?_
        exact jn86 0 _ _ (Or.inl rfl) hB _ hl
      · refine lv_iload_n hx hb dX5_told_63 rfl (lv_at hl 6 rfl) ?_
        refine lv_iload hx hb dX5_told_64 (lv_at hl 1 rfl) ?_
        refine lv_icmp_ge (tgt := 85) hx hb dX5_told_66 (by decide) (fun c29 => ?_) (fun c29 => ?_)
        · refine lv_iconst (v := 0) hx hb dX5_told_85 (by decide) ?_
          exact jn86 0 _ _ (Or.inl rfl) hB _ hl
        · refine lv_iload hx hb dX5_told_69 (lv_at hl 7 rfl) ?_
          refine lv_if_lt (tgt := 85) hx hb dX5_told_71 (by decide) (fun c30 => ?_) (fun c30 => ?_)
          · refine lv_iconst (v := 0) hx hb dX5_told_85 (by decide) ?_
            exact jn86 0 _ _ (Or.inl rfl) hB _ hl
          · refine lv_iload hx hb dX5_told_74 (lv_at hl 7 rfl) ?_
            refine lv_iload hx hb dX5_told_76 (lv_at hl 0 rfl) ?_
            refine lv_icmp_ge (tgt := 85) hx hb dX5_told_78 (by decide) (fun c31 => ?_) (fun c31 => ?_)
            · refine lv_iconst (v := 0) hx hb dX5_told_85 (by decide) ?_
              exact jn86 0 _ _ (Or.inl rfl) hB _ hl
            · refine lv_iconst (v := 1) hx hb dX5_told_81 (by decide) ?_
              refine lv_goto (tgt := 86) hx hb dX5_told_82 (by decide) ?_
              exact jn86 1 _ _ (Or.inr rfl) hB _ hl
    refine lv_icmp_eq (tgt := 44) hx hb dX5_told_36 (by decide) (fun c32 => ?_) (fun c32 => ?_)
    · refine lv_aload hx hb dX5_told_44 (lv_at hl 1 rfl) ?_
      refine gfN hX hB (cwG (i := i3) (lt15 hi3)) rfl in3 1 (by decide) wn_1_51 rfl rfl dX5_told_46 ?_
      refine lv_goto (tgt := 57) hx hb dX5_told_49 (by decide) ?_
      exact jn57 (r (2 * i3)) _ _  hB _ hl
    · refine lv_iload_n hx hb dX5_told_39 rfl (lv_at hl 4 rfl) ?_
      refine lv_iconst (v := 3) hx hb dX5_told_40 (by decide) ?_
      refine lv_icmp_ne (tgt := 52) hx hb dX5_told_41 (by decide) (fun c33 => ?_) (fun c33 => ?_)
      · refine lv_aload hx hb dX5_told_52 (lv_at hl 1 rfl) ?_
        refine gfN hX hB (cwG (i := i3) (lt15 hi3)) rfl in3 2 (by decide) wn_1_57 rfl rfl dX5_told_54 ?_
        exact jn57 (r (2 * i3 + 1)) _ _  hB _ hl
      · refine lv_aload hx hb dX5_told_44 (lv_at hl 1 rfl) ?_
        refine gfN hX hB (cwG (i := i3) (lt15 hi3)) rfl in3 1 (by decide) wn_1_51 rfl rfl dX5_told_46 ?_
        refine lv_goto (tgt := 57) hx hb dX5_told_49 (by decide) ?_
        exact jn57 (r (2 * i3)) _ _  hB _ hl
  refine lv_icmp_ne (tgt := 27) hx hb dX5_told_16 (by decide) (fun c34 => ?_) (fun c34 => ?_)
  · refine lv_aload hx hb dX5_told_27 (lv_at hl 0 rfl) ?_
    refine gfN hX hB (cwG (i := i3) (lt15 hi3)) rfl in3 1 (by decide) wn_1_51 rfl rfl dX5_told_29 ?_
    exact jn32 (r (2 * i3)) _ _  hB _ hl
  · refine lv_aload hx hb dX5_told_19 (lv_at hl 0 rfl) ?_
    refine gfN hX hB (cwG (i := i3) (lt15 hi3)) rfl in3 2 (by decide) wn_1_57 rfl rfl dX5_told_21 ?_
    refine lv_goto (tgt := 32) hx hb dX5_told_24 (by decide) ?_
    exact jn32 (r (2 * i3 + 1)) _ _  hB _ hl
set_option maxHeartbeats 4000000 in
set_option maxRecDepth 100000 in
theorem k_X5_change (κ : Kt) (l : Launch) (hst : l.stackTraces = false) (a : Nat → Nat) (r q : Nat → Int32) (f : Nat → Nat → Int64) (p0 : Int32) (p1 : Int32)  : CX κ l yX5_change cX5_change 5 (some .int) 7 165 3 18 [.ref (a 0), .int p0, .int p1] (cw κ a r q f) (fun o w' => ∃ x : Int32, ∃ (r' q' : Nat → Int32) (f' : Nat → Nat → Int64), o = some (.int x) ∧ (okr r → okr r') ∧ q' 4 = q 4 ∧ w' = cw κ a r' q' f') (fun E w' => E ∈ (["java/lang/IndexOutOfBoundsException", "java/lang/IllegalArgumentException", "java/lang/IllegalStateException"] : List String) ∧ ∃ (r' q' : Nat → Int32) (f' : Nat → Nat → Int64), (okr r → okr r') ∧ q' 4 = q 4 ∧ w' = cw κ a r' q' f') := by
  refine CX_begin (by decide) (Nat.le_of_ble_eq_true rfl) ?_
  intro p e s m args below meth c A Q hX hne hA3 hQ hB ls hl
  have hx := hX.1.1
  have hb := hX.1.2.1
  have hl : lv_has ls 5 [(0, .ref (a 0)), (1, .int p0), (2, .int p1)] := hl
  refine lv_aload_n hx hb dX5_change_0 rfl (lv_at hl 0 rfl) ?_
  refine lv_iload_n hx hb dX5_change_1 rfl (lv_at hl 1 rfl) ?_
  refine CX_after2 hX hB (run_XV (n := 1) (As := [.int p0]) (rest := []) hX hB (k_X5_needTable κ l hst a r q f p0) ⟨rfl, by decide, by decide, by decide +kernel⟩ wm_2_165 wm_2_167 wp_17 wm_1_1 wm_2_168 ⟨Nat.le_of_ble_eq_true rfl, Nat.le_of_ble_eq_true rfl⟩ ⟨Nat.le_of_ble_eq_true rfl, Nat.le_of_ble_eq_true rfl⟩ cw0 rfl rfl rfl hl.1 rfl (Nat.le_of_ble_eq_true rfl) dX5_change_2) (fun E ce q9 w' H locs hp hB hce hcv hcl => ?_) (fun o w' H locs hp hB => ?_)
  · obtain ⟨hE1, rfl⟩ := hp
    rw [← hQ]
    exact thrown_on hX hne hB hA3 hce hcv hcl ⟨((by decide : ∀ x ∈ (["java/lang/IndexOutOfBoundsException"] : List String), x ∈ (["java/lang/IndexOutOfBoundsException", "java/lang/IllegalArgumentException", "java/lang/IllegalStateException"] : List String)) _ hE1), r, q, f, (fun h => h), rfl, rfl⟩ (Nat.le_of_ble_eq_true rfl) (Nat.le_of_ble_eq_true rfl)
  obtain ⟨i3, hi3, rfl, rfl⟩ := hp
  refine W.eq (g2 := F0 m 5 ls [.ref (a (6 + 2 * i3))]) rfl ?_
  refine lv_astore_n (lv' := [(3, .ref (a (6 + 2 * i3))), (0, .ref (a 0)), (1, .int p0), (2, .int p1)]) hx hb dX5_change_5 rfl hl (by decide) rfl (fun ls hl => ?_)
  refine lv_iload_n hx hb dX5_change_6 rfl (lv_at hl 3 rfl) ?_
  have jn20 : ∀ (z0_20 : Int32) (H : Heap) (locs : List Loc), z0_20 = 0 ∨ z0_20 = 1 → Bd κ A s (cw κ a r q f) H locs → ∀ ls : Array Slot, lv_has ls 5 [(3, .ref (a (6 + 2 * i3))), (0, .ref (a 0)), (1, .int p0), (2, .int p1)] → W p l e (Rm 7 165 3 18) s m args below meth c H locs 1 6 Q (F0 m 20 ls [.int z0_20]) := by
    intro z0_20 H locs hz0_20 hB ls hl
    refine CX_after2 hX hB (run_XS (n := 1) (As := [.int z0_20]) (rest := []) hX hB (k_X5_needArgument κ l hst a r q f z0_20) ⟨by decide, by decide, by decide +kernel⟩ wm_3_0 wm_3_1 wm_1_1 wm_3_2 ⟨Nat.le_of_ble_eq_true rfl, Nat.le_of_ble_eq_true rfl⟩ ⟨Nat.le_of_ble_eq_true rfl, Nat.le_of_ble_eq_true rfl⟩ rfl hl.1 rfl (Nat.le_of_ble_eq_true rfl) dX5_change_20) (fun E ce q9 w' H locs hp hB hce hcv hcl => ?_) (fun o w' H locs hp hB => ?_)
    · obtain ⟨hE6, rfl⟩ := hp
      rw [← hQ]
      exact thrown_on hX hne hB hA3 hce hcv hcl ⟨((by decide : ∀ x ∈ (["java/lang/IllegalArgumentException"] : List String), x ∈ (["java/lang/IndexOutOfBoundsException", "java/lang/IllegalArgumentException", "java/lang/IllegalStateException"] : List String)) _ hE6), r, q, f, (fun h => h), rfl, rfl⟩ (Nat.le_of_ble_eq_true rfl) (Nat.le_of_ble_eq_true rfl)
    obtain ⟨rfl, rfl⟩ := hp
    refine W.eq (g2 := F0 m 23 ls []) rfl ?_
    refine lv_iload_n hx hb dX5_change_23 rfl (lv_at hl 3 rfl) ?_
    refine lv_if_ne (tgt := 51) hx hb dX5_change_24 (by decide) (fun c7 => ?_) (fun c7 => ?_)
    · refine lv_iload_n hx hb dX5_change_51 rfl (lv_at hl 3 rfl) ?_
      refine lv_iconst (v := 1) hx hb dX5_change_52 (by decide) ?_
      refine lv_icmp_ne (tgt := 80) hx hb dX5_change_53 (by decide) (fun c8 => ?_) (fun c8 => ?_)
      · refine lv_aload_n hx hb dX5_change_80 rfl (lv_at hl 1 rfl) ?_
        refine lv_aload_n hx hb dX5_change_81 rfl (lv_at hl 0 rfl) ?_
        refine lv_iload_n hx hb dX5_change_82 rfl (lv_at hl 3 rfl) ?_
        refine lv_iconst (v := 2) hx hb dX5_change_83 (by decide) ?_
        have jn101 : ∀ (z0_101 : Int32) (H : Heap) (locs : List Loc), Bd κ A s (cw κ a r q f) H locs → ∀ ls : Array Slot, lv_has ls 5 [(3, .ref (a (6 + 2 * i3))), (0, .ref (a 0)), (1, .int p0), (2, .int p1)] → W p l e (Rm 7 165 3 18) s m args below meth c H locs 2 12 Q (F0 m 101 ls [.int z0_101, .ref (a (6 + 2 * i3)), .ref (a 0)]) := by
          intro z0_101 H locs hB ls hl
          refine call_V (n := 2) (As := [.ref (a (6 + 2 * i3)), .int z0_101]) (rest := []) hX hB (k_X5_findForm κ l a r q f i3 z0_101 (lt15 hi3)) ⟨rfl, by decide, by decide, by decide +kernel⟩ wm_3_174 wm_3_176 wp_23 wm_1_1 wm_3_177 ⟨Nat.le_of_ble_eq_true rfl, Nat.le_of_ble_eq_true rfl⟩ ⟨Nat.le_of_ble_eq_true rfl, Nat.le_of_ble_eq_true rfl⟩ cw0 rfl rfl rfl hl.1 rfl (Nat.le_of_ble_eq_true rfl) dX5_change_101 (fun o w' H locs hp hB => ?_)
          obtain ⟨r17, q18, f19, ho20, hq21, rfl, hh22⟩ := hp
          rcases hh22 with rfl | ⟨i23, hi23, rfl⟩
          · refine W.eq (g2 := F0 m 104 ls [.null]) rfl ?_
            refine lv_astoreN (lv' := [(4, .null), (3, .ref (a (6 + 2 * i3))), (0, .ref (a 0)), (1, .int p0), (2, .int p1)]) hx hb dX5_change_104 hl (by decide) rfl (fun ls hl => ?_)
            refine lv_aloadN hx hb dX5_change_106 (lv_at hl 0 rfl) ?_
            refine lv_ifnonnullN hx hb dX5_change_108 ?_
            rw [← hQ]
            exact throw_T (cls := "java/lang/IllegalStateException") (text := "the steps are great") (nL := 5) hst hX hne hB hA3 rfl (by decide) wm_5_29 wm_1_28 (by decide) tw_227a tw_227b tw_227c hl.1 dX5_change_111 dX5_change_114 dX5_change_115 dX5_change_117 dX5_change_120 (Nat.le_of_ble_eq_true rfl) (Nat.le_of_ble_eq_true rfl) (Nat.le_of_ble_eq_true rfl) (Nat.le_of_ble_eq_true rfl) ⟨(by decide), r17, q18, f19, (fun h => ho20 ((fun h => h) h)), (hq21.trans rfl), rfl⟩ (Nat.le_of_ble_eq_true rfl) (Nat.le_of_ble_eq_true rfl)
          · refine W.eq (g2 := F0 m 104 ls [.ref (a (6 + 2 * i23))]) rfl ?_
            refine lv_astore (lv' := [(4, .ref (a (6 + 2 * i23))), (3, .ref (a (6 + 2 * i3))), (0, .ref (a 0)), (1, .int p0), (2, .int p1)]) hx hb dX5_change_104 hl (by decide) rfl (fun ls hl => ?_)
            refine lv_aload hx hb dX5_change_106 (lv_at hl 0 rfl) ?_
            refine lv_ifnonnull (tgt := 121) hx hb dX5_change_108 (by decide) ?_
            refine lv_aload hx hb dX5_change_121 (lv_at hl 0 rfl) ?_
            refine call_S (n := 1) (As := [.ref (a (6 + 2 * i23))]) (rest := []) hX hB (k_X0_byFirstRow κ l a r17 q18 f19 i23 hi23) ⟨by decide, by decide, by decide +kernel⟩ wm_1_180 wm_1_181 wm_1_29 wm_1_182 ⟨Nat.le_of_ble_eq_true rfl, Nat.le_of_ble_eq_true rfl⟩ ⟨Nat.le_of_ble_eq_true rfl, Nat.le_of_ble_eq_true rfl⟩ rfl hl.1 rfl (Nat.le_of_ble_eq_true rfl) dX5_change_123 (fun o w' H locs hp hB => ?_)
            obtain ⟨x24, rfl, rfl⟩ := hp
            refine W.eq (g2 := F0 m 126 ls [.long x24]) rfl ?_
            refine lv_l2i hx hb dX5_change_126 rfl ?_
            rw [← hQ]
            exact vx_ret ( end_i hX hB hA3 rfl rfl ⟨((x24).toInt32), r17, q18, f19, rfl, (fun h => ho20 ((fun h => h) h)), (hq21.trans rfl), rfl⟩ (Nat.le_of_ble_eq_true rfl) (Nat.le_of_ble_eq_true rfl) dX5_change_127)
        refine lv_icmp_ne (tgt := 91) hx hb dX5_change_84 (by decide) (fun c25 => ?_) (fun c25 => ?_)
        · refine lv_iload_n hx hb dX5_change_91 rfl (lv_at hl 3 rfl) ?_
          refine lv_iconst (v := 3) hx hb dX5_change_92 (by decide) ?_
          refine lv_icmp_ne (tgt := 100) hx hb dX5_change_93 (by decide) (fun c26 => ?_) (fun c26 => ?_)
          · refine lv_iconst (v := 4) hx hb dX5_change_100 (by decide) ?_
            exact jn101 4 _ _  hB _ hl
          · refine lv_iconst (v := 3) hx hb dX5_change_96 (by decide) ?_
            refine lv_goto (tgt := 101) hx hb dX5_change_97 (by decide) ?_
            exact jn101 3 _ _  hB _ hl
        · refine lv_iconst (v := 1) hx hb dX5_change_87 (by decide) ?_
          refine lv_goto (tgt := 101) hx hb dX5_change_88 (by decide) ?_
          exact jn101 1 _ _  hB _ hl
      · refine lv_aload_n hx hb dX5_change_56 rfl (lv_at hl 1 rfl) ?_
        refine gf hX hB cw0 rfl in5 4 (by decide) wm_1_141 rfl rfl dX5_change_57 ?_
        refine lv_aload_n hx hb dX5_change_60 rfl (lv_at hl 0 rfl) ?_
        refine call_V (n := 1) (As := [.ref (a (6 + 2 * i3))]) (rest := []) hX hB (k_X1_walk κ l a r q f i3 (lt15 hi3)) ⟨rfl, by decide, by decide, by decide +kernel⟩ wm_2_72 wm_2_73 wm_2_74 wm_1_4 wm_2_75 ⟨Nat.le_of_ble_eq_true rfl, Nat.le_of_ble_eq_true rfl⟩ ⟨Nat.le_of_ble_eq_true rfl, Nat.le_of_ble_eq_true rfl⟩ cw3 rfl rfl rfl hl.1 rfl (Nat.le_of_ble_eq_true rfl) dX5_change_61 (fun o w' H locs hp hB => ?_)
        obtain ⟨r27, q29, f31, rfl, ho28, hq30, rfl⟩ := hp
        refine W.eq (g2 := F0 m 64 ls []) rfl ?_
        refine lv_aload_n hx hb dX5_change_64 rfl (lv_at hl 1 rfl) ?_
        refine gf hX hB cw0 rfl in5 4 (by decide) wm_1_141 rfl rfl dX5_change_65 ?_
        refine gfN hX hB cw3 rfl in1 3 (by decide) wn_1_105 rfl rfl dX5_change_68 ?_
        refine lv_if_eq (tgt := 78) hx hb dX5_change_71 (by decide) (fun c32 => ?_) (fun c32 => ?_)
        · refine lv_iconst (v := 0) hx hb dX5_change_78 (by decide) ?_
          rw [← hQ]
          exact vx_ret ( end_i hX hB hA3 rfl rfl ⟨0, r27, q29, f31, rfl, (fun h => ho28 ((fun h => h) h)), (hq30.trans rfl), rfl⟩ (Nat.le_of_ble_eq_true rfl) (Nat.le_of_ble_eq_true rfl) dX5_change_79)
        · refine lv_iconst (v := 1) hx hb dX5_change_74 (by decide) ?_
          refine lv_goto (tgt := 79) hx hb dX5_change_75 (by decide) ?_
          rw [← hQ]
          exact vx_ret ( end_i hX hB hA3 rfl rfl ⟨1, r27, q29, f31, rfl, (fun h => ho28 ((fun h => h) h)), (hq30.trans rfl), rfl⟩ (Nat.le_of_ble_eq_true rfl) (Nat.le_of_ble_eq_true rfl) dX5_change_79)
    · refine lv_aload_n hx hb dX5_change_27 rfl (lv_at hl 1 rfl) ?_
      refine gf hX hB cw0 rfl in5 3 (by decide) wm_1_140 rfl rfl dX5_change_28 ?_
      refine lv_aload_n hx hb dX5_change_31 rfl (lv_at hl 0 rfl) ?_
      refine call_V (n := 1) (As := [.ref (a (6 + 2 * i3))]) (rest := []) hX hB (k_X4_walk κ l a r q f i3 (lt15 hi3)) ⟨rfl, by decide, by decide, by decide +kernel⟩ wm_1_200 wm_1_201 wm_1_202 wm_1_3 wm_1_203 ⟨Nat.le_of_ble_eq_true rfl, Nat.le_of_ble_eq_true rfl⟩ ⟨Nat.le_of_ble_eq_true rfl, Nat.le_of_ble_eq_true rfl⟩ cw2 rfl rfl rfl hl.1 rfl (Nat.le_of_ble_eq_true rfl) dX5_change_32 (fun o w' H locs hp hB => ?_)
      obtain ⟨r33, q35, f37, rfl, ho34, hq36, rfl⟩ := hp
      refine W.eq (g2 := F0 m 35 ls []) rfl ?_
      refine lv_aload_n hx hb dX5_change_35 rfl (lv_at hl 1 rfl) ?_
      refine gf hX hB cw0 rfl in5 3 (by decide) wm_1_140 rfl rfl dX5_change_36 ?_
      refine gfN hX hB cw2 rfl in4 2 (by decide) wn_1_79 rfl rfl dX5_change_39 ?_
      refine lv_if_eq (tgt := 49) hx hb dX5_change_42 (by decide) (fun c38 => ?_) (fun c38 => ?_)
      · refine lv_iconst (v := 0) hx hb dX5_change_49 (by decide) ?_
        rw [← hQ]
        exact vx_ret ( end_i hX hB hA3 rfl rfl ⟨0, r33, q35, f37, rfl, (fun h => ho34 ((fun h => h) h)), (hq36.trans rfl), rfl⟩ (Nat.le_of_ble_eq_true rfl) (Nat.le_of_ble_eq_true rfl) dX5_change_50)
      · refine lv_iconst (v := 1) hx hb dX5_change_45 (by decide) ?_
        refine lv_goto (tgt := 50) hx hb dX5_change_46 (by decide) ?_
        rw [← hQ]
        exact vx_ret ( end_i hX hB hA3 rfl rfl ⟨1, r33, q35, f37, rfl, (fun h => ho34 ((fun h => h) h)), (hq36.trans rfl), rfl⟩ (Nat.le_of_ble_eq_true rfl) (Nat.le_of_ble_eq_true rfl) dX5_change_50)
  refine lv_if_lt (tgt := 19) hx hb dX5_change_7 (by decide) (fun c39 => ?_) (fun c39 => ?_)
  · refine lv_iconst (v := 0) hx hb dX5_change_19 (by decide) ?_
    exact jn20 0 _ _ (Or.inl rfl) hB _ hl
  · refine lv_iload_n hx hb dX5_change_10 rfl (lv_at hl 3 rfl) ?_
    refine lv_iconst (v := 4) hx hb dX5_change_11 (by decide) ?_
    refine lv_icmp_gt (tgt := 19) hx hb dX5_change_12 (by decide) (fun c40 => ?_) (fun c40 => ?_)
    · refine lv_iconst (v := 0) hx hb dX5_change_19 (by decide) ?_
      exact jn20 0 _ _ (Or.inl rfl) hB _ hl
    · refine lv_iconst (v := 1) hx hb dX5_change_15 (by decide) ?_
      refine lv_goto (tgt := 20) hx hb dX5_change_16 (by decide) ?_
      exact jn20 1 _ _ (Or.inr rfl) hB _ hl
set_option maxHeartbeats 4000000 in
set_option maxRecDepth 100000 in
theorem k_X5_isSolvable (κ : Kt) (l : Launch) (hst : l.stackTraces = false) (a : Nat → Nat) (r q : Nat → Int32) (f : Nat → Nat → Int64) (p0 : Int32) (p1 : Int32) (p2 : Int32) (p3 : Int32) (hok : okr r) : CX κ l yX5_isSolvable cX5_isSolvable 8 (some .boolean) 7 193 5 30 [.ref (a 0), .int p0, .int p1, .int p2, .int p3] (cw κ a r q f) (fun o w' => ∃ x : Int32, ∃ (r' q' : Nat → Int32) (f' : Nat → Nat → Int64), o = some (.int x) ∧ (x = 0 ∨ x = 1) ∧ (okr r → okr r') ∧ q' 4 = q 4 ∧ w' = cw κ a r' q' f') (fun E w' => E ∈ (["java/lang/IndexOutOfBoundsException", "java/lang/IllegalArgumentException", "java/lang/IllegalStateException"] : List String) ∧ ∃ (r' q' : Nat → Int32) (f' : Nat → Nat → Int64), (okr r → okr r') ∧ q' 4 = q 4 ∧ w' = cw κ a r' q' f') := by
  refine CX_begin (by decide) (Nat.le_of_ble_eq_true rfl) ?_
  intro p e s m args below meth c A Q hX hne hA3 hQ hB ls hl
  have hx := hX.1.1
  have hb := hX.1.2.1
  have hl : lv_has ls 8 [(0, .ref (a 0)), (1, .int p0), (2, .int p1), (3, .int p2), (4, .int p3)] := hl
  refine lv_aload_n hx hb dX5_isSolvable_0 rfl (lv_at hl 0 rfl) ?_
  refine lv_iload_n hx hb dX5_isSolvable_1 rfl (lv_at hl 1 rfl) ?_
  refine CX_after2 hX hB (run_XV (n := 1) (As := [.int p0]) (rest := []) hX hB (k_X5_needTable κ l hst a r q f p0) ⟨rfl, by decide, by decide, by decide +kernel⟩ wm_2_165 wm_2_167 wp_17 wm_1_1 wm_2_168 ⟨Nat.le_of_ble_eq_true rfl, Nat.le_of_ble_eq_true rfl⟩ ⟨Nat.le_of_ble_eq_true rfl, Nat.le_of_ble_eq_true rfl⟩ cw0 rfl rfl rfl hl.1 rfl (Nat.le_of_ble_eq_true rfl) dX5_isSolvable_2) (fun E ce q9 w' H locs hp hB hce hcv hcl => ?_) (fun o w' H locs hp hB => ?_)
  · obtain ⟨hE1, rfl⟩ := hp
    rw [← hQ]
    exact thrown_on hX hne hB hA3 hce hcv hcl ⟨((by decide : ∀ x ∈ (["java/lang/IndexOutOfBoundsException"] : List String), x ∈ (["java/lang/IndexOutOfBoundsException", "java/lang/IllegalArgumentException", "java/lang/IllegalStateException"] : List String)) _ hE1), r, q, f, (fun h => h), rfl, rfl⟩ (Nat.le_of_ble_eq_true rfl) (Nat.le_of_ble_eq_true rfl)
  obtain ⟨i3, hi3, rfl, rfl⟩ := hp
  refine W.eq (g2 := F0 m 5 ls [.ref (a (6 + 2 * i3))]) rfl ?_
  refine lv_astore (lv' := [(5, .ref (a (6 + 2 * i3))), (0, .ref (a 0)), (1, .int p0), (2, .int p1), (3, .int p2), (4, .int p3)]) hx hb dX5_isSolvable_5 hl (by decide) rfl (fun ls hl => ?_)
  refine lv_aload_n hx hb dX5_isSolvable_7 rfl (lv_at hl 1 rfl) ?_
  refine lv_iload_n hx hb dX5_isSolvable_8 rfl (lv_at hl 3 rfl) ?_
  refine CX_after2 hX hB (run_XV (n := 1) (As := [.int p1]) (rest := []) hX hB (k_X5_needTable κ l hst a r q f p1) ⟨rfl, by decide, by decide, by decide +kernel⟩ wm_2_165 wm_2_167 wp_17 wm_1_1 wm_2_168 ⟨Nat.le_of_ble_eq_true rfl, Nat.le_of_ble_eq_true rfl⟩ ⟨Nat.le_of_ble_eq_true rfl, Nat.le_of_ble_eq_true rfl⟩ cw0 rfl rfl rfl hl.1 rfl (Nat.le_of_ble_eq_true rfl) dX5_isSolvable_9) (fun E ce q9 w' H locs hp hB hce hcv hcl => ?_) (fun o w' H locs hp hB => ?_)
  · obtain ⟨hE4, rfl⟩ := hp
    rw [← hQ]
    exact thrown_on hX hne hB hA3 hce hcv hcl ⟨((by decide : ∀ x ∈ (["java/lang/IndexOutOfBoundsException"] : List String), x ∈ (["java/lang/IndexOutOfBoundsException", "java/lang/IllegalArgumentException", "java/lang/IllegalStateException"] : List String)) _ hE4), r, q, f, (fun h => h), rfl, rfl⟩ (Nat.le_of_ble_eq_true rfl) (Nat.le_of_ble_eq_true rfl)
  obtain ⟨i6, hi6, rfl, rfl⟩ := hp
  refine W.eq (g2 := F0 m 12 ls [.ref (a (6 + 2 * i6))]) rfl ?_
  refine lv_astore (lv' := [(6, .ref (a (6 + 2 * i6))), (5, .ref (a (6 + 2 * i3))), (0, .ref (a 0)), (1, .int p0), (2, .int p1), (3, .int p2), (4, .int p3)]) hx hb dX5_isSolvable_12 hl (by decide) rfl (fun ls hl => ?_)
  refine lv_aload hx hb dX5_isSolvable_14 (lv_at hl 0 rfl) ?_
  refine lv_iconst (v := 1) hx hb dX5_isSolvable_16 (by decide) ?_
  refine lv_iload_n hx hb dX5_isSolvable_17 rfl (lv_at hl 5 rfl) ?_
  refine call_V (n := 2) (As := [.int 1, .int p2]) (rest := []) hX hB (k_X3_hasLine κ l a r q f i6 1 p2 (lt15 hi6)) ⟨rfl, by decide, by decide, by decide +kernel⟩ wm_3_43 wm_3_44 wm_3_45 wm_1_2 wm_3_46 ⟨Nat.le_of_ble_eq_true rfl, Nat.le_of_ble_eq_true rfl⟩ ⟨Nat.le_of_ble_eq_true rfl, Nat.le_of_ble_eq_true rfl⟩ (cwG (i := i6) (lt15 hi6)) rfl rfl rfl hl.1 rfl (Nat.le_of_ble_eq_true rfl) dX5_isSolvable_18 (fun o w' H locs hp hB => ?_)
  obtain ⟨x7, rfl, bx7, rfl⟩ := hp
  refine W.eq (g2 := F0 m 21 ls [.int x7]) rfl ?_
  refine CX_after2 hX hB (run_XS (n := 1) (As := [.int x7]) (rest := []) hX hB (k_X5_needIndex κ l hst a r q f x7) ⟨by decide, by decide, by decide +kernel⟩ wm_3_47 wm_3_48 wm_1_1 wm_3_49 ⟨Nat.le_of_ble_eq_true rfl, Nat.le_of_ble_eq_true rfl⟩ ⟨Nat.le_of_ble_eq_true rfl, Nat.le_of_ble_eq_true rfl⟩ rfl hl.1 rfl (Nat.le_of_ble_eq_true rfl) dX5_isSolvable_21) (fun E ce q9 w' H locs hp hB hce hcv hcl => ?_) (fun o w' H locs hp hB => ?_)
  · obtain ⟨hE8, rfl⟩ := hp
    rw [← hQ]
    exact thrown_on hX hne hB hA3 hce hcv hcl ⟨((by decide : ∀ x ∈ (["java/lang/IndexOutOfBoundsException"] : List String), x ∈ (["java/lang/IndexOutOfBoundsException", "java/lang/IllegalArgumentException", "java/lang/IllegalStateException"] : List String)) _ hE8), r, q, f, (fun h => h), rfl, rfl⟩ (Nat.le_of_ble_eq_true rfl) (Nat.le_of_ble_eq_true rfl)
  obtain ⟨rfl, rfl⟩ := hp
  refine W.eq (g2 := F0 m 24 ls []) rfl ?_
  refine lv_aload hx hb dX5_isSolvable_24 (lv_at hl 1 rfl) ?_
  refine gfN hX hB (cwG (i := i3) (lt15 hi3)) rfl in3 1 (by decide) wn_1_51 rfl rfl dX5_isSolvable_26 ?_
  refine lv_aload hx hb dX5_isSolvable_29 (lv_at hl 0 rfl) ?_
  refine gfN hX hB (cwG (i := i6) (lt15 hi6)) rfl in3 1 (by decide) wn_1_51 rfl rfl dX5_isSolvable_31 ?_
  have jn53 : ∀ (z0_53 : Int32) (H : Heap) (locs : List Loc), z0_53 = 0 ∨ z0_53 = 1 → Bd κ A s (cw κ a r q f) H locs → ∀ ls : Array Slot, lv_has ls 8 [(6, .ref (a (6 + 2 * i6))), (5, .ref (a (6 + 2 * i3))), (0, .ref (a 0)), (1, .int p0), (2, .int p1), (3, .int p2), (4, .int p3)] → W p l e (Rm 7 193 5 30) s m args below meth c H locs 3 18 Q (F0 m 53 ls [.int z0_53]) := by
    intro z0_53 H locs hz0_53 hB ls hl
    refine CX_after2 hX hB (run_XS (n := 1) (As := [.int z0_53]) (rest := []) hX hB (k_X5_needArgument κ l hst a r q f z0_53) ⟨by decide, by decide, by decide +kernel⟩ wm_3_0 wm_3_1 wm_1_1 wm_3_2 ⟨Nat.le_of_ble_eq_true rfl, Nat.le_of_ble_eq_true rfl⟩ ⟨Nat.le_of_ble_eq_true rfl, Nat.le_of_ble_eq_true rfl⟩ rfl hl.1 rfl (Nat.le_of_ble_eq_true rfl) dX5_isSolvable_53) (fun E ce q9 w' H locs hp hB hce hcv hcl => ?_) (fun o w' H locs hp hB => ?_)
    · obtain ⟨hE12, rfl⟩ := hp
      rw [← hQ]
      exact thrown_on hX hne hB hA3 hce hcv hcl ⟨((by decide : ∀ x ∈ (["java/lang/IllegalArgumentException"] : List String), x ∈ (["java/lang/IndexOutOfBoundsException", "java/lang/IllegalArgumentException", "java/lang/IllegalStateException"] : List String)) _ hE12), r, q, f, (fun h => h), rfl, rfl⟩ (Nat.le_of_ble_eq_true rfl) (Nat.le_of_ble_eq_true rfl)
    obtain ⟨rfl, rfl⟩ := hp
    refine W.eq (g2 := F0 m 56 ls []) rfl ?_
    refine lv_iload hx hb dX5_isSolvable_56 (lv_at hl 6 rfl) ?_
    refine lv_if_ne (tgt := 103) hx hb dX5_isSolvable_58 (by decide) (fun c13 => ?_) (fun c13 => ?_)
    · refine lv_aload_n hx hb dX5_isSolvable_103 rfl (lv_at hl 2 rfl) ?_
      refine gf hX hB cw0 rfl in5 1 (by decide) wm_1_138 rfl rfl dX5_isSolvable_104 ?_
      refine lv_aload hx hb dX5_isSolvable_107 (lv_at hl 1 rfl) ?_
      refine gfN hX hB (cwG (i := i3) (lt15 hi3)) rfl in3 1 (by decide) wn_1_51 rfl rfl dX5_isSolvable_109 ?_
      refine lv_aload hx hb dX5_isSolvable_112 (lv_at hl 1 rfl) ?_
      refine gfN hX hB (cwG (i := i3) (lt15 hi3)) rfl in3 2 (by decide) wn_1_57 rfl rfl dX5_isSolvable_114 ?_
      refine lv_iconst (v := 1) hx hb dX5_isSolvable_117 (by decide) ?_
      refine lv_iadd hx hb dX5_isSolvable_118 ?_
      refine call_V (n := 2) (As := [.int (r (2 * i3)), .int ((r (2 * i3 + 1)) + 1)]) (rest := []) hX hB (k_X3_reshape κ l a r q f 4 (r (2 * i3)) ((r (2 * i3 + 1)) + 1) (by decide)) ⟨rfl, by decide, by decide, by decide +kernel⟩ wm_3_23 wm_1_213 wm_1_214 wm_1_2 wm_1_215 ⟨Nat.le_of_ble_eq_true rfl, Nat.le_of_ble_eq_true rfl⟩ ⟨Nat.le_of_ble_eq_true rfl, Nat.le_of_ble_eq_true rfl⟩ (cwG (i := 4) (by decide)) rfl rfl rfl hl.1 rfl (Nat.le_of_ble_eq_true rfl) dX5_isSolvable_119 (fun o w' H locs hp hB => ?_)
      obtain ⟨r14, q16, f18, rfl, ho15, hq17, rfl⟩ := hp
      refine W.eq (g2 := F0 m 122 ls []) rfl ?_
      refine lv_aload_n hx hb dX5_isSolvable_122 rfl (lv_at hl 2 rfl) ?_
      refine gf hX hB cw0 rfl in5 1 (by decide) wm_1_138 rfl rfl dX5_isSolvable_123 ?_
      refine lv_aload hx hb dX5_isSolvable_126 (lv_at hl 1 rfl) ?_
      refine call_V (n := 1) (As := [.ref (a (6 + 2 * i3))]) (rest := []) hX hB (k_X3_takeOver κ l a r14 q16 f18 4 i3 (by decide) (lt15 hi3)) ⟨rfl, by decide, by decide, by decide +kernel⟩ wm_3_135 wm_3_136 wm_3_137 wm_1_2 wm_3_138 ⟨Nat.le_of_ble_eq_true rfl, Nat.le_of_ble_eq_true rfl⟩ ⟨Nat.le_of_ble_eq_true rfl, Nat.le_of_ble_eq_true rfl⟩ (cwG (i := 4) (by decide)) rfl rfl rfl hl.1 rfl (Nat.le_of_ble_eq_true rfl) dX5_isSolvable_128 (fun o w' H locs hp hB => ?_)
      obtain ⟨f19, rfl, rfl⟩ := hp
      refine W.eq (g2 := F0 m 131 ls []) rfl ?_
      refine lv_iconst (v := 0) hx hb dX5_isSolvable_131 (by decide) ?_
      refine lv_istore (lv' := [(7, .int 0), (6, .ref (a (6 + 2 * i6))), (5, .ref (a (6 + 2 * i3))), (0, .ref (a 0)), (1, .int p0), (2, .int p1), (3, .int p2), (4, .int p3)]) hx hb dX5_isSolvable_132 hl (by decide) rfl (fun ls hl => ?_)
      have lp134 : ∀ (nn : Nat) (y7_134 : Int32) (f_134 : Nat → Nat → Int64) (H : Heap) (locs : List Loc), gap (r14 (2 * i3)) y7_134 < nn → Bd κ A s (cw κ a r14 q16 f_134) H locs → ∀ ls : Array Slot, lv_has ls 8 [(7, .int y7_134), (6, .ref (a (6 + 2 * i6))), (5, .ref (a (6 + 2 * i3))), (0, .ref (a 0)), (1, .int p0), (2, .int p1), (3, .int p2), (4, .int p3)] → W p l e (Rm 7 193 5 30) s m args below meth c H locs 4 24 Q (F0 m 134 ls []) := by
        intro nn
        induction nn with
        | zero => intro y7_134 f_134 H locs hμ; exact absurd hμ (Nat.not_lt_zero _)
        | succ nn ih134 =>
          intro y7_134 f_134 H locs hμ134 hB ls hl
          refine lv_iload hx hb dX5_isSolvable_134 (lv_at hl 0 rfl) ?_
          refine lv_aload hx hb dX5_isSolvable_136 (lv_at hl 2 rfl) ?_
          refine gfN hX hB (cwG (i := i3) (lt15 hi3)) rfl in3 1 (by decide) wn_1_51 rfl rfl dX5_isSolvable_138 ?_
          refine lv_icmp_ge (tgt := 172) hx hb dX5_isSolvable_141 (by decide) (fun c47 => ?_) (fun c47 => ?_)
          · refine lv_aload hx hb dX5_isSolvable_172 (lv_at hl 2 rfl) ?_
            refine call_S (n := 1) (As := [.ref (a (6 + 2 * i3))]) (rest := []) hX hB (k_X0_findRank κ l a r14 q16 f_134 i3 (lt15 hi3) ((fun h => ho15 ((fun h => h) h)) hok)) ⟨by decide, by decide, by decide +kernel⟩ wm_2_52 wm_2_53 wm_1_29 wm_2_54 ⟨Nat.le_of_ble_eq_true rfl, Nat.le_of_ble_eq_true rfl⟩ ⟨Nat.le_of_ble_eq_true rfl, Nat.le_of_ble_eq_true rfl⟩ rfl hl.1 rfl (Nat.le_of_ble_eq_true rfl) dX5_isSolvable_174 (fun o w' H locs hp hB => ?_)
            obtain ⟨x48, rfl, rfl⟩ := hp
            refine W.eq (g2 := F0 m 177 ls [.int x48]) rfl ?_
            refine lv_istore (lv' := [(7, .int x48), (6, .ref (a (6 + 2 * i6))), (5, .ref (a (6 + 2 * i3))), (0, .ref (a 0)), (1, .int p0), (2, .int p1), (3, .int p2), (4, .int p3)]) hx hb dX5_isSolvable_177 hl (by decide) rfl (fun ls hl => ?_)
            refine lv_aload_n hx hb dX5_isSolvable_179 rfl (lv_at hl 3 rfl) ?_
            refine gf hX hB cw0 rfl in5 1 (by decide) wm_1_138 rfl rfl dX5_isSolvable_180 ?_
            refine call_S (n := 1) (As := [.ref (a 14)]) (rest := []) hX hB (k_X0_findRank κ l a r14 q16 f_134 4 (by decide) ((fun h => ho15 ((fun h => h) h)) hok)) ⟨by decide, by decide, by decide +kernel⟩ wm_2_52 wm_2_53 wm_1_29 wm_2_54 ⟨Nat.le_of_ble_eq_true rfl, Nat.le_of_ble_eq_true rfl⟩ ⟨Nat.le_of_ble_eq_true rfl, Nat.le_of_ble_eq_true rfl⟩ rfl hl.1 rfl (Nat.le_of_ble_eq_true rfl) dX5_isSolvable_183 (fun o w' H locs hp hB => ?_)
            obtain ⟨x49, rfl, rfl⟩ := hp
            refine W.eq (g2 := F0 m 186 ls [.int x49]) rfl ?_
            refine lv_iload hx hb dX5_isSolvable_186 (lv_at hl 0 rfl) ?_
            refine lv_icmp_ne (tgt := 215) hx hb dX5_isSolvable_188 (by decide) (fun c50 => ?_) (fun c50 => ?_)
            · refine lv_iconst (v := 0) hx hb dX5_isSolvable_215 (by decide) ?_
              rw [← hQ]
              exact vx_ret ( end_i hX hB hA3 rfl rfl ⟨0, r14, q16, f_134, rfl, Or.inl rfl, (fun h => ho15 ((fun h => h) h)), (hq17.trans rfl), rfl⟩ (Nat.le_of_ble_eq_true rfl) (Nat.le_of_ble_eq_true rfl) dX5_isSolvable_216)
            · refine lv_aload_n hx hb dX5_isSolvable_191 rfl (lv_at hl 3 rfl) ?_
              refine gf hX hB cw0 rfl in5 1 (by decide) wm_1_138 rfl rfl dX5_isSolvable_192 ?_
              refine lv_iload hx hb dX5_isSolvable_195 (lv_at hl 0 rfl) ?_
              refine call_S (n := 2) (As := [.ref (a 14), .int x48]) (rest := []) hX hB (k_X0_findDivisor κ l a r14 q16 f_134 4 x48 (by decide)) ⟨by decide, by decide, by decide +kernel⟩ wm_2_122 wm_2_56 wm_1_29 wm_2_57 ⟨Nat.le_of_ble_eq_true rfl, Nat.le_of_ble_eq_true rfl⟩ ⟨Nat.le_of_ble_eq_true rfl, Nat.le_of_ble_eq_true rfl⟩ rfl hl.1 rfl (Nat.le_of_ble_eq_true rfl) dX5_isSolvable_197 (fun o w' H locs hp hB => ?_)
              obtain ⟨x51, rfl, rfl⟩ := hp
              refine W.eq (g2 := F0 m 200 ls [.long x51]) rfl ?_
              refine lv_aload hx hb dX5_isSolvable_200 (lv_at hl 2 rfl) ?_
              refine lv_iload hx hb dX5_isSolvable_202 (lv_at hl 0 rfl) ?_
              refine call_S (n := 2) (As := [.ref (a (6 + 2 * i3)), .int x48]) (rest := [.long x51]) hX hB (k_X0_findDivisor κ l a r14 q16 f_134 i3 x48 (lt15 hi3)) ⟨by decide, by decide, by decide +kernel⟩ wm_2_122 wm_2_56 wm_1_29 wm_2_57 ⟨Nat.le_of_ble_eq_true rfl, Nat.le_of_ble_eq_true rfl⟩ ⟨Nat.le_of_ble_eq_true rfl, Nat.le_of_ble_eq_true rfl⟩ rfl hl.1 rfl (Nat.le_of_ble_eq_true rfl) dX5_isSolvable_204 (fun o w' H locs hp hB => ?_)
              obtain ⟨x52, rfl, rfl⟩ := hp
              refine W.eq (g2 := F0 m 207 ls [.long x52, .long x51]) rfl ?_
              refine W.lcmp hx hb dX5_isSolvable_207 ?_
              refine lv_if_ne (tgt := 215) hx hb dX5_isSolvable_208 (by decide) (fun c53 => ?_) (fun c53 => ?_)
              · refine lv_iconst (v := 0) hx hb dX5_isSolvable_215 (by decide) ?_
                rw [← hQ]
                exact vx_ret ( end_i hX hB hA3 rfl rfl ⟨0, r14, q16, f_134, rfl, Or.inl rfl, (fun h => ho15 ((fun h => h) h)), (hq17.trans rfl), rfl⟩ (Nat.le_of_ble_eq_true rfl) (Nat.le_of_ble_eq_true rfl) dX5_isSolvable_216)
              · refine lv_iconst (v := 1) hx hb dX5_isSolvable_211 (by decide) ?_
                refine lv_goto (tgt := 216) hx hb dX5_isSolvable_212 (by decide) ?_
                rw [← hQ]
                exact vx_ret ( end_i hX hB hA3 rfl rfl ⟨1, r14, q16, f_134, rfl, Or.inr rfl, (fun h => ho15 ((fun h => h) h)), (hq17.trans rfl), rfl⟩ (Nat.le_of_ble_eq_true rfl) (Nat.le_of_ble_eq_true rfl) dX5_isSolvable_216)
          · refine lv_aload_n hx hb dX5_isSolvable_144 rfl (lv_at hl 3 rfl) ?_
            refine gf hX hB cw0 rfl in5 1 (by decide) wm_1_138 rfl rfl dX5_isSolvable_145 ?_
            refine lv_iload hx hb dX5_isSolvable_148 (lv_at hl 0 rfl) ?_
            refine lv_aload hx hb dX5_isSolvable_150 (lv_at hl 2 rfl) ?_
            refine gfN hX hB (cwG (i := i3) (lt15 hi3)) rfl in3 2 (by decide) wn_1_57 rfl rfl dX5_isSolvable_152 ?_
            refine lv_aload hx hb dX5_isSolvable_155 (lv_at hl 1 rfl) ?_
            refine lv_iload hx hb dX5_isSolvable_157 (lv_at hl 0 rfl) ?_
            refine lv_iload_n hx hb dX5_isSolvable_159 rfl (lv_at hl 6 rfl) ?_
            refine call_V (n := 2) (As := [.int y7_134, .int p2]) (rest := [.int (r14 (2 * i3 + 1)), .int y7_134, .ref (a 14)]) hX hB (k_X3_get κ l a r14 q16 f_134 i6 y7_134 p2 (lt15 hi6)) ⟨rfl, by decide, by decide, by decide +kernel⟩ wm_2_123 wm_1_187 wm_1_188 wm_1_2 wm_1_189 ⟨Nat.le_of_ble_eq_true rfl, Nat.le_of_ble_eq_true rfl⟩ ⟨Nat.le_of_ble_eq_true rfl, Nat.le_of_ble_eq_true rfl⟩ (cwG (i := i6) (lt15 hi6)) rfl rfl rfl hl.1 rfl (Nat.le_of_ble_eq_true rfl) dX5_isSolvable_160 (fun o w' H locs hp hB => ?_)
            obtain ⟨x54, rfl, rfl⟩ := hp
            refine W.eq (g2 := F0 m 163 ls [.long x54, .int (r14 (2 * i3 + 1)), .int y7_134, .ref (a 14)]) rfl ?_
            refine call_V (n := 3) (As := [.int y7_134, .int (r14 (2 * i3 + 1)), .long x54]) (rest := []) hX hB (k_X3_set κ l a r14 q16 f_134 4 y7_134 (r14 (2 * i3 + 1)) x54 (by decide)) ⟨rfl, by decide, by decide, by decide +kernel⟩ wm_3_51 wm_1_223 wm_1_224 wm_1_2 wm_1_225 ⟨Nat.le_of_ble_eq_true rfl, Nat.le_of_ble_eq_true rfl⟩ ⟨Nat.le_of_ble_eq_true rfl, Nat.le_of_ble_eq_true rfl⟩ (cwG (i := 4) (by decide)) rfl rfl rfl hl.1 rfl (Nat.le_of_ble_eq_true rfl) dX5_isSolvable_163 (fun o w' H locs hp hB => ?_)
            obtain ⟨f55, rfl, rfl⟩ := hp
            refine W.eq (g2 := F0 m 166 ls []) rfl ?_
            refine lv_iinc (v := y7_134 + 1) (lv' := [(7, .int (y7_134 + 1)), (6, .ref (a (6 + 2 * i6))), (5, .ref (a (6 + 2 * i3))), (0, .ref (a 0)), (1, .int p0), (2, .int p1), (3, .int p2), (4, .int p3)]) hx hb dX5_isSolvable_166 hl (k := 0) rfl rfl (by decide) rfl (fun ls hl => ?_)
            refine lv_goto (tgt := 134) hx hb dX5_isSolvable_169 (by decide) ?_
            exact ih134 (y7_134 + 1) f55 _ _  (gap_step c47 hμ134) hB _ hl
      exact lp134 _ 0 f19 _ _  (Nat.lt_succ_self _) hB _ hl
    · refine lv_aload_n hx hb dX5_isSolvable_61 rfl (lv_at hl 2 rfl) ?_
      refine gf hX hB cw0 rfl in5 4 (by decide) wm_1_141 rfl rfl dX5_isSolvable_62 ?_
      refine lv_aload hx hb dX5_isSolvable_65 (lv_at hl 1 rfl) ?_
      refine call_V (n := 1) (As := [.ref (a (6 + 2 * i3))]) (rest := []) hX hB (k_X1_walk κ l a r q f i3 (lt15 hi3)) ⟨rfl, by decide, by decide, by decide +kernel⟩ wm_2_72 wm_2_73 wm_2_74 wm_1_4 wm_2_75 ⟨Nat.le_of_ble_eq_true rfl, Nat.le_of_ble_eq_true rfl⟩ ⟨Nat.le_of_ble_eq_true rfl, Nat.le_of_ble_eq_true rfl⟩ cw3 rfl rfl rfl hl.1 rfl (Nat.le_of_ble_eq_true rfl) dX5_isSolvable_67 (fun o w' H locs hp hB => ?_)
      obtain ⟨r56, q58, f60, rfl, ho57, hq59, rfl⟩ := hp
      refine W.eq (g2 := F0 m 70 ls []) rfl ?_
      refine lv_aload_n hx hb dX5_isSolvable_70 rfl (lv_at hl 2 rfl) ?_
      refine gf hX hB cw0 rfl in5 4 (by decide) wm_1_141 rfl rfl dX5_isSolvable_71 ?_
      refine gfN hX hB cw3 rfl in1 3 (by decide) wn_1_105 rfl rfl dX5_isSolvable_74 ?_
      have jn85 : ∀ (z0_85 : Int32) (H : Heap) (locs : List Loc), z0_85 = 0 ∨ z0_85 = 1 → Bd κ A s (cw κ a r56 q58 f60) H locs → ∀ ls : Array Slot, lv_has ls 8 [(6, .ref (a (6 + 2 * i6))), (5, .ref (a (6 + 2 * i3))), (0, .ref (a 0)), (1, .int p0), (2, .int p1), (3, .int p2), (4, .int p3)] → W p l e (Rm 7 193 5 30) s m args below meth c H locs 4 24 Q (F0 m 85 ls [.int z0_85]) := by
        intro z0_85 H locs hz0_85 hB ls hl
        refine CX_after2 hX hB (run_XS (n := 1) (As := [.int z0_85]) (rest := []) hX hB (k_X5_needState κ l hst a r56 q58 f60 z0_85) ⟨by decide, by decide, by decide +kernel⟩ wm_5_26 wm_5_27 wm_1_1 wm_5_28 ⟨Nat.le_of_ble_eq_true rfl, Nat.le_of_ble_eq_true rfl⟩ ⟨Nat.le_of_ble_eq_true rfl, Nat.le_of_ble_eq_true rfl⟩ rfl hl.1 rfl (Nat.le_of_ble_eq_true rfl) dX5_isSolvable_85) (fun E ce q9 w' H locs hp hB hce hcv hcl => ?_) (fun o w' H locs hp hB => ?_)
        · obtain ⟨hE62, rfl⟩ := hp
          rw [← hQ]
          exact thrown_on hX hne hB hA3 hce hcv hcl ⟨((by decide : ∀ x ∈ (["java/lang/IllegalStateException"] : List String), x ∈ (["java/lang/IndexOutOfBoundsException", "java/lang/IllegalArgumentException", "java/lang/IllegalStateException"] : List String)) _ hE62), r56, q58, f60, (fun h => ho57 ((fun h => h) h)), (hq59.trans rfl), rfl⟩ (Nat.le_of_ble_eq_true rfl) (Nat.le_of_ble_eq_true rfl)
        obtain ⟨rfl, rfl⟩ := hp
        refine W.eq (g2 := F0 m 88 ls []) rfl ?_
        refine lv_aload_n hx hb dX5_isSolvable_88 rfl (lv_at hl 2 rfl) ?_
        refine gf hX hB cw0 rfl in5 5 (by decide) wm_1_142 rfl rfl dX5_isSolvable_89 ?_
        refine lv_aload_n hx hb dX5_isSolvable_92 rfl (lv_at hl 2 rfl) ?_
        refine gf hX hB cw0 rfl in5 4 (by decide) wm_1_141 rfl rfl dX5_isSolvable_93 ?_
        refine lv_aload hx hb dX5_isSolvable_96 (lv_at hl 0 rfl) ?_
        refine lv_iload_n hx hb dX5_isSolvable_98 rfl (lv_at hl 5 rfl) ?_
        refine call_V (n := 3) (As := [.ref (a 3), .ref (a (6 + 2 * i6)), .int p2]) (rest := []) hX hB (k_X2_divide κ l a r56 q58 f60 i6 p2 (lt15 hi6)) ⟨rfl, by decide, by decide, by decide +kernel⟩ wm_3_185 wm_3_186 wm_3_187 wm_1_5 wm_3_188 ⟨Nat.le_of_ble_eq_true rfl, Nat.le_of_ble_eq_true rfl⟩ ⟨Nat.le_of_ble_eq_true rfl, Nat.le_of_ble_eq_true rfl⟩ cw4 rfl rfl rfl hl.1 rfl (Nat.le_of_ble_eq_true rfl) dX5_isSolvable_99 (fun o w' H locs hp hB => ?_)
        obtain ⟨x63, r64, q66, f68, rfl, bx63, ho65, hq67, rfl⟩ := hp
        refine W.eq (g2 := F0 m 102 ls [.int x63]) rfl ?_
        rw [← hQ]
        exact vx_ret ( end_i hX hB hA3 rfl (nbz (by assumption)) ⟨x63, r64, q66, f68, rfl, (by assumption), (fun h => ho65 ((fun h => ho57 ((fun h => h) h)) h)), (hq67.trans (hq59.trans rfl)), rfl⟩ (Nat.le_of_ble_eq_true rfl) (Nat.le_of_ble_eq_true rfl) dX5_isSolvable_102)
      refine lv_if_ne (tgt := 84) hx hb dX5_isSolvable_77 (by decide) (fun c69 => ?_) (fun c69 => ?_)
      · refine lv_iconst (v := 0) hx hb dX5_isSolvable_84 (by decide) ?_
        exact jn85 0 _ _ (Or.inl rfl) hB _ hl
      · refine lv_iconst (v := 1) hx hb dX5_isSolvable_80 (by decide) ?_
        refine lv_goto (tgt := 85) hx hb dX5_isSolvable_81 (by decide) ?_
        exact jn85 1 _ _ (Or.inr rfl) hB _ hl
  refine lv_icmp_ne (tgt := 52) hx hb dX5_isSolvable_34 (by decide) (fun c70 => ?_) (fun c70 => ?_)
  · refine lv_iconst (v := 0) hx hb dX5_isSolvable_52 (by decide) ?_
    exact jn53 0 _ _ (Or.inl rfl) hB _ hl
  · refine lv_iload hx hb dX5_isSolvable_37 (lv_at hl 6 rfl) ?_
    refine lv_if_eq (tgt := 48) hx hb dX5_isSolvable_39 (by decide) (fun c71 => ?_) (fun c71 => ?_)
    · refine lv_iconst (v := 1) hx hb dX5_isSolvable_48 (by decide) ?_
      refine lv_goto (tgt := 53) hx hb dX5_isSolvable_49 (by decide) ?_
      exact jn53 1 _ _ (Or.inr rfl) hB _ hl
    · refine lv_iload hx hb dX5_isSolvable_42 (lv_at hl 6 rfl) ?_
      refine lv_iconst (v := 1) hx hb dX5_isSolvable_44 (by decide) ?_
      refine lv_icmp_ne (tgt := 52) hx hb dX5_isSolvable_45 (by decide) (fun c72 => ?_) (fun c72 => ?_)
      · refine lv_iconst (v := 0) hx hb dX5_isSolvable_52 (by decide) ?_
        exact jn53 0 _ _ (Or.inl rfl) hB _ hl
      · refine lv_iconst (v := 1) hx hb dX5_isSolvable_48 (by decide) ?_
        refine lv_goto (tgt := 53) hx hb dX5_isSolvable_49 (by decide) ?_
        exact jn53 1 _ _ (Or.inr rfl) hB _ hl
set_option maxHeartbeats 4000000 in
set_option maxRecDepth 100000 in
theorem k_X5_restColumn (κ : Kt) (l : Launch) (hst : l.stackTraces = false) (a : Nat → Nat) (r q : Nat → Int32) (f : Nat → Nat → Int64) (p0 : Int32) (p1 : Int32) (p2 : Int32)  : CX κ l yX5_restColumn cX5_restColumn 6 (some .int) 7 122 3 18 [.ref (a 0), .int p0, .int p1, .int p2] (cw κ a r q f) (fun o w' => ∃ x : Int32, ∃ (r' q' : Nat → Int32) (f' : Nat → Nat → Int64), o = some (.int x) ∧ (okr r → okr r') ∧ q' 4 = q 4 ∧ w' = cw κ a r' q' f') (fun E w' => E ∈ (["java/lang/IndexOutOfBoundsException", "java/lang/IllegalArgumentException", "java/lang/IllegalStateException"] : List String) ∧ ∃ (r' q' : Nat → Int32) (f' : Nat → Nat → Int64), (okr r → okr r') ∧ q' 4 = q 4 ∧ w' = cw κ a r' q' f') := by
  refine CX_begin (by decide) (Nat.le_of_ble_eq_true rfl) ?_
  intro p e s m args below meth c A Q hX hne hA3 hQ hB ls hl
  have hx := hX.1.1
  have hb := hX.1.2.1
  have hl : lv_has ls 6 [(0, .ref (a 0)), (1, .int p0), (2, .int p1), (3, .int p2)] := hl
  refine lv_aload_n hx hb dX5_restColumn_0 rfl (lv_at hl 0 rfl) ?_
  refine lv_iload_n hx hb dX5_restColumn_1 rfl (lv_at hl 1 rfl) ?_
  refine CX_after2 hX hB (run_XV (n := 1) (As := [.int p0]) (rest := []) hX hB (k_X5_needTable κ l hst a r q f p0) ⟨rfl, by decide, by decide, by decide +kernel⟩ wm_2_165 wm_2_167 wp_17 wm_1_1 wm_2_168 ⟨Nat.le_of_ble_eq_true rfl, Nat.le_of_ble_eq_true rfl⟩ ⟨Nat.le_of_ble_eq_true rfl, Nat.le_of_ble_eq_true rfl⟩ cw0 rfl rfl rfl hl.1 rfl (Nat.le_of_ble_eq_true rfl) dX5_restColumn_2) (fun E ce q9 w' H locs hp hB hce hcv hcl => ?_) (fun o w' H locs hp hB => ?_)
  · obtain ⟨hE1, rfl⟩ := hp
    rw [← hQ]
    exact thrown_on hX hne hB hA3 hce hcv hcl ⟨((by decide : ∀ x ∈ (["java/lang/IndexOutOfBoundsException"] : List String), x ∈ (["java/lang/IndexOutOfBoundsException", "java/lang/IllegalArgumentException", "java/lang/IllegalStateException"] : List String)) _ hE1), r, q, f, (fun h => h), rfl, rfl⟩ (Nat.le_of_ble_eq_true rfl) (Nat.le_of_ble_eq_true rfl)
  obtain ⟨i3, hi3, rfl, rfl⟩ := hp
  refine W.eq (g2 := F0 m 5 ls [.ref (a (6 + 2 * i3))]) rfl ?_
  refine lv_astore (lv' := [(4, .ref (a (6 + 2 * i3))), (0, .ref (a 0)), (1, .int p0), (2, .int p1), (3, .int p2)]) hx hb dX5_restColumn_5 hl (by decide) rfl (fun ls hl => ?_)
  refine lv_aload_n hx hb dX5_restColumn_7 rfl (lv_at hl 1 rfl) ?_
  refine gf hX hB cw0 rfl in5 4 (by decide) wm_1_141 rfl rfl dX5_restColumn_8 ?_
  refine lv_aload hx hb dX5_restColumn_11 (lv_at hl 0 rfl) ?_
  refine call_V (n := 1) (As := [.ref (a (6 + 2 * i3))]) (rest := []) hX hB (k_X1_walk κ l a r q f i3 (lt15 hi3)) ⟨rfl, by decide, by decide, by decide +kernel⟩ wm_2_72 wm_2_73 wm_2_74 wm_1_4 wm_2_75 ⟨Nat.le_of_ble_eq_true rfl, Nat.le_of_ble_eq_true rfl⟩ ⟨Nat.le_of_ble_eq_true rfl, Nat.le_of_ble_eq_true rfl⟩ cw3 rfl rfl rfl hl.1 rfl (Nat.le_of_ble_eq_true rfl) dX5_restColumn_13 (fun o w' H locs hp hB => ?_)
  obtain ⟨r4, q6, f8, rfl, ho5, hq7, rfl⟩ := hp
  refine W.eq (g2 := F0 m 16 ls []) rfl ?_
  refine lv_aload_n hx hb dX5_restColumn_16 rfl (lv_at hl 1 rfl) ?_
  refine gf hX hB cw0 rfl in5 4 (by decide) wm_1_141 rfl rfl dX5_restColumn_17 ?_
  refine gfN hX hB cw3 rfl in1 3 (by decide) wn_1_105 rfl rfl dX5_restColumn_20 ?_
  have jn31 : ∀ (z0_31 : Int32) (H : Heap) (locs : List Loc), z0_31 = 0 ∨ z0_31 = 1 → Bd κ A s (cw κ a r4 q6 f8) H locs → ∀ ls : Array Slot, lv_has ls 6 [(4, .ref (a (6 + 2 * i3))), (0, .ref (a 0)), (1, .int p0), (2, .int p1), (3, .int p2)] → W p l e (Rm 7 122 3 18) s m args below meth c H locs 1 6 Q (F0 m 31 ls [.int z0_31]) := by
    intro z0_31 H locs hz0_31 hB ls hl
    refine CX_after2 hX hB (run_XS (n := 1) (As := [.int z0_31]) (rest := []) hX hB (k_X5_needState κ l hst a r4 q6 f8 z0_31) ⟨by decide, by decide, by decide +kernel⟩ wm_5_26 wm_5_27 wm_1_1 wm_5_28 ⟨Nat.le_of_ble_eq_true rfl, Nat.le_of_ble_eq_true rfl⟩ ⟨Nat.le_of_ble_eq_true rfl, Nat.le_of_ble_eq_true rfl⟩ rfl hl.1 rfl (Nat.le_of_ble_eq_true rfl) dX5_restColumn_31) (fun E ce q9 w' H locs hp hB hce hcv hcl => ?_) (fun o w' H locs hp hB => ?_)
    · obtain ⟨hE10, rfl⟩ := hp
      rw [← hQ]
      exact thrown_on hX hne hB hA3 hce hcv hcl ⟨((by decide : ∀ x ∈ (["java/lang/IllegalStateException"] : List String), x ∈ (["java/lang/IndexOutOfBoundsException", "java/lang/IllegalArgumentException", "java/lang/IllegalStateException"] : List String)) _ hE10), r4, q6, f8, (fun h => ho5 ((fun h => h) h)), (hq7.trans rfl), rfl⟩ (Nat.le_of_ble_eq_true rfl) (Nat.le_of_ble_eq_true rfl)
    obtain ⟨rfl, rfl⟩ := hp
    refine W.eq (g2 := F0 m 34 ls []) rfl ?_
    refine lv_aload_n hx hb dX5_restColumn_34 rfl (lv_at hl 1 rfl) ?_
    refine gf hX hB cw0 rfl in5 4 (by decide) wm_1_141 rfl rfl dX5_restColumn_35 ?_
    refine call_V (n := 0) (As := []) (rest := []) hX hB (k_X1_countRank κ l a r4 q6 f8) ⟨rfl, by decide, by decide, by decide +kernel⟩ wm_5_97 wm_3_196 wm_3_197 wm_1_4 wm_3_198 ⟨Nat.le_of_ble_eq_true rfl, Nat.le_of_ble_eq_true rfl⟩ ⟨Nat.le_of_ble_eq_true rfl, Nat.le_of_ble_eq_true rfl⟩ cw3 rfl rfl rfl hl.1 rfl (Nat.le_of_ble_eq_true rfl) dX5_restColumn_38 (fun o w' H locs hp hB => ?_)
    obtain ⟨x11, rfl, rfl⟩ := hp
    refine W.eq (g2 := F0 m 41 ls [.int x11]) rfl ?_
    refine lv_istore (lv' := [(5, .int x11), (4, .ref (a (6 + 2 * i3))), (0, .ref (a 0)), (1, .int p0), (2, .int p1), (3, .int p2)]) hx hb dX5_restColumn_41 hl (by decide) rfl (fun ls hl => ?_)
    refine lv_iload_n hx hb dX5_restColumn_43 rfl (lv_at hl 4 rfl) ?_
    have jn77 : ∀ (z0_77 : Int32) (H : Heap) (locs : List Loc), z0_77 = 0 ∨ z0_77 = 1 → Bd κ A s (cw κ a r4 q6 f8) H locs → ∀ ls : Array Slot, lv_has ls 6 [(5, .int x11), (4, .ref (a (6 + 2 * i3))), (0, .ref (a 0)), (1, .int p0), (2, .int p1), (3, .int p2)] → W p l e (Rm 7 122 3 18) s m args below meth c H locs 2 12 Q (F0 m 77 ls [.int z0_77]) := by
      intro z0_77 H locs hz0_77 hB ls hl
      refine CX_after2 hX hB (run_XS (n := 1) (As := [.int z0_77]) (rest := []) hX hB (k_X5_needArgument κ l hst a r4 q6 f8 z0_77) ⟨by decide, by decide, by decide +kernel⟩ wm_3_0 wm_3_1 wm_1_1 wm_3_2 ⟨Nat.le_of_ble_eq_true rfl, Nat.le_of_ble_eq_true rfl⟩ ⟨Nat.le_of_ble_eq_true rfl, Nat.le_of_ble_eq_true rfl⟩ rfl hl.1 rfl (Nat.le_of_ble_eq_true rfl) dX5_restColumn_77) (fun E ce q9 w' H locs hp hB hce hcv hcl => ?_) (fun o w' H locs hp hB => ?_)
      · obtain ⟨hE16, rfl⟩ := hp
        rw [← hQ]
        exact thrown_on hX hne hB hA3 hce hcv hcl ⟨((by decide : ∀ x ∈ (["java/lang/IllegalArgumentException"] : List String), x ∈ (["java/lang/IndexOutOfBoundsException", "java/lang/IllegalArgumentException", "java/lang/IllegalStateException"] : List String)) _ hE16), r4, q6, f8, (fun h => ho5 ((fun h => h) h)), (hq7.trans rfl), rfl⟩ (Nat.le_of_ble_eq_true rfl) (Nat.le_of_ble_eq_true rfl)
      obtain ⟨rfl, rfl⟩ := hp
      refine W.eq (g2 := F0 m 80 ls []) rfl ?_
      refine lv_aload_n hx hb dX5_restColumn_80 rfl (lv_at hl 2 rfl) ?_
      refine gf hX hB cw0 rfl in5 4 (by decide) wm_1_141 rfl rfl dX5_restColumn_81 ?_
      refine gfN hX hB cw3 rfl in1 2 (by decide) wn_1_103 rfl rfl dX5_restColumn_84 ?_
      refine lv_iload_n hx hb dX5_restColumn_87 rfl (lv_at hl 5 rfl) ?_
      refine lv_iload hx hb dX5_restColumn_88 (lv_at hl 0 rfl) ?_
      refine lv_iload_n hx hb dX5_restColumn_90 rfl (lv_at hl 4 rfl) ?_
      refine lv_iadd hx hb dX5_restColumn_91 ?_
      refine call_V (n := 2) (As := [.int p2, .int (x11 + p1)]) (rest := []) hX hB (k_X3_get κ l a r4 q6 f8 10 p2 (x11 + p1) (by decide)) ⟨rfl, by decide, by decide, by decide +kernel⟩ wm_2_123 wm_1_187 wm_1_188 wm_1_2 wm_1_189 ⟨Nat.le_of_ble_eq_true rfl, Nat.le_of_ble_eq_true rfl⟩ ⟨Nat.le_of_ble_eq_true rfl, Nat.le_of_ble_eq_true rfl⟩ (cwG (i := 10) (by decide)) rfl rfl rfl hl.1 rfl (Nat.le_of_ble_eq_true rfl) dX5_restColumn_92 (fun o w' H locs hp hB => ?_)
      obtain ⟨x17, rfl, rfl⟩ := hp
      refine W.eq (g2 := F0 m 95 ls [.long x17]) rfl ?_
      refine lv_l2i hx hb dX5_restColumn_95 rfl ?_
      rw [← hQ]
      exact vx_ret ( end_i hX hB hA3 rfl rfl ⟨((x17).toInt32), r4, q6, f8, rfl, (fun h => ho5 ((fun h => h) h)), (hq7.trans rfl), rfl⟩ (Nat.le_of_ble_eq_true rfl) (Nat.le_of_ble_eq_true rfl) dX5_restColumn_96)
    refine lv_if_lt (tgt := 76) hx hb dX5_restColumn_44 (by decide) (fun c18 => ?_) (fun c18 => ?_)
    · refine lv_iconst (v := 0) hx hb dX5_restColumn_76 (by decide) ?_
      exact jn77 0 _ _ (Or.inl rfl) hB _ hl
    · refine lv_iload_n hx hb dX5_restColumn_47 rfl (lv_at hl 4 rfl) ?_
      refine lv_aload hx hb dX5_restColumn_48 (lv_at hl 1 rfl) ?_
      refine gfN hX hB (cwG (i := i3) (lt15 hi3)) rfl in3 2 (by decide) wn_1_57 rfl rfl dX5_restColumn_50 ?_
      refine lv_iload hx hb dX5_restColumn_53 (lv_at hl 0 rfl) ?_
      refine lv_isub hx hb dX5_restColumn_55 ?_
      refine lv_icmp_ge (tgt := 76) hx hb dX5_restColumn_56 (by decide) (fun c19 => ?_) (fun c19 => ?_)
      · refine lv_iconst (v := 0) hx hb dX5_restColumn_76 (by decide) ?_
        exact jn77 0 _ _ (Or.inl rfl) hB _ hl
      · refine lv_iload_n hx hb dX5_restColumn_59 rfl (lv_at hl 5 rfl) ?_
        refine lv_if_lt (tgt := 76) hx hb dX5_restColumn_60 (by decide) (fun c20 => ?_) (fun c20 => ?_)
        · refine lv_iconst (v := 0) hx hb dX5_restColumn_76 (by decide) ?_
          exact jn77 0 _ _ (Or.inl rfl) hB _ hl
        · refine lv_iload_n hx hb dX5_restColumn_63 rfl (lv_at hl 5 rfl) ?_
          refine lv_aload hx hb dX5_restColumn_64 (lv_at hl 1 rfl) ?_
          refine gfN hX hB (cwG (i := i3) (lt15 hi3)) rfl in3 2 (by decide) wn_1_57 rfl rfl dX5_restColumn_66 ?_
          refine lv_icmp_ge (tgt := 76) hx hb dX5_restColumn_69 (by decide) (fun c21 => ?_) (fun c21 => ?_)
          · refine lv_iconst (v := 0) hx hb dX5_restColumn_76 (by decide) ?_
            exact jn77 0 _ _ (Or.inl rfl) hB _ hl
          · refine lv_iconst (v := 1) hx hb dX5_restColumn_72 (by decide) ?_
            refine lv_goto (tgt := 77) hx hb dX5_restColumn_73 (by decide) ?_
            exact jn77 1 _ _ (Or.inr rfl) hB _ hl
  refine lv_if_ne (tgt := 30) hx hb dX5_restColumn_23 (by decide) (fun c22 => ?_) (fun c22 => ?_)
  · refine lv_iconst (v := 0) hx hb dX5_restColumn_30 (by decide) ?_
    exact jn31 0 _ _ (Or.inl rfl) hB _ hl
  · refine lv_iconst (v := 1) hx hb dX5_restColumn_26 (by decide) ?_
    refine lv_goto (tgt := 31) hx hb dX5_restColumn_27 (by decide) ?_
    exact jn31 1 _ _ (Or.inr rfl) hB _ hl
set_option maxHeartbeats 4000000 in
set_option maxRecDepth 100000 in
theorem k_X5_restOf (κ : Kt) (l : Launch) (hst : l.stackTraces = false) (a : Nat → Nat) (r q : Nat → Int32) (f : Nat → Nat → Int64) (p0 : Int32) (p1 : Int32) (p2 : Int32)  : CX κ l yX5_restOf cX5_restOf 14 (some .int) 7 186 5 30 [.ref (a 0), .int p0, .int p1, .int p2] (cw κ a r q f) (fun o w' => ∃ x : Int32, ∃ (r' q' : Nat → Int32) (f' : Nat → Nat → Int64), o = some (.int x) ∧ (okr r → okr r') ∧ q' 4 = q 4 ∧ w' = cw κ a r' q' f') (fun E w' => E ∈ (["java/lang/IndexOutOfBoundsException", "java/lang/IllegalArgumentException", "java/lang/IllegalStateException"] : List String) ∧ ∃ (r' q' : Nat → Int32) (f' : Nat → Nat → Int64), (okr r → okr r') ∧ q' 4 = q 4 ∧ w' = cw κ a r' q' f') := by
  refine CX_begin (by decide) (Nat.le_of_ble_eq_true rfl) ?_
  intro p e s m args below meth c A Q hX hne hA3 hQ hB ls hl
  have hx := hX.1.1
  have hb := hX.1.2.1
  have hl : lv_has ls 14 [(0, .ref (a 0)), (1, .int p0), (2, .int p1), (3, .int p2)] := hl
  refine lv_aload_n hx hb dX5_restOf_0 rfl (lv_at hl 0 rfl) ?_
  refine lv_iload_n hx hb dX5_restOf_1 rfl (lv_at hl 1 rfl) ?_
  refine CX_after2 hX hB (run_XV (n := 1) (As := [.int p0]) (rest := []) hX hB (k_X5_needTable κ l hst a r q f p0) ⟨rfl, by decide, by decide, by decide +kernel⟩ wm_2_165 wm_2_167 wp_17 wm_1_1 wm_2_168 ⟨Nat.le_of_ble_eq_true rfl, Nat.le_of_ble_eq_true rfl⟩ ⟨Nat.le_of_ble_eq_true rfl, Nat.le_of_ble_eq_true rfl⟩ cw0 rfl rfl rfl hl.1 rfl (Nat.le_of_ble_eq_true rfl) dX5_restOf_2) (fun E ce q9 w' H locs hp hB hce hcv hcl => ?_) (fun o w' H locs hp hB => ?_)
  · obtain ⟨hE1, rfl⟩ := hp
    rw [← hQ]
    exact thrown_on hX hne hB hA3 hce hcv hcl ⟨((by decide : ∀ x ∈ (["java/lang/IndexOutOfBoundsException"] : List String), x ∈ (["java/lang/IndexOutOfBoundsException", "java/lang/IllegalArgumentException", "java/lang/IllegalStateException"] : List String)) _ hE1), r, q, f, (fun h => h), rfl, rfl⟩ (Nat.le_of_ble_eq_true rfl) (Nat.le_of_ble_eq_true rfl)
  obtain ⟨i3, hi3, rfl, rfl⟩ := hp
  refine W.eq (g2 := F0 m 5 ls [.ref (a (6 + 2 * i3))]) rfl ?_
  refine lv_astore (lv' := [(4, .ref (a (6 + 2 * i3))), (0, .ref (a 0)), (1, .int p0), (2, .int p1), (3, .int p2)]) hx hb dX5_restOf_5 hl (by decide) rfl (fun ls hl => ?_)
  refine lv_aload_n hx hb dX5_restOf_7 rfl (lv_at hl 1 rfl) ?_
  refine lv_iload_n hx hb dX5_restOf_8 rfl (lv_at hl 3 rfl) ?_
  refine CX_after2 hX hB (run_XV (n := 1) (As := [.int p1]) (rest := []) hX hB (k_X5_needTable κ l hst a r q f p1) ⟨rfl, by decide, by decide, by decide +kernel⟩ wm_2_165 wm_2_167 wp_17 wm_1_1 wm_2_168 ⟨Nat.le_of_ble_eq_true rfl, Nat.le_of_ble_eq_true rfl⟩ ⟨Nat.le_of_ble_eq_true rfl, Nat.le_of_ble_eq_true rfl⟩ cw0 rfl rfl rfl hl.1 rfl (Nat.le_of_ble_eq_true rfl) dX5_restOf_9) (fun E ce q9 w' H locs hp hB hce hcv hcl => ?_) (fun o w' H locs hp hB => ?_)
  · obtain ⟨hE4, rfl⟩ := hp
    rw [← hQ]
    exact thrown_on hX hne hB hA3 hce hcv hcl ⟨((by decide : ∀ x ∈ (["java/lang/IndexOutOfBoundsException"] : List String), x ∈ (["java/lang/IndexOutOfBoundsException", "java/lang/IllegalArgumentException", "java/lang/IllegalStateException"] : List String)) _ hE4), r, q, f, (fun h => h), rfl, rfl⟩ (Nat.le_of_ble_eq_true rfl) (Nat.le_of_ble_eq_true rfl)
  obtain ⟨i6, hi6, rfl, rfl⟩ := hp
  refine W.eq (g2 := F0 m 12 ls [.ref (a (6 + 2 * i6))]) rfl ?_
  refine lv_astore (lv' := [(5, .ref (a (6 + 2 * i6))), (4, .ref (a (6 + 2 * i3))), (0, .ref (a 0)), (1, .int p0), (2, .int p1), (3, .int p2)]) hx hb dX5_restOf_12 hl (by decide) rfl (fun ls hl => ?_)
  refine lv_aload hx hb dX5_restOf_14 (lv_at hl 0 rfl) ?_
  refine lv_iconst (v := 0) hx hb dX5_restOf_16 (by decide) ?_
  refine lv_iload_n hx hb dX5_restOf_17 rfl (lv_at hl 5 rfl) ?_
  refine call_V (n := 2) (As := [.int 0, .int p2]) (rest := []) hX hB (k_X3_hasLine κ l a r q f i6 0 p2 (lt15 hi6)) ⟨rfl, by decide, by decide, by decide +kernel⟩ wm_3_43 wm_3_44 wm_3_45 wm_1_2 wm_3_46 ⟨Nat.le_of_ble_eq_true rfl, Nat.le_of_ble_eq_true rfl⟩ ⟨Nat.le_of_ble_eq_true rfl, Nat.le_of_ble_eq_true rfl⟩ (cwG (i := i6) (lt15 hi6)) rfl rfl rfl hl.1 rfl (Nat.le_of_ble_eq_true rfl) dX5_restOf_18 (fun o w' H locs hp hB => ?_)
  obtain ⟨x7, rfl, bx7, rfl⟩ := hp
  refine W.eq (g2 := F0 m 21 ls [.int x7]) rfl ?_
  refine CX_after2 hX hB (run_XS (n := 1) (As := [.int x7]) (rest := []) hX hB (k_X5_needIndex κ l hst a r q f x7) ⟨by decide, by decide, by decide +kernel⟩ wm_3_47 wm_3_48 wm_1_1 wm_3_49 ⟨Nat.le_of_ble_eq_true rfl, Nat.le_of_ble_eq_true rfl⟩ ⟨Nat.le_of_ble_eq_true rfl, Nat.le_of_ble_eq_true rfl⟩ rfl hl.1 rfl (Nat.le_of_ble_eq_true rfl) dX5_restOf_21) (fun E ce q9 w' H locs hp hB hce hcv hcl => ?_) (fun o w' H locs hp hB => ?_)
  · obtain ⟨hE8, rfl⟩ := hp
    rw [← hQ]
    exact thrown_on hX hne hB hA3 hce hcv hcl ⟨((by decide : ∀ x ∈ (["java/lang/IndexOutOfBoundsException"] : List String), x ∈ (["java/lang/IndexOutOfBoundsException", "java/lang/IllegalArgumentException", "java/lang/IllegalStateException"] : List String)) _ hE8), r, q, f, (fun h => h), rfl, rfl⟩ (Nat.le_of_ble_eq_true rfl) (Nat.le_of_ble_eq_true rfl)
  obtain ⟨rfl, rfl⟩ := hp
  refine W.eq (g2 := F0 m 24 ls []) rfl ?_
  refine lv_aload_n hx hb dX5_restOf_24 rfl (lv_at hl 2 rfl) ?_
  refine lv_aload hx hb dX5_restOf_25 (lv_at hl 1 rfl) ?_
  refine call_V (n := 1) (As := [.ref (a (6 + 2 * i3))]) (rest := []) hX hB (k_X5_leavesRests κ l a r q f i3 (lt15 hi3)) ⟨rfl, by decide, by decide, by decide +kernel⟩ wm_5_105 wm_5_107 wp_24 wm_1_1 wm_5_108 ⟨Nat.le_of_ble_eq_true rfl, Nat.le_of_ble_eq_true rfl⟩ ⟨Nat.le_of_ble_eq_true rfl, Nat.le_of_ble_eq_true rfl⟩ cw0 rfl rfl rfl hl.1 rfl (Nat.le_of_ble_eq_true rfl) dX5_restOf_27 (fun o w' H locs hp hB => ?_)
  obtain ⟨x9, r10, q12, f14, rfl, bx9, ho11, hq13, rfl⟩ := hp
  refine W.eq (g2 := F0 m 30 ls [.int x9]) rfl ?_
  refine CX_after2 hX hB (run_XS (n := 1) (As := [.int x9]) (rest := []) hX hB (k_X5_needState κ l hst a r10 q12 f14 x9) ⟨by decide, by decide, by decide +kernel⟩ wm_5_26 wm_5_27 wm_1_1 wm_5_28 ⟨Nat.le_of_ble_eq_true rfl, Nat.le_of_ble_eq_true rfl⟩ ⟨Nat.le_of_ble_eq_true rfl, Nat.le_of_ble_eq_true rfl⟩ rfl hl.1 rfl (Nat.le_of_ble_eq_true rfl) dX5_restOf_30) (fun E ce q9 w' H locs hp hB hce hcv hcl => ?_) (fun o w' H locs hp hB => ?_)
  · obtain ⟨hE15, rfl⟩ := hp
    rw [← hQ]
    exact thrown_on hX hne hB hA3 hce hcv hcl ⟨((by decide : ∀ x ∈ (["java/lang/IllegalStateException"] : List String), x ∈ (["java/lang/IndexOutOfBoundsException", "java/lang/IllegalArgumentException", "java/lang/IllegalStateException"] : List String)) _ hE15), r10, q12, f14, (fun h => ho11 ((fun h => h) h)), (hq13.trans rfl), rfl⟩ (Nat.le_of_ble_eq_true rfl) (Nat.le_of_ble_eq_true rfl)
  obtain ⟨rfl, rfl⟩ := hp
  refine W.eq (g2 := F0 m 33 ls []) rfl ?_
  refine lv_aload hx hb dX5_restOf_33 (lv_at hl 1 rfl) ?_
  refine gfN hX hB (cwG (i := i3) (lt15 hi3)) rfl in3 2 (by decide) wn_1_57 rfl rfl dX5_restOf_35 ?_
  refine lv_aload hx hb dX5_restOf_38 (lv_at hl 0 rfl) ?_
  refine gfN hX hB (cwG (i := i6) (lt15 hi6)) rfl in3 2 (by decide) wn_1_57 rfl rfl dX5_restOf_40 ?_
  have jn51 : ∀ (z0_51 : Int32) (H : Heap) (locs : List Loc), z0_51 = 0 ∨ z0_51 = 1 → Bd κ A s (cw κ a r10 q12 f14) H locs → ∀ ls : Array Slot, lv_has ls 14 [(5, .ref (a (6 + 2 * i6))), (4, .ref (a (6 + 2 * i3))), (0, .ref (a 0)), (1, .int p0), (2, .int p1), (3, .int p2)] → W p l e (Rm 7 186 5 30) s m args below meth c H locs 4 24 Q (F0 m 51 ls [.int z0_51]) := by
    intro z0_51 H locs hz0_51 hB ls hl
    refine CX_after2 hX hB (run_XS (n := 1) (As := [.int z0_51]) (rest := []) hX hB (k_X5_needArgument κ l hst a r10 q12 f14 z0_51) ⟨by decide, by decide, by decide +kernel⟩ wm_3_0 wm_3_1 wm_1_1 wm_3_2 ⟨Nat.le_of_ble_eq_true rfl, Nat.le_of_ble_eq_true rfl⟩ ⟨Nat.le_of_ble_eq_true rfl, Nat.le_of_ble_eq_true rfl⟩ rfl hl.1 rfl (Nat.le_of_ble_eq_true rfl) dX5_restOf_51) (fun E ce q9 w' H locs hp hB hce hcv hcl => ?_) (fun o w' H locs hp hB => ?_)
    · obtain ⟨hE17, rfl⟩ := hp
      rw [← hQ]
      exact thrown_on hX hne hB hA3 hce hcv hcl ⟨((by decide : ∀ x ∈ (["java/lang/IllegalArgumentException"] : List String), x ∈ (["java/lang/IndexOutOfBoundsException", "java/lang/IllegalArgumentException", "java/lang/IllegalStateException"] : List String)) _ hE17), r10, q12, f14, (fun h => ho11 ((fun h => h) h)), (hq13.trans rfl), rfl⟩ (Nat.le_of_ble_eq_true rfl) (Nat.le_of_ble_eq_true rfl)
    obtain ⟨rfl, rfl⟩ := hp
    refine W.eq (g2 := F0 m 54 ls []) rfl ?_
    refine lv_iconst (v := 0) hx hb dX5_restOf_54 (by decide) ?_
    refine lv_istore (lv' := [(6, .int 0), (5, .ref (a (6 + 2 * i6))), (4, .ref (a (6 + 2 * i3))), (0, .ref (a 0)), (1, .int p0), (2, .int p1), (3, .int p2)]) hx hb dX5_restOf_55 hl (by decide) rfl (fun ls hl => ?_)
    have lp57 : ∀ (nn : Nat) (y6_57 : Int32) (f_57 : Nat → Nat → Int64) (H : Heap) (locs : List Loc), gap (r10 (2 * i3 + 1)) y6_57 < nn → Bd κ A s (cw κ a r10 q12 f_57) H locs → ∀ ls : Array Slot, lv_has ls 14 [(6, .int y6_57), (5, .ref (a (6 + 2 * i6))), (4, .ref (a (6 + 2 * i3))), (0, .ref (a 0)), (1, .int p0), (2, .int p1), (3, .int p2)] → W p l e (Rm 7 186 5 30) s m args below meth c H locs 5 30 Q (F0 m 57 ls []) := by
      intro nn
      induction nn with
      | zero => intro y6_57 f_57 H locs hμ; exact absurd hμ (Nat.not_lt_zero _)
      | succ nn ih57 =>
        intro y6_57 f_57 H locs hμ57 hB ls hl
        refine lv_iload hx hb dX5_restOf_57 (lv_at hl 0 rfl) ?_
        refine lv_aload hx hb dX5_restOf_59 (lv_at hl 2 rfl) ?_
        refine gfN hX hB (cwG (i := i3) (lt15 hi3)) rfl in3 2 (by decide) wn_1_57 rfl rfl dX5_restOf_61 ?_
        refine lv_icmp_ge (tgt := 87) hx hb dX5_restOf_64 (by decide) (fun c210 => ?_) (fun c210 => ?_)
        · refine lv_lconst (v := 0) hx hb dX5_restOf_87 (by decide) ?_
          refine lv_lstore (lv' := [(6, .long 0), (5, .ref (a (6 + 2 * i6))), (4, .ref (a (6 + 2 * i3))), (0, .ref (a 0)), (1, .int p0), (2, .int p1), (3, .int p2)]) hx hb dX5_restOf_88 hl (by decide) rfl (fun ls hl => ?_)
          refine lv_iconst (v := 0) hx hb dX5_restOf_90 (by decide) ?_
          refine lv_istore (lv' := [(8, .int 0), (6, .long 0), (5, .ref (a (6 + 2 * i6))), (4, .ref (a (6 + 2 * i3))), (0, .ref (a 0)), (1, .int p0), (2, .int p1), (3, .int p2)]) hx hb dX5_restOf_91 hl (by decide) rfl (fun ls hl => ?_)
          have lp93 : ∀ (nn : Nat) (y8_93 : Int32) (y6_93 : Int64) (f_93 : Nat → Nat → Int64) (H : Heap) (locs : List Loc), gap (r10 (2 * i3 + 1)) y8_93 < nn → Bd κ A s (cw κ a r10 q12 f_93) H locs → ∀ ls : Array Slot, lv_has ls 14 [(8, .int y8_93), (6, .long y6_93), (5, .ref (a (6 + 2 * i6))), (4, .ref (a (6 + 2 * i3))), (0, .ref (a 0)), (1, .int p0), (2, .int p1), (3, .int p2)] → W p l e (Rm 7 186 5 30) s m args below meth c H locs 5 30 Q (F0 m 93 ls []) := by
            intro nn
            induction nn with
            | zero => intro y8_93 y6_93 f_93 H locs hμ; exact absurd hμ (Nat.not_lt_zero _)
            | succ nn ih93 =>
              intro y8_93 y6_93 f_93 H locs hμ93 hB ls hl
              refine lv_iload hx hb dX5_restOf_93 (lv_at hl 0 rfl) ?_
              refine lv_aload hx hb dX5_restOf_95 (lv_at hl 3 rfl) ?_
              refine gfN hX hB (cwG (i := i3) (lt15 hi3)) rfl in3 2 (by decide) wn_1_57 rfl rfl dX5_restOf_97 ?_
              refine lv_icmp_ge (tgt := 202) hx hb dX5_restOf_100 (by decide) (fun c273 => ?_) (fun c273 => ?_)
              · refine lv_lload hx hb dX5_restOf_202 (lv_at hl 1 rfl) ?_
                refine lv_l2i hx hb dX5_restOf_204 rfl ?_
                rw [← hQ]
                exact vx_ret ( end_i hX hB hA3 rfl rfl ⟨((y6_93).toInt32), r10, q12, f_93, rfl, (fun h => ho11 ((fun h => h) h)), (hq13.trans rfl), rfl⟩ (Nat.le_of_ble_eq_true rfl) (Nat.le_of_ble_eq_true rfl) dX5_restOf_205)
              · refine lv_aload_n hx hb dX5_restOf_103 rfl (lv_at hl 4 rfl) ?_
                refine gf hX hB cw0 rfl in5 3 (by decide) wm_1_140 rfl rfl dX5_restOf_104 ?_
                refine gfN hX hB cw2 rfl in4 0 (by decide) wn_1_75 rfl rfl dX5_restOf_107 ?_
                refine lv_iload hx hb dX5_restOf_110 (lv_at hl 0 rfl) ?_
                refine lv_iload hx hb dX5_restOf_112 (lv_at hl 0 rfl) ?_
                refine call_V (n := 2) (As := [.int y8_93, .int y8_93]) (rest := []) hX hB (k_X3_get κ l a r10 q12 f_93 6 y8_93 y8_93 (by decide)) ⟨rfl, by decide, by decide, by decide +kernel⟩ wm_2_123 wm_1_187 wm_1_188 wm_1_2 wm_1_189 ⟨Nat.le_of_ble_eq_true rfl, Nat.le_of_ble_eq_true rfl⟩ ⟨Nat.le_of_ble_eq_true rfl, Nat.le_of_ble_eq_true rfl⟩ (cwG (i := 6) (by decide)) rfl rfl rfl hl.1 rfl (Nat.le_of_ble_eq_true rfl) dX5_restOf_114 (fun o w' H locs hp hB => ?_)
                obtain ⟨x274, rfl, rfl⟩ := hp
                refine W.eq (g2 := F0 m 117 ls [.long x274]) rfl ?_
                refine lv_lstore (lv' := [(9, .long x274), (8, .int y8_93), (6, .long y6_93), (5, .ref (a (6 + 2 * i6))), (4, .ref (a (6 + 2 * i3))), (0, .ref (a 0)), (1, .int p0), (2, .int p1), (3, .int p2)]) hx hb dX5_restOf_117 hl (by decide) rfl (fun ls hl => ?_)
                refine lv_aload_n hx hb dX5_restOf_119 rfl (lv_at hl 5 rfl) ?_
                refine lv_iload hx hb dX5_restOf_120 (lv_at hl 1 rfl) ?_
                refine call_V (n := 1) (As := [.int y8_93]) (rest := []) hX hB (k_X5_rowNumber κ l a r10 q12 f_93 y8_93) ⟨rfl, by decide, by decide, by decide +kernel⟩ wm_5_114 wm_5_116 wp_26 wm_1_1 wm_5_117 ⟨Nat.le_of_ble_eq_true rfl, Nat.le_of_ble_eq_true rfl⟩ ⟨Nat.le_of_ble_eq_true rfl, Nat.le_of_ble_eq_true rfl⟩ cw0 rfl rfl rfl hl.1 rfl (Nat.le_of_ble_eq_true rfl) dX5_restOf_122 (fun o w' H locs hp hB => ?_)
                obtain ⟨x275, rfl, rfl⟩ := hp
                refine W.eq (g2 := F0 m 125 ls [.long x275]) rfl ?_
                refine lv_lload hx hb dX5_restOf_125 (lv_at hl 0 rfl) ?_
                refine call_S (n := 2) (As := [.long x275, .long x274]) (rest := []) hX hB (k_X5_divideDown κ l (cw κ a r10 q12 f_93) x275 x274 ) ⟨by decide, by decide, by decide +kernel⟩ wm_5_113 wm_2_17 wm_1_1 wm_2_18 ⟨Nat.le_of_ble_eq_true rfl, Nat.le_of_ble_eq_true rfl⟩ ⟨Nat.le_of_ble_eq_true rfl, Nat.le_of_ble_eq_true rfl⟩ rfl hl.1 rfl (Nat.le_of_ble_eq_true rfl) dX5_restOf_127 (fun o w' H locs hp hB => ?_)
                obtain ⟨x276, rfl, hw9⟩ := hp
                rw [hw9] at hB
                refine W.eq (g2 := F0 m 130 ls [.long x276]) rfl ?_
                refine lv_lstore (lv' := [(11, .long x276), (9, .long x274), (8, .int y8_93), (6, .long y6_93), (5, .ref (a (6 + 2 * i6))), (4, .ref (a (6 + 2 * i3))), (0, .ref (a 0)), (1, .int p0), (2, .int p1), (3, .int p2)]) hx hb dX5_restOf_130 hl (by decide) rfl (fun ls hl => ?_)
                refine lv_iload hx hb dX5_restOf_132 (lv_at hl 2 rfl) ?_
                refine lv_istore (lv' := [(13, .int y8_93), (11, .long x276), (9, .long x274), (8, .int y8_93), (6, .long y6_93), (5, .ref (a (6 + 2 * i6))), (4, .ref (a (6 + 2 * i3))), (0, .ref (a 0)), (1, .int p0), (2, .int p1), (3, .int p2)]) hx hb dX5_restOf_134 hl (by decide) rfl (fun ls hl => ?_)
                have lp136 : ∀ (nn : Nat) (y13_136 : Int32) (f_136 : Nat → Nat → Int64) (H : Heap) (locs : List Loc), gap (r10 (2 * i3 + 1)) y13_136 < nn → Bd κ A s (cw κ a r10 q12 f_136) H locs → ∀ ls : Array Slot, lv_has ls 14 [(13, .int y13_136), (11, .long x276), (9, .long x274), (8, .int y8_93), (6, .long y6_93), (5, .ref (a (6 + 2 * i6))), (4, .ref (a (6 + 2 * i3))), (0, .ref (a 0)), (1, .int p0), (2, .int p1), (3, .int p2)] → W p l e (Rm 7 186 5 30) s m args below meth c H locs 5 30 Q (F0 m 136 ls []) := by
                  intro nn
                  induction nn with
                  | zero => intro y13_136 f_136 H locs hμ; exact absurd hμ (Nat.not_lt_zero _)
                  | succ nn ih136 =>
                    intro y13_136 f_136 H locs hμ136 hB ls hl
                    refine lv_iload hx hb dX5_restOf_136 (lv_at hl 0 rfl) ?_
                    refine lv_aload hx hb dX5_restOf_138 (lv_at hl 6 rfl) ?_
                    refine gfN hX hB (cwG (i := i3) (lt15 hi3)) rfl in3 2 (by decide) wn_1_57 rfl rfl dX5_restOf_140 ?_
                    refine lv_icmp_ge (tgt := 182) hx hb dX5_restOf_143 (by decide) (fun c299 => ?_) (fun c299 => ?_)
                    · refine lv_lload hx hb dX5_restOf_182 (lv_at hl 4 rfl) ?_
                      refine lv_lload hx hb dX5_restOf_184 (lv_at hl 2 rfl) ?_
                      refine lv_lmul hx hb dX5_restOf_186 ?_
                      refine lv_aload_n hx hb dX5_restOf_187 rfl (lv_at hl 7 rfl) ?_
                      refine lv_iload hx hb dX5_restOf_188 (lv_at hl 3 rfl) ?_
                      refine call_V (n := 1) (As := [.int y8_93]) (rest := [.long (y6_93 * x274)]) hX hB (k_X5_rowNumber κ l a r10 q12 f_136 y8_93) ⟨rfl, by decide, by decide, by decide +kernel⟩ wm_5_114 wm_5_116 wp_26 wm_1_1 wm_5_117 ⟨Nat.le_of_ble_eq_true rfl, Nat.le_of_ble_eq_true rfl⟩ ⟨Nat.le_of_ble_eq_true rfl, Nat.le_of_ble_eq_true rfl⟩ cw0 rfl rfl rfl hl.1 rfl (Nat.le_of_ble_eq_true rfl) dX5_restOf_190 (fun o w' H locs hp hB => ?_)
                      obtain ⟨x300, rfl, rfl⟩ := hp
                      refine W.eq (g2 := F0 m 193 ls [.long x300, .long (y6_93 * x274)]) rfl ?_
                      refine lv_ladd hx hb dX5_restOf_193 ?_
                      refine lv_lstore (lv' := [(6, .long ((y6_93 * x274) + x300)), (13, .int y13_136), (11, .long x276), (9, .long x274), (8, .int y8_93), (5, .ref (a (6 + 2 * i6))), (4, .ref (a (6 + 2 * i3))), (0, .ref (a 0)), (1, .int p0), (2, .int p1), (3, .int p2)]) hx hb dX5_restOf_194 hl (by decide) rfl (fun ls hl => ?_)
                      refine lv_iinc (v := y8_93 + 1) (lv' := [(8, .int (y8_93 + 1)), (6, .long ((y6_93 * x274) + x300)), (13, .int y13_136), (11, .long x276), (9, .long x274), (5, .ref (a (6 + 2 * i6))), (4, .ref (a (6 + 2 * i3))), (0, .ref (a 0)), (1, .int p0), (2, .int p1), (3, .int p2)]) hx hb dX5_restOf_196 hl (k := 4) rfl rfl (by decide) rfl (fun ls hl => ?_)
                      refine lv_goto (tgt := 93) hx hb dX5_restOf_199 (by decide) ?_
                      exact ih93 (y8_93 + 1) ((y6_93 * x274) + x300) f_136 _ _  (gap_step c273 hμ93) hB _ (lv_sub hl [0, 1, 5, 6, 7, 8, 9, 10] rfl)
                    · refine lv_aload_n hx hb dX5_restOf_146 rfl (lv_at hl 7 rfl) ?_
                      refine lv_iload hx hb dX5_restOf_147 (lv_at hl 0 rfl) ?_
                      refine lv_aload_n hx hb dX5_restOf_149 rfl (lv_at hl 7 rfl) ?_
                      refine lv_iload hx hb dX5_restOf_150 (lv_at hl 0 rfl) ?_
                      refine call_V (n := 1) (As := [.int y13_136]) (rest := [.int y13_136, .ref (a 0)]) hX hB (k_X5_rowNumber κ l a r10 q12 f_136 y13_136) ⟨rfl, by decide, by decide, by decide +kernel⟩ wm_5_114 wm_5_116 wp_26 wm_1_1 wm_5_117 ⟨Nat.le_of_ble_eq_true rfl, Nat.le_of_ble_eq_true rfl⟩ ⟨Nat.le_of_ble_eq_true rfl, Nat.le_of_ble_eq_true rfl⟩ cw0 rfl rfl rfl hl.1 rfl (Nat.le_of_ble_eq_true rfl) dX5_restOf_152 (fun o w' H locs hp hB => ?_)
                      obtain ⟨x301, rfl, rfl⟩ := hp
                      refine W.eq (g2 := F0 m 155 ls [.long x301, .int y13_136, .ref (a 0)]) rfl ?_
                      refine lv_lload hx hb dX5_restOf_155 (lv_at hl 1 rfl) ?_
                      refine lv_aload_n hx hb dX5_restOf_157 rfl (lv_at hl 7 rfl) ?_
                      refine gf hX hB cw0 rfl in5 3 (by decide) wm_1_140 rfl rfl dX5_restOf_158 ?_
                      refine gfN hX hB cw2 rfl in4 0 (by decide) wn_1_75 rfl rfl dX5_restOf_161 ?_
                      refine lv_iload hx hb dX5_restOf_164 (lv_at hl 3 rfl) ?_
                      refine lv_iload hx hb dX5_restOf_166 (lv_at hl 0 rfl) ?_
                      refine call_V (n := 2) (As := [.int y8_93, .int y13_136]) (rest := [.long x276, .long x301, .int y13_136, .ref (a 0)]) hX hB (k_X3_get κ l a r10 q12 f_136 6 y8_93 y13_136 (by decide)) ⟨rfl, by decide, by decide, by decide +kernel⟩ wm_2_123 wm_1_187 wm_1_188 wm_1_2 wm_1_189 ⟨Nat.le_of_ble_eq_true rfl, Nat.le_of_ble_eq_true rfl⟩ ⟨Nat.le_of_ble_eq_true rfl, Nat.le_of_ble_eq_true rfl⟩ (cwG (i := 6) (by decide)) rfl rfl rfl hl.1 rfl (Nat.le_of_ble_eq_true rfl) dX5_restOf_168 (fun o w' H locs hp hB => ?_)
                      obtain ⟨x302, rfl, rfl⟩ := hp
                      refine W.eq (g2 := F0 m 171 ls [.long x302, .long x276, .long x301, .int y13_136, .ref (a 0)]) rfl ?_
                      refine lv_lmul hx hb dX5_restOf_171 ?_
                      refine lv_lsub hx hb dX5_restOf_172 ?_
                      refine call_V (n := 2) (As := [.int y13_136, .long (x301 - (x276 * x302))]) (rest := []) hX hB (k_X5_setRowNumber κ l a r10 q12 f_136 y13_136 (x301 - (x276 * x302))) ⟨rfl, by decide, by decide, by decide +kernel⟩ wm_5_109 wm_5_111 wp_25 wm_1_1 wm_5_112 ⟨Nat.le_of_ble_eq_true rfl, Nat.le_of_ble_eq_true rfl⟩ ⟨Nat.le_of_ble_eq_true rfl, Nat.le_of_ble_eq_true rfl⟩ cw0 rfl rfl rfl hl.1 rfl (Nat.le_of_ble_eq_true rfl) dX5_restOf_173 (fun o w' H locs hp hB => ?_)
                      obtain ⟨f303, rfl, rfl⟩ := hp
                      refine W.eq (g2 := F0 m 176 ls []) rfl ?_
                      refine lv_iinc (v := y13_136 + 1) (lv' := [(13, .int (y13_136 + 1)), (11, .long x276), (9, .long x274), (8, .int y8_93), (6, .long y6_93), (5, .ref (a (6 + 2 * i6))), (4, .ref (a (6 + 2 * i3))), (0, .ref (a 0)), (1, .int p0), (2, .int p1), (3, .int p2)]) hx hb dX5_restOf_176 hl (k := 0) rfl rfl (by decide) rfl (fun ls hl => ?_)
                      refine lv_goto (tgt := 136) hx hb dX5_restOf_179 (by decide) ?_
                      exact ih136 (y13_136 + 1) f303 _ _  (gap_step c299 hμ136) hB _ hl
                exact lp136 _ y8_93 f_93 _ _  (Nat.lt_succ_self _) hB _ hl
          exact lp93 _ 0 0 f_57 _ _  (Nat.lt_succ_self _) hB _ hl
        · refine lv_aload_n hx hb dX5_restOf_67 rfl (lv_at hl 3 rfl) ?_
          refine lv_iload hx hb dX5_restOf_68 (lv_at hl 0 rfl) ?_
          refine lv_aload hx hb dX5_restOf_70 (lv_at hl 1 rfl) ?_
          refine lv_iload_n hx hb dX5_restOf_72 rfl (lv_at hl 6 rfl) ?_
          refine lv_iload hx hb dX5_restOf_73 (lv_at hl 0 rfl) ?_
          refine call_V (n := 2) (As := [.int p2, .int y6_57]) (rest := [.int y6_57, .ref (a 0)]) hX hB (k_X3_get κ l a r10 q12 f_57 i6 p2 y6_57 (lt15 hi6)) ⟨rfl, by decide, by decide, by decide +kernel⟩ wm_2_123 wm_1_187 wm_1_188 wm_1_2 wm_1_189 ⟨Nat.le_of_ble_eq_true rfl, Nat.le_of_ble_eq_true rfl⟩ ⟨Nat.le_of_ble_eq_true rfl, Nat.le_of_ble_eq_true rfl⟩ (cwG (i := i6) (lt15 hi6)) rfl rfl rfl hl.1 rfl (Nat.le_of_ble_eq_true rfl) dX5_restOf_75 (fun o w' H locs hp hB => ?_)
          obtain ⟨x304, rfl, rfl⟩ := hp
          refine W.eq (g2 := F0 m 78 ls [.long x304, .int y6_57, .ref (a 0)]) rfl ?_
          refine call_V (n := 2) (As := [.int y6_57, .long x304]) (rest := []) hX hB (k_X5_setRowNumber κ l a r10 q12 f_57 y6_57 x304) ⟨rfl, by decide, by decide, by decide +kernel⟩ wm_5_109 wm_5_111 wp_25 wm_1_1 wm_5_112 ⟨Nat.le_of_ble_eq_true rfl, Nat.le_of_ble_eq_true rfl⟩ ⟨Nat.le_of_ble_eq_true rfl, Nat.le_of_ble_eq_true rfl⟩ cw0 rfl rfl rfl hl.1 rfl (Nat.le_of_ble_eq_true rfl) dX5_restOf_78 (fun o w' H locs hp hB => ?_)
          obtain ⟨f305, rfl, rfl⟩ := hp
          refine W.eq (g2 := F0 m 81 ls []) rfl ?_
          refine lv_iinc (v := y6_57 + 1) (lv' := [(6, .int (y6_57 + 1)), (5, .ref (a (6 + 2 * i6))), (4, .ref (a (6 + 2 * i3))), (0, .ref (a 0)), (1, .int p0), (2, .int p1), (3, .int p2)]) hx hb dX5_restOf_81 hl (k := 0) rfl rfl (by decide) rfl (fun ls hl => ?_)
          refine lv_goto (tgt := 57) hx hb dX5_restOf_84 (by decide) ?_
          exact ih57 (y6_57 + 1) f305 _ _  (gap_step c210 hμ57) hB _ hl
    exact lp57 _ 0 f14 _ _  (Nat.lt_succ_self _) hB _ hl
  refine lv_icmp_ne (tgt := 50) hx hb dX5_restOf_43 (by decide) (fun c306 => ?_) (fun c306 => ?_)
  · refine lv_iconst (v := 0) hx hb dX5_restOf_50 (by decide) ?_
    exact jn51 0 _ _ (Or.inl rfl) hB _ hl
  · refine lv_iconst (v := 1) hx hb dX5_restOf_46 (by decide) ?_
    refine lv_goto (tgt := 51) hx hb dX5_restOf_47 (by decide) ?_
    exact jn51 1 _ _ (Or.inr rfl) hB _ hl
set_option maxHeartbeats 4000000 in
set_option maxRecDepth 100000 in
theorem k_X5_house (κ : Kt) (l : Launch) (hst : l.stackTraces = false) (a : Nat → Nat) (r q : Nat → Int32) (f : Nat → Nat → Int64) (p0 : Int32)  : CX κ l yX5_house cX5_house 2 (some .int) 7 111 1 6 [.ref (a 0), .int p0] (cw κ a r q f) (fun o w' => ∃ x : Int32, ∃ (r' q' : Nat → Int32) (f' : Nat → Nat → Int64), o = some (.int x) ∧ (okr r → okr r') ∧ q' 4 = q 4 ∧ w' = cw κ a r' q' f') (fun E w' => E ∈ (["java/lang/IllegalArgumentException"] : List String) ∧ ∃ (r' q' : Nat → Int32) (f' : Nat → Nat → Int64), (okr r → okr r') ∧ q' 4 = q 4 ∧ w' = cw κ a r' q' f') := by
  refine CX_begin (by decide) (Nat.le_of_ble_eq_true rfl) ?_
  intro p e s m args below meth c A Q hX hne hA3 hQ hB ls hl
  have hx := hX.1.1
  have hb := hX.1.2.1
  have hl : lv_has ls 2 [(0, .ref (a 0)), (1, .int p0)] := hl
  refine lv_iload_n hx hb dX5_house_0 rfl (lv_at hl 1 rfl) ?_
  have jn14 : ∀ (z0_14 : Int32) (H : Heap) (locs : List Loc), z0_14 = 0 ∨ z0_14 = 1 → Bd κ A s (cw κ a r q f) H locs → ∀ ls : Array Slot, lv_has ls 2 [(0, .ref (a 0)), (1, .int p0)] → W p l e (Rm 7 111 1 6) s m args below meth c H locs 0 0 Q (F0 m 14 ls [.int z0_14]) := by
    intro z0_14 H locs hz0_14 hB ls hl
    refine CX_after2 hX hB (run_XS (n := 1) (As := [.int z0_14]) (rest := []) hX hB (k_X5_needArgument κ l hst a r q f z0_14) ⟨by decide, by decide, by decide +kernel⟩ wm_3_0 wm_3_1 wm_1_1 wm_3_2 ⟨Nat.le_of_ble_eq_true rfl, Nat.le_of_ble_eq_true rfl⟩ ⟨Nat.le_of_ble_eq_true rfl, Nat.le_of_ble_eq_true rfl⟩ rfl hl.1 rfl (Nat.le_of_ble_eq_true rfl) dX5_house_14) (fun E ce q9 w' H locs hp hB hce hcv hcl => ?_) (fun o w' H locs hp hB => ?_)
    · obtain ⟨hE3, rfl⟩ := hp
      rw [← hQ]
      exact thrown_on hX hne hB hA3 hce hcv hcl ⟨((by decide : ∀ x ∈ (["java/lang/IllegalArgumentException"] : List String), x ∈ (["java/lang/IllegalArgumentException"] : List String)) _ hE3), r, q, f, (fun h => h), rfl, rfl⟩ (Nat.le_of_ble_eq_true rfl) (Nat.le_of_ble_eq_true rfl)
    obtain ⟨rfl, rfl⟩ := hp
    refine W.eq (g2 := F0 m 17 ls []) rfl ?_
    refine lv_aload_n hx hb dX5_house_17 rfl (lv_at hl 0 rfl) ?_
    refine lv_iload_n hx hb dX5_house_18 rfl (lv_at hl 1 rfl) ?_
    refine call_V (n := 1) (As := [.int p0]) (rest := []) hX hB (k_X5_countHouse κ l a r q f p0) ⟨rfl, by decide, by decide, by decide +kernel⟩ wm_2_135 wm_2_137 wp_15 wm_1_1 wm_2_138 ⟨Nat.le_of_ble_eq_true rfl, Nat.le_of_ble_eq_true rfl⟩ ⟨Nat.le_of_ble_eq_true rfl, Nat.le_of_ble_eq_true rfl⟩ cw0 rfl rfl rfl hl.1 rfl (Nat.le_of_ble_eq_true rfl) dX5_house_19 (fun o w' H locs hp hB => ?_)
    obtain ⟨x4, rfl, rfl⟩ := hp
    refine W.eq (g2 := F0 m 22 ls [.int x4]) rfl ?_
    rw [← hQ]
    exact vx_ret ( end_i hX hB hA3 rfl rfl ⟨x4, r, q, f, rfl, (fun h => h), rfl, rfl⟩ (Nat.le_of_ble_eq_true rfl) (Nat.le_of_ble_eq_true rfl) dX5_house_22)
  refine lv_if_lt (tgt := 13) hx hb dX5_house_1 (by decide) (fun c5 => ?_) (fun c5 => ?_)
  · refine lv_iconst (v := 0) hx hb dX5_house_13 (by decide) ?_
    exact jn14 0 _ _ (Or.inl rfl) hB _ hl
  · refine lv_iload_n hx hb dX5_house_4 rfl (lv_at hl 1 rfl) ?_
    refine lv_iconst (v := 3) hx hb dX5_house_5 (by decide) ?_
    refine lv_icmp_gt (tgt := 13) hx hb dX5_house_6 (by decide) (fun c6 => ?_) (fun c6 => ?_)
    · refine lv_iconst (v := 0) hx hb dX5_house_13 (by decide) ?_
      exact jn14 0 _ _ (Or.inl rfl) hB _ hl
    · refine lv_iconst (v := 1) hx hb dX5_house_9 (by decide) ?_
      refine lv_goto (tgt := 14) hx hb dX5_house_10 (by decide) ?_
      exact jn14 1 _ _ (Or.inr rfl) hB _ hl
set_option maxHeartbeats 4000000 in
set_option maxRecDepth 100000 in
theorem k_X5_isSound (κ : Kt) (l : Launch) (a : Nat → Nat) (r q : Nat → Int32) (f : Nat → Nat → Int64) (hok : okr r) : CM κ l yX5_isSound cX5_isSound 1 (some .boolean) 9 235 0 0 [.ref (a 0)] (cw κ a r q f) (fun o w' => ∃ x : Int32, ∃ (r' q' : Nat → Int32) (f' : Nat → Nat → Int64), o = some (.int x) ∧ (x = 0 ∨ x = 1) ∧ (okr r → okr r') ∧ q' 4 = q 4 ∧ w' = cw κ a r' q' f') := by
  refine CM_begin (plainFor_of_name (by decide)) (Nat.le_of_ble_eq_true rfl) ?_
  intro p e s m args below meth c A Q hX hnm hA3 hQ hB ls hl
  have hx := hX.1.1
  have hb := hX.1.2.1
  have hl : lv_has ls 1 [(0, .ref (a 0))] := hl
  refine lv_aload_n hx hb dX5_isSound_0 rfl (lv_at hl 0 rfl) ?_
  refine call_V (n := 0) (As := []) (rest := []) hX hB (k_X5_isFirstSound κ l a r q f ((fun h => h) hok)) ⟨rfl, by decide, by decide, by decide +kernel⟩ wm_1_176 wm_1_178 wp_0 wm_1_1 wm_1_179 ⟨Nat.le_of_ble_eq_true rfl, Nat.le_of_ble_eq_true rfl⟩ ⟨Nat.le_of_ble_eq_true rfl, Nat.le_of_ble_eq_true rfl⟩ cw0 rfl rfl rfl hl.1 rfl (Nat.le_of_ble_eq_true rfl) dX5_isSound_1 (fun o w' H locs hp hB => ?_)
  obtain ⟨x1, r2, q4, f6, rfl, bx1, ho3, hq5, rfl⟩ := hp
  refine W.eq (g2 := F0 m 4 ls [.int x1]) rfl ?_
  rw [← hQ]
  exact end_i hX hB hA3 rfl (nbz (by assumption)) ⟨x1, r2, q4, f6, rfl, (by assumption), (fun h => ho3 ((fun h => h) h)), (hq5.trans rfl), rfl⟩ (Nat.le_of_ble_eq_true rfl) (Nat.le_of_ble_eq_true rfl) dX5_isSound_4
set_option maxHeartbeats 4000000 in
set_option maxRecDepth 100000 in
theorem k_X5_digest (κ : Kt) (l : Launch) (a : Nat → Nat) (r q : Nat → Int32) (f : Nat → Nat → Int64) (hok : okr r) : CM κ l yX5_digest cX5_digest 4 (some .long) 9 235 0 0 [.ref (a 0)] (cw κ a r q f) (fun o w' => ∃ x : Int64, ∃ (r' q' : Nat → Int32) (f' : Nat → Nat → Int64), o = some (.long x) ∧ (okr r → okr r') ∧ q' 4 = q 4 ∧ w' = cw κ a r' q' f') := by
  refine CM_begin (plainFor_of_name (by decide)) (Nat.le_of_ble_eq_true rfl) ?_
  intro p e s m args below meth c A Q hX hnm hA3 hQ hB ls hl
  have hx := hX.1.1
  have hb := hX.1.2.1
  have hl : lv_has ls 4 [(0, .ref (a 0))] := hl
  refine lv_ldc2 (own := RX5) (v := 8032) hx hb hX.1.2.2.2.1 (hX.1.2.2.2.2 _ wm_2_128) dX5_digest_0 ?_
  refine lv_lstore_n (lv' := [(1, .long 8032), (0, .ref (a 0))]) hx hb dX5_digest_3 rfl hl (by decide) rfl (fun ls hl => ?_)
  refine lv_iconst (v := 0) hx hb dX5_digest_4 (by decide) ?_
  refine lv_istore_n (lv' := [(3, .int 0), (1, .long 8032), (0, .ref (a 0))]) hx hb dX5_digest_5 rfl hl (by decide) rfl (fun ls hl => ?_)
  have lp6 : ∀ (nn : Nat) (y3_6 : Int32) (y1_6 : Int64) (H : Heap) (locs : List Loc), 0 ≤ y3_6 → gap 4 y3_6 < nn → Bd κ A s (cw κ a r q f) H locs → ∀ ls : Array Slot, lv_has ls 4 [(3, .int y3_6), (1, .long y1_6), (0, .ref (a 0))] → W p l e (Rm 9 235 0 0) s m args below meth c H locs 0 0 Q (F0 m 6 ls []) := by
    intro nn
    induction nn with
    | zero => intro y3_6 y1_6 H locs hn3_6 hμ; exact absurd hμ (Nat.not_lt_zero _)
    | succ nn ih6 =>
      intro y3_6 y1_6 H locs hn3_6 hμ6 hB ls hl
      refine lv_iload_n hx hb dX5_digest_6 rfl (lv_at hl 0 rfl) ?_
      refine lv_iconst (v := 4) hx hb dX5_digest_7 (by decide) ?_
      refine lv_icmp_ge (tgt := 28) hx hb dX5_digest_8 (by decide) (fun c73 => ?_) (fun c73 => ?_)
      · refine lv_iconst (v := 0) hx hb dX5_digest_28 (by decide) ?_
        refine lv_istore_n (lv' := [(3, .int 0), (1, .long y1_6), (0, .ref (a 0))]) hx hb dX5_digest_29 rfl hl (by decide) rfl (fun ls hl => ?_)
        have lp30 : ∀ (nn : Nat) (y3_30 : Int32) (y1_30 : Int64) (H : Heap) (locs : List Loc), gap1 3 y3_30 < nn → Bd κ A s (cw κ a r q f) H locs → ∀ ls : Array Slot, lv_has ls 4 [(3, .int y3_30), (1, .long y1_30), (0, .ref (a 0))] → W p l e (Rm 9 235 0 0) s m args below meth c H locs 0 0 Q (F0 m 30 ls []) := by
          intro nn
          induction nn with
          | zero => intro y3_30 y1_30 H locs hμ; exact absurd hμ (Nat.not_lt_zero _)
          | succ nn ih30 =>
            intro y3_30 y1_30 H locs hμ30 hB ls hl
            refine lv_iload_n hx hb dX5_digest_30 rfl (lv_at hl 0 rfl) ?_
            refine lv_iconst (v := 3) hx hb dX5_digest_31 (by decide) ?_
            refine lv_icmp_gt (tgt := 54) hx hb dX5_digest_32 (by decide) (fun c99 => ?_) (fun c99 => ?_)
            · refine lv_lload_n hx hb dX5_digest_54 rfl (lv_at hl 1 rfl) ?_
              refine lv_ldc2 (own := RX5) (v := 31) hx hb hX.1.2.2.2.1 (hX.1.2.2.2.2 _ wm_2_134) dX5_digest_55 ?_
              refine lv_lmul hx hb dX5_digest_58 ?_
              refine lv_aload_n hx hb dX5_digest_59 rfl (lv_at hl 2 rfl) ?_
              refine call_V (n := 0) (As := []) (rest := [.long (y1_30 * 31)]) hX hB (k_X5_isFirstSound κ l a r q f ((fun h => h) hok)) ⟨rfl, by decide, by decide, by decide +kernel⟩ wm_1_176 wm_1_178 wp_0 wm_1_1 wm_1_179 ⟨Nat.le_of_ble_eq_true rfl, Nat.le_of_ble_eq_true rfl⟩ ⟨Nat.le_of_ble_eq_true rfl, Nat.le_of_ble_eq_true rfl⟩ cw0 rfl rfl rfl hl.1 rfl (Nat.le_of_ble_eq_true rfl) dX5_digest_60 (fun o w' H locs hp hB => ?_)
              obtain ⟨x100, r101, q103, f105, rfl, bx100, ho102, hq104, rfl⟩ := hp
              refine W.eq (g2 := F0 m 63 ls [.int x100, .long (y1_30 * 31)]) rfl ?_
              refine lv_if_eq (tgt := 70) hx hb dX5_digest_63 (by decide) (fun c106 => ?_) (fun c106 => ?_)
              · refine lv_iconst (v := 0) hx hb dX5_digest_70 (by decide) ?_
                refine lv_i2l hx hb dX5_digest_71 rfl ?_
                refine lv_ladd hx hb dX5_digest_72 ?_
                rw [← hQ]
                exact end_l hX hB hA3 rfl ⟨((y1_30 * 31) + ((0).toInt64)), r101, q103, f105, rfl, (fun h => ho102 ((fun h => h) h)), (hq104.trans rfl), rfl⟩ (Nat.le_of_ble_eq_true rfl) (Nat.le_of_ble_eq_true rfl) dX5_digest_73
              · refine lv_iconst (v := 1) hx hb dX5_digest_66 (by decide) ?_
                refine lv_goto (tgt := 71) hx hb dX5_digest_67 (by decide) ?_
                refine lv_i2l hx hb dX5_digest_71 rfl ?_
                refine lv_ladd hx hb dX5_digest_72 ?_
                rw [← hQ]
                exact end_l hX hB hA3 rfl ⟨((y1_30 * 31) + ((1).toInt64)), r101, q103, f105, rfl, (fun h => ho102 ((fun h => h) h)), (hq104.trans rfl), rfl⟩ (Nat.le_of_ble_eq_true rfl) (Nat.le_of_ble_eq_true rfl) dX5_digest_73
            · refine lv_lload_n hx hb dX5_digest_35 rfl (lv_at hl 1 rfl) ?_
              refine lv_ldc2 (own := RX5) (v := 31) hx hb hX.1.2.2.2.1 (hX.1.2.2.2.2 _ wm_2_134) dX5_digest_36 ?_
              refine lv_lmul hx hb dX5_digest_39 ?_
              refine lv_aload_n hx hb dX5_digest_40 rfl (lv_at hl 2 rfl) ?_
              refine lv_iload_n hx hb dX5_digest_41 rfl (lv_at hl 0 rfl) ?_
              refine call_V (n := 1) (As := [.int y3_30]) (rest := [.long (y1_30 * 31)]) hX hB (k_X5_countHouse κ l a r q f y3_30) ⟨rfl, by decide, by decide, by decide +kernel⟩ wm_2_135 wm_2_137 wp_15 wm_1_1 wm_2_138 ⟨Nat.le_of_ble_eq_true rfl, Nat.le_of_ble_eq_true rfl⟩ ⟨Nat.le_of_ble_eq_true rfl, Nat.le_of_ble_eq_true rfl⟩ cw0 rfl rfl rfl hl.1 rfl (Nat.le_of_ble_eq_true rfl) dX5_digest_42 (fun o w' H locs hp hB => ?_)
              obtain ⟨x107, rfl, rfl⟩ := hp
              refine W.eq (g2 := F0 m 45 ls [.int x107, .long (y1_30 * 31)]) rfl ?_
              refine lv_i2l hx hb dX5_digest_45 rfl ?_
              refine lv_ladd hx hb dX5_digest_46 ?_
              refine lv_lstore_n (lv' := [(1, .long ((y1_30 * 31) + ((x107).toInt64))), (3, .int y3_30), (0, .ref (a 0))]) hx hb dX5_digest_47 rfl hl (by decide) rfl (fun ls hl => ?_)
              refine lv_iinc (v := y3_30 + 1) (lv' := [(3, .int (y3_30 + 1)), (1, .long ((y1_30 * 31) + ((x107).toInt64))), (0, .ref (a 0))]) hx hb dX5_digest_48 hl (k := 1) rfl rfl (by decide) rfl (fun ls hl => ?_)
              refine lv_goto (tgt := 30) hx hb dX5_digest_51 (by decide) ?_
              exact ih30 (y3_30 + 1) ((y1_30 * 31) + ((x107).toInt64)) _ _  (gap1_step (by decide) c99 hμ30) hB _ hl
        exact lp30 _ 0 y1_6 _ _  (Nat.lt_succ_self _) hB _ hl
      · refine lv_aload_n hx hb dX5_digest_11 rfl (lv_at hl 2 rfl) ?_
        refine gf hX hB cw0 rfl in5 0 (by decide) wm_1_137 rfl rfl dX5_digest_12 ?_
        refine lv_iload_n hx hb dX5_digest_15 rfl (lv_at hl 0 rfl) ?_
        refine aaldG hX hB cw1 (in_of (N := 4) rfl hn3_6 c73) rfl dX5_digest_16 ?_
        refine lv_lload_n hx hb dX5_digest_17 rfl (lv_at hl 1 rfl) ?_
        refine call_V (n := 1) (As := [.long y1_6]) (rest := []) hX hB (k_X3_mix κ l a r q f ((y3_6).toNatClampNeg) y1_6 (lt15 (clamp_lt (in_of (N := 4) rfl hn3_6 c73)))) ⟨rfl, by decide, by decide, by decide +kernel⟩ wm_2_129 wm_2_130 wm_2_131 wm_1_2 wm_2_132 ⟨Nat.le_of_ble_eq_true rfl, Nat.le_of_ble_eq_true rfl⟩ ⟨Nat.le_of_ble_eq_true rfl, Nat.le_of_ble_eq_true rfl⟩ (cwG (i := (y3_6).toNatClampNeg) (lt15 (clamp_lt (in_of (N := 4) rfl hn3_6 c73)))) rfl rfl rfl hl.1 rfl (Nat.le_of_ble_eq_true rfl) dX5_digest_18 (fun o w' H locs hp hB => ?_)
        obtain ⟨x108, rfl, rfl⟩ := hp
        refine W.eq (g2 := F0 m 21 ls [.long x108]) rfl ?_
        refine lv_lstore_n (lv' := [(1, .long x108), (3, .int y3_6), (0, .ref (a 0))]) hx hb dX5_digest_21 rfl hl (by decide) rfl (fun ls hl => ?_)
        refine lv_iinc (v := y3_6 + 1) (lv' := [(3, .int (y3_6 + 1)), (1, .long x108), (0, .ref (a 0))]) hx hb dX5_digest_22 hl (k := 1) rfl rfl (by decide) rfl (fun ls hl => ?_)
        refine lv_goto (tgt := 6) hx hb dX5_digest_25 (by decide) ?_
        exact ih6 (y3_6 + 1) x108 _ _ (nn_step hn3_6 c73) (gap_step c73 hμ6) hB _ hl
  exact lp6 _ 0 8032 _ _ (by decide) (Nat.lt_succ_self _) hB _ hl
set_option maxHeartbeats 4000000 in
set_option maxRecDepth 100000 in
theorem k_X5_knock (κ : Kt) (l : Launch) (a : Nat → Nat) (r q : Nat → Int32) (f : Nat → Nat → Int64)  : CM κ l yX5_knock cX5_knock 1 (some .int) 0 0 0 0 [.ref (a 0)] (cw κ a r q f) (fun o w' => o = some (.int (q 4 + 1)) ∧ w' = cw κ a r (va_up q 4 (q 4 + 1)) f) := by
  refine CM_begin (plainFor_of_name (by decide)) (Nat.le_of_ble_eq_true rfl) ?_
  intro p e s m args below meth c A Q hX hnm hA3 hQ hB ls hl
  have hx := hX.1.1
  have hb := hX.1.2.1
  have hl : lv_has ls 1 [(0, .ref (a 0))] := hl
  refine lv_aload_n hx hb dX5_knock_0 rfl (lv_at hl 0 rfl) ?_
  refine lv_dup hx hb dX5_knock_1 rfl ?_
  refine gf hX hB cw0 rfl in5 9 (by decide) wm_1_146 rfl rfl dX5_knock_2 ?_
  refine lv_iconst (v := 1) hx hb dX5_knock_5 (by decide) ?_
  refine lv_iadd hx hb dX5_knock_6 ?_
  refine pf (ty := .int) hX hB cw0 rfl in5 tyX5_ok nmX5 9 (by decide) wm_1_146 rfl rfl rfl rfl rfl (Nat.le_of_ble_eq_true rfl) (cwSQ4 _) dX5_knock_7 (fun H locs hB => ?_)
  refine lv_aload_n hx hb dX5_knock_10 rfl (lv_at hl 0 rfl) ?_
  refine gf hX hB cw0 rfl in5 9 (by decide) wm_1_146 rfl rfl dX5_knock_11 ?_
  rw [← hQ]
  exact end_i hX hB hA3 rfl rfl ⟨rfl, rfl⟩ (Nat.le_of_ble_eq_true rfl) (Nat.le_of_ble_eq_true rfl) dX5_knock_14
