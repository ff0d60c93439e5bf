set_option maxHeartbeats 4000000 in
set_option maxRecDepth 100000 in
theorem w_shape (κ : Kt) (l : Launch) (hst : l.stackTraces = false) (a : Nat → Nat) (r q : Nat → Int32) (f : Nat → Nat → Int64) (o : Nat) (n : Int64) (v : Value) (p0 : Int32) (p1 : Int32) (hok : okr r) (Y : CRs) (hY : D_X5_shape r q f p0 p1 = Y) : CMW κ l yL_shape cL_shape 5 (Option.some Jvm.ClassFile.FieldType.int) [(0, 11, 14, 19)] 8 133 1 6 [.ref (a 0), .int p0, .int p1, .ref o] (cw κ a r q f ++ [Ot o n v]) (fun u w' => ∃ (k : Int32) (n' : Int64) (v' : Value), u = some (.int k) ∧ (okr r → okr Y.2.2.1) ∧ Y.2.2.2.1 4 = q 4 ∧ Wc ([("java/lang/IndexOutOfBoundsException", 1)] : List (String × Int32)) Y.1 Y.2.1 k n' ∧ w' = cw κ a Y.2.2.1 Y.2.2.2.1 Y.2.2.2.2 ++ [Ot o n' v']) := by
  refine CMW_begin (by decide) (Nat.le_of_ble_eq_true rfl) ?_
  intro p e s m args below meth c A Q hX hT hA3 hQ hB ls hl
  have hx := hX.1.1
  have hb := hX.1.2.1
  have hl : lv_has ls 5 [(0, .ref (a 0)), (1, .int p0), (2, .int p1), (3, .ref o)] := hl
  refine lv_aload_n hx hb dL_shape_0 rfl (lv_at hl 3 rfl) ?_
  refine lv_aload_n hx hb dL_shape_1 rfl (lv_at hl 0 rfl) ?_
  refine lv_iload_n hx hb dL_shape_2 rfl (lv_at hl 1 rfl) ?_
  refine lv_iload_n hx hb dL_shape_3 rfl (lv_at hl 2 rfl) ?_
  refine CX_after2 hX hB (run_XV (n := 2) (k0 := 0) (As := [.int p0, .int p1]) (rest := [.ref o]) hX hB (CX_frame [Ot o n v] (k_X5_shape κ l hst a r q f p0 p1 _ _ _ _ _ (hY.trans (te5 Y)))) ⟨rfl, by decide, by decide, by decide +kernel⟩ wm_3_212 wm_3_213 wm_3_214 wm_1_1 wm_3_215 ⟨Nat.le_of_ble_eq_true rfl, Nat.le_of_ble_eq_true rfl⟩ ⟨Nat.le_of_ble_eq_true rfl, Nat.le_of_ble_eq_true rfl⟩ (app_at cw0) rfl rfl rfl hl.1 rfl (Nat.le_of_ble_eq_true rfl) dL_shape_4) (fun E ce q9 w' H locs hp hB hce hcv hcl => ?_) (fun o9 w' H locs hp hB => ?_)
  · obtain ⟨_, ⟨hEE, hE, ho, hq, rfl⟩, rfl⟩ := hp
    rw [hEE] at hE
    rcases List.mem_cons.mp hE with rfl | hE
    · refine vx_catch hX.1.2.2.2.1 [] ⟨0, 11, 14, 19⟩ [] hT (fun z hz => absurd hz List.not_mem_nil) (by decide) (by decide) (hX.1.2.2.2.2 _ wm_2_159) (va_Nw.use rfl (hX.2.1.2.1.use wn_2_171)) hce hcv hcl ?_
      refine lv_astore (lv' := [(4, .ref q9), (0, .ref (a 0)), (1, .int p0), (2, .int p1), (3, .ref o)]) hx hb dL_shape_14 hl (by decide) rfl (fun ls hl => ?_)
      refine lv_iconst (v := 1) hx hb dL_shape_16 (by decide) ?_
      rw [← hQ]
      exact end_i hX hB hA3 rfl rfl ⟨1, n, v, rfl, ho, hq, Or.inr ⟨("java/lang/IndexOutOfBoundsException", 1), List.mem_cons_self, hEE, rfl⟩, rfl⟩ (Nat.le_of_ble_eq_true rfl) (Nat.le_of_ble_eq_true rfl) dL_shape_17
    exact absurd hE List.not_mem_nil
  · obtain ⟨_, ⟨hE0, rfl, ho, hq, rfl⟩, rfl⟩ := hp
    refine W.eq (g2 := F0 m 7 ls [.int Y.2.1, .ref o]) rfl ?_
    refine lv_i2l hx hb dL_shape_7 rfl ?_
    refine pfN (ty := .long) (k0 := 36) hX hB cw_o rfl in6 tyX6_ok nmX6 0 (by decide) wn_2_149 rfl rfl rfl rfl rfl (Nat.le_of_ble_eq_true rfl) (w1 := cw κ a Y.2.2.1 Y.2.2.2.1 Y.2.2.2.2 ++ [Ot o (Y.2.1.toInt64) v]) cw_oS dL_shape_8 (fun H locs hB => ?_)
    refine lv_goto (tgt := 18) hx hb dL_shape_11 (by decide) ?_
    refine lv_iconst (v := 0) hx hb dL_shape_18 (by decide) ?_
    rw [← hQ]
    exact end_i hX hB hA3 rfl rfl ⟨0, (Y.2.1.toInt64), v, rfl, ho, hq, Or.inl ⟨hE0, rfl, rfl⟩, rfl⟩ (Nat.le_of_ble_eq_true rfl) (Nat.le_of_ble_eq_true rfl) dL_shape_19
set_option maxHeartbeats 4000000 in
set_option maxRecDepth 100000 in
theorem w_at (κ : Kt) (l : Launch) (hst : l.stackTraces = false) (a : Nat → Nat) (r q : Nat → Int32) (f : Nat → Nat → Int64) (o : Nat) (n : Int64) (v : Value) (p0 : Int32) (p1 : Int32) (p2 : Int32) (hok : okr r) (Y : CRs) (hY : D_X5_at r q f p0 p1 p2 = Y) : CMW κ l yL_at cL_at 6 (Option.some Jvm.ClassFile.FieldType.int) [(0, 13, 16, 19)] 8 135 2 12 [.ref (a 0), .int p0, .int p1, .int p2, .ref o] (cw κ a r q f ++ [Ot o n v]) (fun u w' => ∃ (k : Int32) (n' : Int64) (v' : Value), u = some (.int k) ∧ (okr r → okr Y.2.2.1) ∧ Y.2.2.2.1 4 = q 4 ∧ Wc ([("java/lang/IndexOutOfBoundsException", 1)] : List (String × Int32)) Y.1 Y.2.1 k n' ∧ w' = cw κ a Y.2.2.1 Y.2.2.2.1 Y.2.2.2.2 ++ [Ot o n' v']) := by
  refine CMW_begin (by decide) (Nat.le_of_ble_eq_true rfl) ?_
  intro p e s m args below meth c A Q hX hT hA3 hQ hB ls hl
  have hx := hX.1.1
  have hb := hX.1.2.1
  have hl : lv_has ls 6 [(0, .ref (a 0)), (1, .int p0), (2, .int p1), (3, .int p2), (4, .ref o)] := hl
  refine lv_aload hx hb dL_at_0 (lv_at hl 4 rfl) ?_
  refine lv_aload_n hx hb dL_at_2 rfl (lv_at hl 0 rfl) ?_
  refine lv_iload_n hx hb dL_at_3 rfl (lv_at hl 1 rfl) ?_
  refine lv_iload_n hx hb dL_at_4 rfl (lv_at hl 2 rfl) ?_
  refine lv_iload_n hx hb dL_at_5 rfl (lv_at hl 3 rfl) ?_
  refine CX_after2 hX hB (run_XV (n := 3) (k0 := 0) (As := [.int p0, .int p1, .int p2]) (rest := [.ref o]) hX hB (CX_frame [Ot o n v] (k_X5_at κ l hst a r q f p0 p1 p2 _ _ _ _ _ (hY.trans (te5 Y)))) ⟨rfl, by decide, by decide, by decide +kernel⟩ wm_3_219 wm_3_220 wm_3_221 wm_1_1 wm_3_222 ⟨Nat.le_of_ble_eq_true rfl, Nat.le_of_ble_eq_true rfl⟩ ⟨Nat.le_of_ble_eq_true rfl, Nat.le_of_ble_eq_true rfl⟩ (app_at cw0) rfl rfl rfl hl.1 rfl (Nat.le_of_ble_eq_true rfl) dL_at_6) (fun E ce q9 w' H locs hp hB hce hcv hcl => ?_) (fun o9 w' H locs hp hB => ?_)
  · obtain ⟨_, ⟨hEE, hE, ho, hq, rfl⟩, rfl⟩ := hp
    rw [hEE] at hE
    rcases List.mem_cons.mp hE with rfl | hE
    · refine vx_catch hX.1.2.2.2.1 [] ⟨0, 13, 16, 19⟩ [] hT (fun z hz => absurd hz List.not_mem_nil) (by decide) (by decide) (hX.1.2.2.2.2 _ wm_2_159) (va_Nw.use rfl (hX.2.1.2.1.use wn_2_171)) hce hcv hcl ?_
      refine lv_astore (lv' := [(5, .ref q9), (0, .ref (a 0)), (1, .int p0), (2, .int p1), (3, .int p2), (4, .ref o)]) hx hb dL_at_16 hl (by decide) rfl (fun ls hl => ?_)
      refine lv_iconst (v := 1) hx hb dL_at_18 (by decide) ?_
      rw [← hQ]
      exact end_i hX hB hA3 rfl rfl ⟨1, n, v, rfl, ho, hq, Or.inr ⟨("java/lang/IndexOutOfBoundsException", 1), List.mem_cons_self, hEE, rfl⟩, rfl⟩ (Nat.le_of_ble_eq_true rfl) (Nat.le_of_ble_eq_true rfl) dL_at_19
    exact absurd hE List.not_mem_nil
  · obtain ⟨_, ⟨hE0, rfl, ho, hq, rfl⟩, rfl⟩ := hp
    refine W.eq (g2 := F0 m 9 ls [.int Y.2.1, .ref o]) rfl ?_
    refine lv_i2l hx hb dL_at_9 rfl ?_
    refine pfN (ty := .long) (k0 := 36) hX hB cw_o rfl in6 tyX6_ok nmX6 0 (by decide) wn_2_149 rfl rfl rfl rfl rfl (Nat.le_of_ble_eq_true rfl) (w1 := cw κ a Y.2.2.1 Y.2.2.2.1 Y.2.2.2.2 ++ [Ot o (Y.2.1.toInt64) v]) cw_oS dL_at_10 (fun H locs hB => ?_)
    refine lv_goto (tgt := 20) hx hb dL_at_13 (by decide) ?_
    refine lv_iconst (v := 0) hx hb dL_at_20 (by decide) ?_
    rw [← hQ]
    exact end_i hX hB hA3 rfl rfl ⟨0, (Y.2.1.toInt64), v, rfl, ho, hq, Or.inl ⟨hE0, rfl, rfl⟩, rfl⟩ (Nat.le_of_ble_eq_true rfl) (Nat.le_of_ble_eq_true rfl) dL_at_21
set_option maxHeartbeats 4000000 in
set_option maxRecDepth 100000 in
theorem w_text (κ : Kt) (l : Launch) (hst : l.stackTraces = false) (a : Nat → Nat) (r q : Nat → Int32) (f : Nat → Nat → Int64) (o : Nat) (n : Int64) (v : Value) (p0 : Int32) (hok : okr r) : CMW κ l yL_text cL_text 4 (Option.some Jvm.ClassFile.FieldType.int) [(0, 9, 12, 19)] 8 196 49 38094 [.ref (a 0), .int p0, .ref o] (cw κ a r q f ++ [Ot o n v]) (fun u w' => ∃ (k : Int32) (r' q' : Nat → Int32) (f' : Nat → Nat → Int64) (n' : Int64) (v' : Value), u = some (.int k) ∧ (okr r → okr r') ∧ q' 4 = q 4 ∧ Ks r q f r' q' f' ∧ w' = cw κ a r' q' f' ++ [Ot o n' v']) := by
  refine CMW_begin (by decide) (Nat.le_of_ble_eq_true rfl) ?_
  intro p e s m args below meth c A Q hX hT hA3 hQ hB ls hl
  have hx := hX.1.1
  have hb := hX.1.2.1
  have hl : lv_has ls 4 [(0, .ref (a 0)), (1, .int p0), (2, .ref o)] := hl
  refine lv_aload_n hx hb dL_text_0 rfl (lv_at hl 2 rfl) ?_
  refine lv_aload_n hx hb dL_text_1 rfl (lv_at hl 0 rfl) ?_
  refine lv_iload_n hx hb dL_text_2 rfl (lv_at hl 1 rfl) ?_
  refine CX_after2 hX hB (run_XV (n := 1) (k0 := 0) (As := [.int p0]) (rest := [.ref o]) hX hB (CX_frame [Ot o n v] (k_X5_text κ l hst a r q f p0 hok)) ⟨rfl, by decide, by decide, by decide +kernel⟩ wm_3_226 wm_3_227 wm_3_228 wm_1_1 wm_3_229 ⟨Nat.le_of_ble_eq_true rfl, Nat.le_of_ble_eq_true rfl⟩ ⟨Nat.le_of_ble_eq_true rfl, Nat.le_of_ble_eq_true rfl⟩ (app_at cw0) rfl rfl rfl hl.1 rfl (Nat.le_of_ble_eq_true rfl) dL_text_3) (fun E ce q9 w' H locs hp hB hce hcv hcl => ?_) (fun o9 w' H locs hp hB => ?_)
  · obtain ⟨_, ⟨hE, r1, q1, f1, ho, hq, hk, rfl⟩, rfl⟩ := hp
    rcases List.mem_cons.mp hE with rfl | hE
    · refine vx_catch hX.1.2.2.2.1 [] ⟨0, 9, 12, 19⟩ [] hT (fun z hz => absurd hz List.not_mem_nil) (by decide) (by decide) (hX.1.2.2.2.2 _ wm_2_159) (va_Nw.use rfl (hX.2.1.2.1.use wn_2_171)) hce hcv hcl ?_
      refine lv_astore_n (lv' := [(3, .ref q9), (0, .ref (a 0)), (1, .int p0), (2, .ref o)]) hx hb dL_text_12 rfl hl (by decide) rfl (fun ls hl => ?_)
      refine lv_iconst (v := 1) hx hb dL_text_13 (by decide) ?_
      rw [← hQ]
      exact end_i hX hB hA3 rfl rfl ⟨1, r1, q1, f1, n, v, rfl, ho, hq, hk, rfl⟩ (Nat.le_of_ble_eq_true rfl) (Nat.le_of_ble_eq_true rfl) dL_text_14
    exact absurd hE List.not_mem_nil
  · obtain ⟨_, ⟨x, r1, q1, f1, rfl, ho, hq, hk, rfl⟩, rfl⟩ := hp
    refine W.eq (g2 := F0 m 6 ls [.ref x, .ref o]) rfl ?_
    refine pfN (ty := .object "java/lang/String") (k0 := 36) hX hB cw_o rfl in6 tyX6_ok nmX6 1 (by decide) wn_2_150 rfl rfl rfl rfl rfl (Nat.le_of_ble_eq_true rfl) (w1 := cw κ a r1 q1 f1 ++ [Ot o n (.ref x)]) cw_oS dL_text_6 (fun H locs hB => ?_)
    refine lv_goto (tgt := 15) hx hb dL_text_9 (by decide) ?_
    refine lv_iconst (v := 0) hx hb dL_text_15 (by decide) ?_
    rw [← hQ]
    exact end_i hX hB hA3 rfl rfl ⟨0, r1, q1, f1, n, (.ref x), rfl, ho, hq, hk, rfl⟩ (Nat.le_of_ble_eq_true rfl) (Nat.le_of_ble_eq_true rfl) dL_text_16
set_option maxHeartbeats 4000000 in
set_option maxRecDepth 100000 in
theorem w_isSame (κ : Kt) (l : Launch) (hst : l.stackTraces = false) (a : Nat → Nat) (r q : Nat → Int32) (f : Nat → Nat → Int64) (o : Nat) (n : Int64) (v : Value) (p0 : Int32) (p1 : Int32) (hok : okr r) (Y : CRs) (hY : D_X5_isSame r q f p0 p1 = Y) : CMW κ l yL_isSame cL_isSame 5 (Option.some Jvm.ClassFile.FieldType.int) [(0, 18, 21, 19)] 8 135 2 12 [.ref (a 0), .int p0, .int p1, .ref o] (cw κ a r q f ++ [Ot o n v]) (fun u w' => ∃ (k : Int32) (n' : Int64) (v' : Value), u = some (.int k) ∧ (okr r → okr Y.2.2.1) ∧ Y.2.2.2.1 4 = q 4 ∧ Wc ([("java/lang/IndexOutOfBoundsException", 1)] : List (String × Int32)) Y.1 Y.2.1 k n' ∧ w' = cw κ a Y.2.2.1 Y.2.2.2.1 Y.2.2.2.2 ++ [Ot o n' v']) := by
  refine CMW_begin (by decide) (Nat.le_of_ble_eq_true rfl) ?_
  intro p e s m args below meth c A Q hX hT hA3 hQ hB ls hl
  have hx := hX.1.1
  have hb := hX.1.2.1
  have hl : lv_has ls 5 [(0, .ref (a 0)), (1, .int p0), (2, .int p1), (3, .ref o)] := hl
  refine lv_aload_n hx hb dL_isSame_0 rfl (lv_at hl 3 rfl) ?_
  refine lv_aload_n hx hb dL_isSame_1 rfl (lv_at hl 0 rfl) ?_
  refine lv_iload_n hx hb dL_isSame_2 rfl (lv_at hl 1 rfl) ?_
  refine lv_iload_n hx hb dL_isSame_3 rfl (lv_at hl 2 rfl) ?_
  refine CX_after2 hX hB (run_XV (n := 2) (k0 := 0) (As := [.int p0, .int p1]) (rest := [.ref o]) hX hB (CX_frame [Ot o n v] (k_X5_isSame κ l hst a r q f p0 p1 _ _ _ _ _ (hY.trans (te5 Y)))) ⟨rfl, by decide, by decide, by decide +kernel⟩ wm_5_14 wm_5_15 wm_5_16 wm_1_1 wm_5_17 ⟨Nat.le_of_ble_eq_true rfl, Nat.le_of_ble_eq_true rfl⟩ ⟨Nat.le_of_ble_eq_true rfl, Nat.le_of_ble_eq_true rfl⟩ (app_at cw0) rfl rfl rfl hl.1 rfl (Nat.le_of_ble_eq_true rfl) dL_isSame_4) (fun E ce q9 w' H locs hp hB hce hcv hcl => ?_) (fun o9 w' H locs hp hB => ?_)
  · obtain ⟨_, ⟨hEE, hE, ho, hq, rfl⟩, rfl⟩ := hp
    rw [hEE] at hE
    rcases List.mem_cons.mp hE with rfl | hE
    · refine vx_catch hX.1.2.2.2.1 [] ⟨0, 18, 21, 19⟩ [] hT (fun z hz => absurd hz List.not_mem_nil) (by decide) (by decide) (hX.1.2.2.2.2 _ wm_2_159) (va_Nw.use rfl (hX.2.1.2.1.use wn_2_171)) hce hcv hcl ?_
      refine lv_astore (lv' := [(4, .ref q9), (0, .ref (a 0)), (1, .int p0), (2, .int p1), (3, .ref o)]) hx hb dL_isSame_21 hl (by decide) rfl (fun ls hl => ?_)
      refine lv_iconst (v := 1) hx hb dL_isSame_23 (by decide) ?_
      rw [← hQ]
      exact end_i hX hB hA3 rfl rfl ⟨1, n, v, rfl, ho, hq, Or.inr ⟨("java/lang/IndexOutOfBoundsException", 1), List.mem_cons_self, hEE, rfl⟩, rfl⟩ (Nat.le_of_ble_eq_true rfl) (Nat.le_of_ble_eq_true rfl) dL_isSame_24
    exact absurd hE List.not_mem_nil
  · obtain ⟨_, ⟨hE0, rfl, bx, ho, hq, rfl⟩, rfl⟩ := hp
    refine W.eq (g2 := F0 m 7 ls [.int Y.2.1, .ref o]) rfl ?_
    refine lv_if_eq (tgt := 14) hx hb dL_isSame_7 (by decide) (fun c1 => ?_) (fun c1 => ?_)
    · refine lv_lconst (v := 0) hx hb dL_isSame_14 (by decide) ?_
      refine pfN (ty := .long) (k0 := 36) hX hB cw_o rfl in6 tyX6_ok nmX6 0 (by decide) wn_2_149 rfl rfl rfl rfl rfl (Nat.le_of_ble_eq_true rfl) (w1 := cw κ a Y.2.2.1 Y.2.2.2.1 Y.2.2.2.2 ++ [Ot o 0 v]) cw_oS dL_isSame_15 (fun H locs hB => ?_)
      refine lv_goto (tgt := 25) hx hb dL_isSame_18 (by decide) ?_
      refine lv_iconst (v := 0) hx hb dL_isSame_25 (by decide) ?_
      rw [← hQ]
      exact end_i hX hB hA3 rfl rfl ⟨0, 0, v, rfl, ho, hq, Or.inl ⟨hE0, rfl, (by rw [c1]; exact t640.symm)⟩, rfl⟩ (Nat.le_of_ble_eq_true rfl) (Nat.le_of_ble_eq_true rfl) dL_isSame_26
    · refine lv_lconst (v := 1) hx hb dL_isSame_10 (by decide) ?_
      refine lv_goto (tgt := 15) hx hb dL_isSame_11 (by decide) ?_
      refine pfN (ty := .long) (k0 := 36) hX hB cw_o rfl in6 tyX6_ok nmX6 0 (by decide) wn_2_149 rfl rfl rfl rfl rfl (Nat.le_of_ble_eq_true rfl) (w1 := cw κ a Y.2.2.1 Y.2.2.2.1 Y.2.2.2.2 ++ [Ot o 1 v]) cw_oS dL_isSame_15 (fun H locs hB => ?_)
      refine lv_goto (tgt := 25) hx hb dL_isSame_18 (by decide) ?_
      refine lv_iconst (v := 0) hx hb dL_isSame_25 (by decide) ?_
      rw [← hQ]
      exact end_i hX hB hA3 rfl rfl ⟨0, 1, v, rfl, ho, hq, Or.inl ⟨hE0, rfl, (by rw [bx.resolve_left c1]; exact t64a.symm)⟩, rfl⟩ (Nat.le_of_ble_eq_true rfl) (Nat.le_of_ble_eq_true rfl) dL_isSame_26
set_option maxHeartbeats 4000000 in
set_option maxRecDepth 100000 in
theorem w_determinant (κ : Kt) (l : Launch) (hst : l.stackTraces = false) (a : Nat → Nat) (r q : Nat → Int32) (f : Nat → Nat → Int64) (o : Nat) (n : Int64) (v : Value) (p0 : Int32) (p1 : Int32) (hok : okr r) (Y : CRs) (hY : D_X5_determinant r q f p0 p1 = Y) : CMW κ l yL_determinant cL_determinant 5 (Option.some Jvm.ClassFile.FieldType.int) [(0, 11, 14, 19), (0, 11, 18, 21), (0, 11, 22, 97)] 8 211 4 24 [.ref (a 0), .int p0, .int p1, .ref o] (cw κ a r q f ++ [Ot o n v]) (fun u w' => ∃ (k : Int32) (n' : Int64) (v' : Value), u = some (.int k) ∧ (okr r → okr Y.2.2.1) ∧ Y.2.2.2.1 4 = q 4 ∧ Wc ([("java/lang/IndexOutOfBoundsException", 1), ("java/lang/IllegalArgumentException", 2), ("java/lang/IllegalStateException", 3)] : List (String × Int32)) Y.1 Y.2.1 k n' ∧ w' = cw κ a Y.2.2.1 Y.2.2.2.1 Y.2.2.2.2 ++ [Ot o n' v']) := by
  refine CMW_begin (by decide) (Nat.le_of_ble_eq_true rfl) ?_
  intro p e s m args below meth c A Q hX hT hA3 hQ hB ls hl
  have hx := hX.1.1
  have hb := hX.1.2.1
  have hl : lv_has ls 5 [(0, .ref (a 0)), (1, .int p0), (2, .int p1), (3, .ref o)] := hl
  refine lv_aload_n hx hb dL_determinant_0 rfl (lv_at hl 3 rfl) ?_
  refine lv_aload_n hx hb dL_determinant_1 rfl (lv_at hl 0 rfl) ?_
  refine lv_iload_n hx hb dL_determinant_2 rfl (lv_at hl 1 rfl) ?_
  refine lv_iload_n hx hb dL_determinant_3 rfl (lv_at hl 2 rfl) ?_
  refine CX_after2 hX hB (run_XV (n := 2) (k0 := 0) (As := [.int p0, .int p1]) (rest := [.ref o]) hX hB (CX_frame [Ot o n v] (k_X5_determinant κ l hst a r q f p0 p1 _ _ _ _ _ (hY.trans (te5 Y)))) ⟨rfl, by decide, by decide, by decide +kernel⟩ wm_5_22 wm_5_23 wm_5_24 wm_1_1 wm_5_25 ⟨Nat.le_of_ble_eq_true rfl, Nat.le_of_ble_eq_true rfl⟩ ⟨Nat.le_of_ble_eq_true rfl, Nat.le_of_ble_eq_true rfl⟩ (app_at cw0) rfl rfl rfl hl.1 rfl (Nat.le_of_ble_eq_true rfl) dL_determinant_4) (fun E ce q9 w' H locs hp hB hce hcv hcl => ?_) (fun o9 w' H locs hp hB => ?_)
  · obtain ⟨_, ⟨hEE, hE, ho, hq, rfl⟩, rfl⟩ := hp
    rw [hEE] at hE
    rcases List.mem_cons.mp hE with rfl | hE
    · refine vx_catch hX.1.2.2.2.1 [] ⟨0, 11, 14, 19⟩ [⟨0, 11, 18, 21⟩, ⟨0, 11, 22, 97⟩] hT (fun z hz => absurd hz List.not_mem_nil) (by decide) (by decide) (hX.1.2.2.2.2 _ wm_2_159) (va_Nw.use rfl (hX.2.1.2.1.use wn_2_171)) hce hcv hcl ?_
      refine lv_astore (lv' := [(4, .ref q9), (0, .ref (a 0)), (1, .int p0), (2, .int p1), (3, .ref o)]) hx hb dL_determinant_14 hl (by decide) rfl (fun ls hl => ?_)
      refine lv_iconst (v := 1) hx hb dL_determinant_16 (by decide) ?_
      rw [← hQ]
      exact end_i hX hB hA3 rfl rfl ⟨1, n, v, rfl, ho, hq, Or.inr ⟨("java/lang/IndexOutOfBoundsException", 1), List.mem_cons_self, hEE, rfl⟩, rfl⟩ (Nat.le_of_ble_eq_true rfl) (Nat.le_of_ble_eq_true rfl) dL_determinant_17
    rcases List.mem_cons.mp hE with rfl | hE
    · refine vx_catch hX.1.2.2.2.1 [⟨0, 11, 14, 19⟩] ⟨0, 11, 18, 21⟩ [⟨0, 11, 22, 97⟩] hT (List.forall_mem_cons.mpr ⟨(Or.inr ⟨by decide, "java/lang/IndexOutOfBoundsException", hX.1.2.2.2.2 _ wm_2_159, hX.2.1.2.2.1.2.2.2.2.2.1⟩), fun z hz => absurd hz List.not_mem_nil⟩) (by decide) (by decide) (hX.1.2.2.2.2 _ wm_2_160) (va_Nw.use rfl (hX.2.1.2.1.use wn_3_5)) hce hcv hcl ?_
      refine lv_astore (lv' := [(4, .ref q9), (0, .ref (a 0)), (1, .int p0), (2, .int p1), (3, .ref o)]) hx hb dL_determinant_18 hl (by decide) rfl (fun ls hl => ?_)
      refine lv_iconst (v := 2) hx hb dL_determinant_20 (by decide) ?_
      rw [← hQ]
      exact end_i hX hB hA3 rfl rfl ⟨2, n, v, rfl, ho, hq, Or.inr ⟨("java/lang/IllegalArgumentException", 2), (List.mem_cons_of_mem _ List.mem_cons_self), hEE, rfl⟩, rfl⟩ (Nat.le_of_ble_eq_true rfl) (Nat.le_of_ble_eq_true rfl) dL_determinant_21
    rcases List.mem_cons.mp hE with rfl | hE
    · refine vx_catch hX.1.2.2.2.1 [⟨0, 11, 14, 19⟩, ⟨0, 11, 18, 21⟩] ⟨0, 11, 22, 97⟩ [] hT (List.forall_mem_cons.mpr ⟨(Or.inr ⟨by decide, "java/lang/IndexOutOfBoundsException", hX.1.2.2.2.2 _ wm_2_159, hX.2.1.2.2.1.2.2.2.2.2.2.1⟩), List.forall_mem_cons.mpr ⟨(Or.inr ⟨by decide, "java/lang/IllegalArgumentException", hX.1.2.2.2.2 _ wm_2_160, hX.2.1.2.2.1.2.2.2.2.2.2.2.1⟩), fun z hz => absurd hz List.not_mem_nil⟩⟩) (by decide) (by decide) (hX.1.2.2.2.2 _ wm_5_21) (va_Nw.use rfl (hX.2.1.2.1.use wn_5_31)) hce hcv hcl ?_
      refine lv_astore (lv' := [(4, .ref q9), (0, .ref (a 0)), (1, .int p0), (2, .int p1), (3, .ref o)]) hx hb dL_determinant_22 hl (by decide) rfl (fun ls hl => ?_)
      refine lv_iconst (v := 3) hx hb dL_determinant_24 (by decide) ?_
      rw [← hQ]
      exact end_i hX hB hA3 rfl rfl ⟨3, n, v, rfl, ho, hq, Or.inr ⟨("java/lang/IllegalStateException", 3), (List.mem_cons_of_mem _ (List.mem_cons_of_mem _ List.mem_cons_self)), hEE, rfl⟩, rfl⟩ (Nat.le_of_ble_eq_true rfl) (Nat.le_of_ble_eq_true rfl) dL_determinant_25
    exact absurd hE List.not_mem_nil
  · obtain ⟨_, ⟨hE0, rfl, ho, hq, rfl⟩, rfl⟩ := hp
    refine W.eq (g2 := F0 m 7 ls [.int Y.2.1, .ref o]) rfl ?_
    refine lv_i2l hx hb dL_determinant_7 rfl ?_
    refine pfN (ty := .long) (k0 := 36) hX hB cw_o rfl in6 tyX6_ok nmX6 0 (by decide) wn_2_149 rfl rfl rfl rfl rfl (Nat.le_of_ble_eq_true rfl) (w1 := cw κ a Y.2.2.1 Y.2.2.2.1 Y.2.2.2.2 ++ [Ot o (Y.2.1.toInt64) v]) cw_oS dL_determinant_8 (fun H locs hB => ?_)
    refine lv_goto (tgt := 26) hx hb dL_determinant_11 (by decide) ?_
    refine lv_iconst (v := 0) hx hb dL_determinant_26 (by decide) ?_
    rw [← hQ]
    exact end_i hX hB hA3 rfl rfl ⟨0, (Y.2.1.toInt64), v, rfl, ho, hq, Or.inl ⟨hE0, rfl, rfl⟩, rfl⟩ (Nat.le_of_ble_eq_true rfl) (Nat.le_of_ble_eq_true rfl) dL_determinant_27
set_option maxHeartbeats 4000000 in
set_option maxRecDepth 100000 in
theorem w_minor (κ : Kt) (l : Launch) (hst : l.stackTraces = false) (a : Nat → Nat) (r q : Nat → Int32) (f : Nat → Nat → Int64) (o : Nat) (n : Int64) (v : Value) (p0 : Int32) (p1 : Int32) (p2 : Int32) (hok : okr r) (Y : CRs) (hY : D_X5_minor r q f p0 p1 p2 = Y) : CMW κ l yL_minor cL_minor 6 (Option.some Jvm.ClassFile.FieldType.int) [(0, 13, 16, 19), (0, 13, 20, 21)] 8 169 3 18 [.ref (a 0), .int p0, .int p1, .int p2, .ref o] (cw κ a r q f ++ [Ot o n v]) (fun u w' => ∃ (k : Int32) (n' : Int64) (v' : Value), u = some (.int k) ∧ (okr r → okr Y.2.2.1) ∧ Y.2.2.2.1 4 = q 4 ∧ Wc ([("java/lang/IndexOutOfBoundsException", 1), ("java/lang/IllegalArgumentException", 2)] : List (String × Int32)) Y.1 Y.2.1 k n' ∧ w' = cw κ a Y.2.2.1 Y.2.2.2.1 Y.2.2.2.2 ++ [Ot o n' v']) := by
  refine CMW_begin (by decide) (Nat.le_of_ble_eq_true rfl) ?_
  intro p e s m args below meth c A Q hX hT hA3 hQ hB ls hl
  have hx := hX.1.1
  have hb := hX.1.2.1
  have hl : lv_has ls 6 [(0, .ref (a 0)), (1, .int p0), (2, .int p1), (3, .int p2), (4, .ref o)] := hl
  refine lv_aload hx hb dL_minor_0 (lv_at hl 4 rfl) ?_
  refine lv_aload_n hx hb dL_minor_2 rfl (lv_at hl 0 rfl) ?_
  refine lv_iload_n hx hb dL_minor_3 rfl (lv_at hl 1 rfl) ?_
  refine lv_iload_n hx hb dL_minor_4 rfl (lv_at hl 2 rfl) ?_
  refine lv_iload_n hx hb dL_minor_5 rfl (lv_at hl 3 rfl) ?_
  refine CX_after2 hX hB (run_XV (n := 3) (k0 := 0) (As := [.int p0, .int p1, .int p2]) (rest := [.ref o]) hX hB (CX_frame [Ot o n v] (k_X5_minor κ l hst a r q f p0 p1 p2 _ _ _ _ _ (hY.trans (te5 Y)))) ⟨rfl, by decide, by decide, by decide +kernel⟩ wm_5_48 wm_5_49 wm_5_50 wm_1_1 wm_5_51 ⟨Nat.le_of_ble_eq_true rfl, Nat.le_of_ble_eq_true rfl⟩ ⟨Nat.le_of_ble_eq_true rfl, Nat.le_of_ble_eq_true rfl⟩ (app_at cw0) rfl rfl rfl hl.1 rfl (Nat.le_of_ble_eq_true rfl) dL_minor_6) (fun E ce q9 w' H locs hp hB hce hcv hcl => ?_) (fun o9 w' H locs hp hB => ?_)
  · obtain ⟨_, ⟨hEE, hE, ho, hq, rfl⟩, rfl⟩ := hp
    rw [hEE] at hE
    rcases List.mem_cons.mp hE with rfl | hE
    · refine vx_catch hX.1.2.2.2.1 [] ⟨0, 13, 16, 19⟩ [⟨0, 13, 20, 21⟩] hT (fun z hz => absurd hz List.not_mem_nil) (by decide) (by decide) (hX.1.2.2.2.2 _ wm_2_159) (va_Nw.use rfl (hX.2.1.2.1.use wn_2_171)) hce hcv hcl ?_
      refine lv_astore (lv' := [(5, .ref q9), (0, .ref (a 0)), (1, .int p0), (2, .int p1), (3, .int p2), (4, .ref o)]) hx hb dL_minor_16 hl (by decide) rfl (fun ls hl => ?_)
      refine lv_iconst (v := 1) hx hb dL_minor_18 (by decide) ?_
      rw [← hQ]
      exact end_i hX hB hA3 rfl rfl ⟨1, n, v, rfl, ho, hq, Or.inr ⟨("java/lang/IndexOutOfBoundsException", 1), List.mem_cons_self, hEE, rfl⟩, rfl⟩ (Nat.le_of_ble_eq_true rfl) (Nat.le_of_ble_eq_true rfl) dL_minor_19
    rcases List.mem_cons.mp hE with rfl | hE
    · refine vx_catch hX.1.2.2.2.1 [⟨0, 13, 16, 19⟩] ⟨0, 13, 20, 21⟩ [] hT (List.forall_mem_cons.mpr ⟨(Or.inr ⟨by decide, "java/lang/IndexOutOfBoundsException", hX.1.2.2.2.2 _ wm_2_159, hX.2.1.2.2.1.2.2.2.2.2.1⟩), fun z hz => absurd hz List.not_mem_nil⟩) (by decide) (by decide) (hX.1.2.2.2.2 _ wm_2_160) (va_Nw.use rfl (hX.2.1.2.1.use wn_3_5)) hce hcv hcl ?_
      refine lv_astore (lv' := [(5, .ref q9), (0, .ref (a 0)), (1, .int p0), (2, .int p1), (3, .int p2), (4, .ref o)]) hx hb dL_minor_20 hl (by decide) rfl (fun ls hl => ?_)
      refine lv_iconst (v := 2) hx hb dL_minor_22 (by decide) ?_
      rw [← hQ]
      exact end_i hX hB hA3 rfl rfl ⟨2, n, v, rfl, ho, hq, Or.inr ⟨("java/lang/IllegalArgumentException", 2), (List.mem_cons_of_mem _ List.mem_cons_self), hEE, rfl⟩, rfl⟩ (Nat.le_of_ble_eq_true rfl) (Nat.le_of_ble_eq_true rfl) dL_minor_23
    exact absurd hE List.not_mem_nil
  · obtain ⟨_, ⟨hE0, rfl, ho, hq, rfl⟩, rfl⟩ := hp
    refine W.eq (g2 := F0 m 9 ls [.int Y.2.1, .ref o]) rfl ?_
    refine lv_i2l hx hb dL_minor_9 rfl ?_
    refine pfN (ty := .long) (k0 := 36) hX hB cw_o rfl in6 tyX6_ok nmX6 0 (by decide) wn_2_149 rfl rfl rfl rfl rfl (Nat.le_of_ble_eq_true rfl) (w1 := cw κ a Y.2.2.1 Y.2.2.2.1 Y.2.2.2.2 ++ [Ot o (Y.2.1.toInt64) v]) cw_oS dL_minor_10 (fun H locs hB => ?_)
    refine lv_goto (tgt := 24) hx hb dL_minor_13 (by decide) ?_
    refine lv_iconst (v := 0) hx hb dL_minor_24 (by decide) ?_
    rw [← hQ]
    exact end_i hX hB hA3 rfl rfl ⟨0, (Y.2.1.toInt64), v, rfl, ho, hq, Or.inl ⟨hE0, rfl, rfl⟩, rfl⟩ (Nat.le_of_ble_eq_true rfl) (Nat.le_of_ble_eq_true rfl) dL_minor_25
set_option maxHeartbeats 4000000 in
set_option maxRecDepth 100000 in
theorem w_divisor (κ : Kt) (l : Launch) (hst : l.stackTraces = false) (a : Nat → Nat) (r q : Nat → Int32) (f : Nat → Nat → Int64) (o : Nat) (n : Int64) (v : Value) (p0 : Int32) (p1 : Int32) (hok : okr r) (Y : CRs) (hY : D_X5_divisor r q f p0 p1 = Y) : CMW κ l yL_divisor cL_divisor 5 (Option.some Jvm.ClassFile.FieldType.int) [(0, 11, 14, 19), (0, 11, 18, 21)] 8 194 2 12 [.ref (a 0), .int p0, .int p1, .ref o] (cw κ a r q f ++ [Ot o n v]) (fun u w' => ∃ (k : Int32) (n' : Int64) (v' : Value), u = some (.int k) ∧ (okr r → okr Y.2.2.1) ∧ Y.2.2.2.1 4 = q 4 ∧ Wc ([("java/lang/IndexOutOfBoundsException", 1), ("java/lang/IllegalArgumentException", 2)] : List (String × Int32)) Y.1 Y.2.1 k n' ∧ w' = cw κ a Y.2.2.1 Y.2.2.2.1 Y.2.2.2.2 ++ [Ot o n' v']) := by
  refine CMW_begin (by decide) (Nat.le_of_ble_eq_true rfl) ?_
  intro p e s m args below meth c A Q hX hT hA3 hQ hB ls hl
  have hx := hX.1.1
  have hb := hX.1.2.1
  have hl : lv_has ls 5 [(0, .ref (a 0)), (1, .int p0), (2, .int p1), (3, .ref o)] := hl
  refine lv_aload_n hx hb dL_divisor_0 rfl (lv_at hl 3 rfl) ?_
  refine lv_aload_n hx hb dL_divisor_1 rfl (lv_at hl 0 rfl) ?_
  refine lv_iload_n hx hb dL_divisor_2 rfl (lv_at hl 1 rfl) ?_
  refine lv_iload_n hx hb dL_divisor_3 rfl (lv_at hl 2 rfl) ?_
  refine CX_after2 hX hB (run_XV (n := 2) (k0 := 0) (As := [.int p0, .int p1]) (rest := [.ref o]) hX hB (CX_frame [Ot o n v] (k_X5_divisor κ l hst a r q f p0 p1 _ _ _ _ _ (hY.trans (te5 Y)))) ⟨rfl, by decide, by decide, by decide +kernel⟩ wm_5_57 wm_5_58 wm_5_59 wm_1_1 wm_5_60 ⟨Nat.le_of_ble_eq_true rfl, Nat.le_of_ble_eq_true rfl⟩ ⟨Nat.le_of_ble_eq_true rfl, Nat.le_of_ble_eq_true rfl⟩ (app_at cw0) rfl rfl rfl hl.1 rfl (Nat.le_of_ble_eq_true rfl) dL_divisor_4) (fun E ce q9 w' H locs hp hB hce hcv hcl => ?_) (fun o9 w' H locs hp hB => ?_)
  · obtain ⟨_, ⟨hEE, hE, ho, hq, rfl⟩, rfl⟩ := hp
    rw [hEE] at hE
    rcases List.mem_cons.mp hE with rfl | hE
    · refine vx_catch hX.1.2.2.2.1 [] ⟨0, 11, 14, 19⟩ [⟨0, 11, 18, 21⟩] hT (fun z hz => absurd hz List.not_mem_nil) (by decide) (by decide) (hX.1.2.2.2.2 _ wm_2_159) (va_Nw.use rfl (hX.2.1.2.1.use wn_2_171)) hce hcv hcl ?_
      refine lv_astore (lv' := [(4, .ref q9), (0, .ref (a 0)), (1, .int p0), (2, .int p1), (3, .ref o)]) hx hb dL_divisor_14 hl (by decide) rfl (fun ls hl => ?_)
      refine lv_iconst (v := 1) hx hb dL_divisor_16 (by decide) ?_
      rw [← hQ]
      exact end_i hX hB hA3 rfl rfl ⟨1, n, v, rfl, ho, hq, Or.inr ⟨("java/lang/IndexOutOfBoundsException", 1), List.mem_cons_self, hEE, rfl⟩, rfl⟩ (Nat.le_of_ble_eq_true rfl) (Nat.le_of_ble_eq_true rfl) dL_divisor_17
    rcases List.mem_cons.mp hE with rfl | hE
    · refine vx_catch hX.1.2.2.2.1 [⟨0, 11, 14, 19⟩] ⟨0, 11, 18, 21⟩ [] hT (List.forall_mem_cons.mpr ⟨(Or.inr ⟨by decide, "java/lang/IndexOutOfBoundsException", hX.1.2.2.2.2 _ wm_2_159, hX.2.1.2.2.1.2.2.2.2.2.1⟩), fun z hz => absurd hz List.not_mem_nil⟩) (by decide) (by decide) (hX.1.2.2.2.2 _ wm_2_160) (va_Nw.use rfl (hX.2.1.2.1.use wn_3_5)) hce hcv hcl ?_
      refine lv_astore (lv' := [(4, .ref q9), (0, .ref (a 0)), (1, .int p0), (2, .int p1), (3, .ref o)]) hx hb dL_divisor_18 hl (by decide) rfl (fun ls hl => ?_)
      refine lv_iconst (v := 2) hx hb dL_divisor_20 (by decide) ?_
      rw [← hQ]
      exact end_i hX hB hA3 rfl rfl ⟨2, n, v, rfl, ho, hq, Or.inr ⟨("java/lang/IllegalArgumentException", 2), (List.mem_cons_of_mem _ List.mem_cons_self), hEE, rfl⟩, rfl⟩ (Nat.le_of_ble_eq_true rfl) (Nat.le_of_ble_eq_true rfl) dL_divisor_21
    exact absurd hE List.not_mem_nil
  · obtain ⟨_, ⟨hE0, rfl, ho, hq, rfl⟩, rfl⟩ := hp
    refine W.eq (g2 := F0 m 7 ls [.int Y.2.1, .ref o]) rfl ?_
    refine lv_i2l hx hb dL_divisor_7 rfl ?_
    refine pfN (ty := .long) (k0 := 36) hX hB cw_o rfl in6 tyX6_ok nmX6 0 (by decide) wn_2_149 rfl rfl rfl rfl rfl (Nat.le_of_ble_eq_true rfl) (w1 := cw κ a Y.2.2.1 Y.2.2.2.1 Y.2.2.2.2 ++ [Ot o (Y.2.1.toInt64) v]) cw_oS dL_divisor_8 (fun H locs hB => ?_)
    refine lv_goto (tgt := 22) hx hb dL_divisor_11 (by decide) ?_
    refine lv_iconst (v := 0) hx hb dL_divisor_22 (by decide) ?_
    rw [← hQ]
    exact end_i hX hB hA3 rfl rfl ⟨0, (Y.2.1.toInt64), v, rfl, ho, hq, Or.inl ⟨hE0, rfl, rfl⟩, rfl⟩ (Nat.le_of_ble_eq_true rfl) (Nat.le_of_ble_eq_true rfl) dL_divisor_23
set_option maxHeartbeats 4000000 in
set_option maxRecDepth 100000 in
theorem w_rank (κ : Kt) (l : Launch) (hst : l.stackTraces = false) (a : Nat → Nat) (r q : Nat → Int32) (f : Nat → Nat → Int64) (o : Nat) (n : Int64) (v : Value) (p0 : Int32) (p1 : Int32) (hok : okr r) (Y : CRs) (hY : D_X5_rank r q f p0 p1 = Y) : CMW κ l yL_rank cL_rank 5 (Option.some Jvm.ClassFile.FieldType.int) [(0, 11, 14, 19), (0, 11, 18, 21), (0, 11, 22, 97)] 8 216 3 18 [.ref (a 0), .int p0, .int p1, .ref o] (cw κ a r q f ++ [Ot o n v]) (fun u w' => ∃ (k : Int32) (n' : Int64) (v' : Value), u = some (.int k) ∧ (okr r → okr Y.2.2.1) ∧ Y.2.2.2.1 4 = q 4 ∧ Wc ([("java/lang/IndexOutOfBoundsException", 1), ("java/lang/IllegalArgumentException", 2), ("java/lang/IllegalStateException", 3)] : List (String × Int32)) Y.1 Y.2.1 k n' ∧ w' = cw κ a Y.2.2.1 Y.2.2.2.1 Y.2.2.2.2 ++ [Ot o n' v']) := by
  refine CMW_begin (by decide) (Nat.le_of_ble_eq_true rfl) ?_
  intro p e s m args below meth c A Q hX hT hA3 hQ hB ls hl
  have hx := hX.1.1
  have hb := hX.1.2.1
  have hl : lv_has ls 5 [(0, .ref (a 0)), (1, .int p0), (2, .int p1), (3, .ref o)] := hl
  refine lv_aload_n hx hb dL_rank_0 rfl (lv_at hl 3 rfl) ?_
  refine lv_aload_n hx hb dL_rank_1 rfl (lv_at hl 0 rfl) ?_
  refine lv_iload_n hx hb dL_rank_2 rfl (lv_at hl 1 rfl) ?_
  refine lv_iload_n hx hb dL_rank_3 rfl (lv_at hl 2 rfl) ?_
  refine CX_after2 hX hB (run_XV (n := 2) (k0 := 0) (As := [.int p0, .int p1]) (rest := [.ref o]) hX hB (CX_frame [Ot o n v] (k_X5_rank κ l hst a r q f p0 p1 hok _ _ _ _ _ (hY.trans (te5 Y)))) ⟨rfl, by decide, by decide, by decide +kernel⟩ wm_5_64 wm_5_65 wm_5_66 wm_1_1 wm_5_67 ⟨Nat.le_of_ble_eq_true rfl, Nat.le_of_ble_eq_true rfl⟩ ⟨Nat.le_of_ble_eq_true rfl, Nat.le_of_ble_eq_true rfl⟩ (app_at cw0) rfl rfl rfl hl.1 rfl (Nat.le_of_ble_eq_true rfl) dL_rank_4) (fun E ce q9 w' H locs hp hB hce hcv hcl => ?_) (fun o9 w' H locs hp hB => ?_)
  · obtain ⟨_, ⟨hEE, hE, ho, hq, rfl⟩, rfl⟩ := hp
    rw [hEE] at hE
    rcases List.mem_cons.mp hE with rfl | hE
    · refine vx_catch hX.1.2.2.2.1 [] ⟨0, 11, 14, 19⟩ [⟨0, 11, 18, 21⟩, ⟨0, 11, 22, 97⟩] hT (fun z hz => absurd hz List.not_mem_nil) (by decide) (by decide) (hX.1.2.2.2.2 _ wm_2_159) (va_Nw.use rfl (hX.2.1.2.1.use wn_2_171)) hce hcv hcl ?_
      refine lv_astore (lv' := [(4, .ref q9), (0, .ref (a 0)), (1, .int p0), (2, .int p1), (3, .ref o)]) hx hb dL_rank_14 hl (by decide) rfl (fun ls hl => ?_)
      refine lv_iconst (v := 1) hx hb dL_rank_16 (by decide) ?_
      rw [← hQ]
      exact end_i hX hB hA3 rfl rfl ⟨1, n, v, rfl, ho, hq, Or.inr ⟨("java/lang/IndexOutOfBoundsException", 1), List.mem_cons_self, hEE, rfl⟩, rfl⟩ (Nat.le_of_ble_eq_true rfl) (Nat.le_of_ble_eq_true rfl) dL_rank_17
    rcases List.mem_cons.mp hE with rfl | hE
    · refine vx_catch hX.1.2.2.2.1 [⟨0, 11, 14, 19⟩] ⟨0, 11, 18, 21⟩ [⟨0, 11, 22, 97⟩] hT (List.forall_mem_cons.mpr ⟨(Or.inr ⟨by decide, "java/lang/IndexOutOfBoundsException", hX.1.2.2.2.2 _ wm_2_159, hX.2.1.2.2.1.2.2.2.2.2.1⟩), fun z hz => absurd hz List.not_mem_nil⟩) (by decide) (by decide) (hX.1.2.2.2.2 _ wm_2_160) (va_Nw.use rfl (hX.2.1.2.1.use wn_3_5)) hce hcv hcl ?_
      refine lv_astore (lv' := [(4, .ref q9), (0, .ref (a 0)), (1, .int p0), (2, .int p1), (3, .ref o)]) hx hb dL_rank_18 hl (by decide) rfl (fun ls hl => ?_)
      refine lv_iconst (v := 2) hx hb dL_rank_20 (by decide) ?_
      rw [← hQ]
      exact end_i hX hB hA3 rfl rfl ⟨2, n, v, rfl, ho, hq, Or.inr ⟨("java/lang/IllegalArgumentException", 2), (List.mem_cons_of_mem _ List.mem_cons_self), hEE, rfl⟩, rfl⟩ (Nat.le_of_ble_eq_true rfl) (Nat.le_of_ble_eq_true rfl) dL_rank_21
    rcases List.mem_cons.mp hE with rfl | hE
    · refine vx_catch hX.1.2.2.2.1 [⟨0, 11, 14, 19⟩, ⟨0, 11, 18, 21⟩] ⟨0, 11, 22, 97⟩ [] hT (List.forall_mem_cons.mpr ⟨(Or.inr ⟨by decide, "java/lang/IndexOutOfBoundsException", hX.1.2.2.2.2 _ wm_2_159, hX.2.1.2.2.1.2.2.2.2.2.2.1⟩), List.forall_mem_cons.mpr ⟨(Or.inr ⟨by decide, "java/lang/IllegalArgumentException", hX.1.2.2.2.2 _ wm_2_160, hX.2.1.2.2.1.2.2.2.2.2.2.2.1⟩), fun z hz => absurd hz List.not_mem_nil⟩⟩) (by decide) (by decide) (hX.1.2.2.2.2 _ wm_5_21) (va_Nw.use rfl (hX.2.1.2.1.use wn_5_31)) hce hcv hcl ?_
      refine lv_astore (lv' := [(4, .ref q9), (0, .ref (a 0)), (1, .int p0), (2, .int p1), (3, .ref o)]) hx hb dL_rank_22 hl (by decide) rfl (fun ls hl => ?_)
      refine lv_iconst (v := 3) hx hb dL_rank_24 (by decide) ?_
      rw [← hQ]
      exact end_i hX hB hA3 rfl rfl ⟨3, n, v, rfl, ho, hq, Or.inr ⟨("java/lang/IllegalStateException", 3), (List.mem_cons_of_mem _ (List.mem_cons_of_mem _ List.mem_cons_self)), hEE, rfl⟩, rfl⟩ (Nat.le_of_ble_eq_true rfl) (Nat.le_of_ble_eq_true rfl) dL_rank_25
    exact absurd hE List.not_mem_nil
  · obtain ⟨_, ⟨hE0, rfl, ho, hq, rfl⟩, rfl⟩ := hp
    refine W.eq (g2 := F0 m 7 ls [.int Y.2.1, .ref o]) rfl ?_
    refine lv_i2l hx hb dL_rank_7 rfl ?_
    refine pfN (ty := .long) (k0 := 36) hX hB cw_o rfl in6 tyX6_ok nmX6 0 (by decide) wn_2_149 rfl rfl rfl rfl rfl (Nat.le_of_ble_eq_true rfl) (w1 := cw κ a Y.2.2.1 Y.2.2.2.1 Y.2.2.2.2 ++ [Ot o (Y.2.1.toInt64) v]) cw_oS dL_rank_8 (fun H locs hB => ?_)
    refine lv_goto (tgt := 26) hx hb dL_rank_11 (by decide) ?_
    refine lv_iconst (v := 0) hx hb dL_rank_26 (by decide) ?_
    rw [← hQ]
    exact end_i hX hB hA3 rfl rfl ⟨0, (Y.2.1.toInt64), v, rfl, ho, hq, Or.inl ⟨hE0, rfl, rfl⟩, rfl⟩ (Nat.le_of_ble_eq_true rfl) (Nat.le_of_ble_eq_true rfl) dL_rank_27
set_option maxHeartbeats 4000000 in
set_option maxRecDepth 100000 in
theorem w_told (κ : Kt) (l : Launch) (hst : l.stackTraces = false) (a : Nat → Nat) (r q : Nat → Int32) (f : Nat → Nat → Int64) (o : Nat) (n : Int64) (v : Value) (p0 : Int32) (p1 : Int32) (p2 : Int32) (p3 : Int32) (hok : okr r) (Y : CRs) (hY : D_X5_told r q f p0 p1 p2 p3 = Y) : CMW κ l yL_told cL_told 7 (Option.some Jvm.ClassFile.FieldType.int) [(0, 15, 18, 19), (0, 15, 22, 21), (0, 15, 26, 97)] 8 174 4 24 [.ref (a 0), .int p0, .int p1, .int p2, .int p3, .ref o] (cw κ a r q f ++ [Ot o n v]) (fun u w' => ∃ (k : Int32) (n' : Int64) (v' : Value), u = some (.int k) ∧ (okr r → okr Y.2.2.1) ∧ Y.2.2.2.1 4 = q 4 ∧ Wc ([("java/lang/IndexOutOfBoundsException", 1), ("java/lang/IllegalArgumentException", 2), ("java/lang/IllegalStateException", 3)] : List (String × Int32)) Y.1 Y.2.1 k n' ∧ w' = cw κ a Y.2.2.1 Y.2.2.2.1 Y.2.2.2.2 ++ [Ot o n' v']) := by
  refine CMW_begin (by decide) (Nat.le_of_ble_eq_true rfl) ?_
  intro p e s m args below meth c A Q hX hT hA3 hQ hB ls hl
  have hx := hX.1.1
  have hb := hX.1.2.1
  have hl : lv_has ls 7 [(0, .ref (a 0)), (1, .int p0), (2, .int p1), (3, .int p2), (4, .int p3), (5, .ref o)] := hl
  refine lv_aload hx hb dL_told_0 (lv_at hl 5 rfl) ?_
  refine lv_aload_n hx hb dL_told_2 rfl (lv_at hl 0 rfl) ?_
  refine lv_iload_n hx hb dL_told_3 rfl (lv_at hl 1 rfl) ?_
  refine lv_iload_n hx hb dL_told_4 rfl (lv_at hl 2 rfl) ?_
  refine lv_iload_n hx hb dL_told_5 rfl (lv_at hl 3 rfl) ?_
  refine lv_iload hx hb dL_told_6 (lv_at hl 4 rfl) ?_
  refine CX_after2 hX hB (run_XV (n := 4) (k0 := 0) (As := [.int p0, .int p1, .int p2, .int p3]) (rest := [.ref o]) hX hB (CX_frame [Ot o n v] (k_X5_told κ l hst a r q f p0 p1 p2 p3 _ _ _ _ _ (hY.trans (te5 Y)))) ⟨rfl, by decide, by decide, by decide +kernel⟩ wm_5_71 wm_5_72 wm_5_73 wm_1_1 wm_5_74 ⟨Nat.le_of_ble_eq_true rfl, Nat.le_of_ble_eq_true rfl⟩ ⟨Nat.le_of_ble_eq_true rfl, Nat.le_of_ble_eq_true rfl⟩ (app_at cw0) rfl rfl rfl hl.1 rfl (Nat.le_of_ble_eq_true rfl) dL_told_8) (fun E ce q9 w' H locs hp hB hce hcv hcl => ?_) (fun o9 w' H locs hp hB => ?_)
  · obtain ⟨_, ⟨hEE, hE, ho, hq, rfl⟩, rfl⟩ := hp
    rw [hEE] at hE
    rcases List.mem_cons.mp hE with rfl | hE
    · refine vx_catch hX.1.2.2.2.1 [] ⟨0, 15, 18, 19⟩ [⟨0, 15, 22, 21⟩, ⟨0, 15, 26, 97⟩] hT (fun z hz => absurd hz List.not_mem_nil) (by decide) (by decide) (hX.1.2.2.2.2 _ wm_2_159) (va_Nw.use rfl (hX.2.1.2.1.use wn_2_171)) hce hcv hcl ?_
      refine lv_astore (lv' := [(6, .ref q9), (0, .ref (a 0)), (1, .int p0), (2, .int p1), (3, .int p2), (4, .int p3), (5, .ref o)]) hx hb dL_told_18 hl (by decide) rfl (fun ls hl => ?_)
      refine lv_iconst (v := 1) hx hb dL_told_20 (by decide) ?_
      rw [← hQ]
      exact end_i hX hB hA3 rfl rfl ⟨1, n, v, rfl, ho, hq, Or.inr ⟨("java/lang/IndexOutOfBoundsException", 1), List.mem_cons_self, hEE, rfl⟩, rfl⟩ (Nat.le_of_ble_eq_true rfl) (Nat.le_of_ble_eq_true rfl) dL_told_21
    rcases List.mem_cons.mp hE with rfl | hE
    · refine vx_catch hX.1.2.2.2.1 [⟨0, 15, 18, 19⟩] ⟨0, 15, 22, 21⟩ [⟨0, 15, 26, 97⟩] hT (List.forall_mem_cons.mpr ⟨(Or.inr ⟨by decide, "java/lang/IndexOutOfBoundsException", hX.1.2.2.2.2 _ wm_2_159, hX.2.1.2.2.1.2.2.2.2.2.1⟩), fun z hz => absurd hz List.not_mem_nil⟩) (by decide) (by decide) (hX.1.2.2.2.2 _ wm_2_160) (va_Nw.use rfl (hX.2.1.2.1.use wn_3_5)) hce hcv hcl ?_
      refine lv_astore (lv' := [(6, .ref q9), (0, .ref (a 0)), (1, .int p0), (2, .int p1), (3, .int p2), (4, .int p3), (5, .ref o)]) hx hb dL_told_22 hl (by decide) rfl (fun ls hl => ?_)
      refine lv_iconst (v := 2) hx hb dL_told_24 (by decide) ?_
      rw [← hQ]
      exact end_i hX hB hA3 rfl rfl ⟨2, n, v, rfl, ho, hq, Or.inr ⟨("java/lang/IllegalArgumentException", 2), (List.mem_cons_of_mem _ List.mem_cons_self), hEE, rfl⟩, rfl⟩ (Nat.le_of_ble_eq_true rfl) (Nat.le_of_ble_eq_true rfl) dL_told_25
    rcases List.mem_cons.mp hE with rfl | hE
    · refine vx_catch hX.1.2.2.2.1 [⟨0, 15, 18, 19⟩, ⟨0, 15, 22, 21⟩] ⟨0, 15, 26, 97⟩ [] hT (List.forall_mem_cons.mpr ⟨(Or.inr ⟨by decide, "java/lang/IndexOutOfBoundsException", hX.1.2.2.2.2 _ wm_2_159, hX.2.1.2.2.1.2.2.2.2.2.2.1⟩), List.forall_mem_cons.mpr ⟨(Or.inr ⟨by decide, "java/lang/IllegalArgumentException", hX.1.2.2.2.2 _ wm_2_160, hX.2.1.2.2.1.2.2.2.2.2.2.2.1⟩), fun z hz => absurd hz List.not_mem_nil⟩⟩) (by decide) (by decide) (hX.1.2.2.2.2 _ wm_5_21) (va_Nw.use rfl (hX.2.1.2.1.use wn_5_31)) hce hcv hcl ?_
      refine lv_astore (lv' := [(6, .ref q9), (0, .ref (a 0)), (1, .int p0), (2, .int p1), (3, .int p2), (4, .int p3), (5, .ref o)]) hx hb dL_told_26 hl (by decide) rfl (fun ls hl => ?_)
      refine lv_iconst (v := 3) hx hb dL_told_28 (by decide) ?_
      rw [← hQ]
      exact end_i hX hB hA3 rfl rfl ⟨3, n, v, rfl, ho, hq, Or.inr ⟨("java/lang/IllegalStateException", 3), (List.mem_cons_of_mem _ (List.mem_cons_of_mem _ List.mem_cons_self)), hEE, rfl⟩, rfl⟩ (Nat.le_of_ble_eq_true rfl) (Nat.le_of_ble_eq_true rfl) dL_told_29
    exact absurd hE List.not_mem_nil
  · obtain ⟨_, ⟨hE0, rfl, ho, hq, rfl⟩, rfl⟩ := hp
    refine W.eq (g2 := F0 m 11 ls [.int Y.2.1, .ref o]) rfl ?_
    refine lv_i2l hx hb dL_told_11 rfl ?_
    refine pfN (ty := .long) (k0 := 36) hX hB cw_o rfl in6 tyX6_ok nmX6 0 (by decide) wn_2_149 rfl rfl rfl rfl rfl (Nat.le_of_ble_eq_true rfl) (w1 := cw κ a Y.2.2.1 Y.2.2.2.1 Y.2.2.2.2 ++ [Ot o (Y.2.1.toInt64) v]) cw_oS dL_told_12 (fun H locs hB => ?_)
    refine lv_goto (tgt := 30) hx hb dL_told_15 (by decide) ?_
    refine lv_iconst (v := 0) hx hb dL_told_30 (by decide) ?_
    rw [← hQ]
    exact end_i hX hB hA3 rfl rfl ⟨0, (Y.2.1.toInt64), v, rfl, ho, hq, Or.inl ⟨hE0, rfl, rfl⟩, rfl⟩ (Nat.le_of_ble_eq_true rfl) (Nat.le_of_ble_eq_true rfl) dL_told_31
set_option maxHeartbeats 4000000 in
set_option maxRecDepth 100000 in
theorem w_change (κ : Kt) (l : Launch) (hst : l.stackTraces = false) (a : Nat → Nat) (r q : Nat → Int32) (f : Nat → Nat → Int64) (o : Nat) (n : Int64) (v : Value) (p0 : Int32) (p1 : Int32) (hok : okr r) (Y : CRs) (hY : D_X5_change r q f p0 p1 = Y) : CMW κ l yL_change cL_change 5 (Option.some Jvm.ClassFile.FieldType.int) [(0, 11, 14, 19), (0, 11, 18, 21), (0, 11, 22, 97)] 8 189 3 18 [.ref (a 0), .int p0, .int p1, .ref o] (cw κ a r q f ++ [Ot o n v]) (fun u w' => ∃ (k : Int32) (n' : Int64) (v' : Value), u = some (.int k) ∧ (okr r → okr Y.2.2.1) ∧ Y.2.2.2.1 4 = q 4 ∧ Wc ([("java/lang/IndexOutOfBoundsException", 1), ("java/lang/IllegalArgumentException", 2), ("java/lang/IllegalStateException", 3)] : List (String × Int32)) Y.1 Y.2.1 k n' ∧ w' = cw κ a Y.2.2.1 Y.2.2.2.1 Y.2.2.2.2 ++ [Ot o n' v']) := by
  refine CMW_begin (by decide) (Nat.le_of_ble_eq_true rfl) ?_
  intro p e s m args below meth c A Q hX hT hA3 hQ hB ls hl
  have hx := hX.1.1
  have hb := hX.1.2.1
  have hl : lv_has ls 5 [(0, .ref (a 0)), (1, .int p0), (2, .int p1), (3, .ref o)] := hl
  refine lv_aload_n hx hb dL_change_0 rfl (lv_at hl 3 rfl) ?_
  refine lv_aload_n hx hb dL_change_1 rfl (lv_at hl 0 rfl) ?_
  refine lv_iload_n hx hb dL_change_2 rfl (lv_at hl 1 rfl) ?_
  refine lv_iload_n hx hb dL_change_3 rfl (lv_at hl 2 rfl) ?_
  refine CX_after2 hX hB (run_XV (n := 2) (k0 := 0) (As := [.int p0, .int p1]) (rest := [.ref o]) hX hB (CX_frame [Ot o n v] (k_X5_change κ l hst a r q f p0 p1 _ _ _ _ _ (hY.trans (te5 Y)))) ⟨rfl, by decide, by decide, by decide +kernel⟩ wm_5_79 wm_5_80 wm_5_81 wm_1_1 wm_5_82 ⟨Nat.le_of_ble_eq_true rfl, Nat.le_of_ble_eq_true rfl⟩ ⟨Nat.le_of_ble_eq_true rfl, Nat.le_of_ble_eq_true rfl⟩ (app_at cw0) rfl rfl rfl hl.1 rfl (Nat.le_of_ble_eq_true rfl) dL_change_4) (fun E ce q9 w' H locs hp hB hce hcv hcl => ?_) (fun o9 w' H locs hp hB => ?_)
  · obtain ⟨_, ⟨hEE, hE, ho, hq, rfl⟩, rfl⟩ := hp
    rw [hEE] at hE
    rcases List.mem_cons.mp hE with rfl | hE
    · refine vx_catch hX.1.2.2.2.1 [] ⟨0, 11, 14, 19⟩ [⟨0, 11, 18, 21⟩, ⟨0, 11, 22, 97⟩] hT (fun z hz => absurd hz List.not_mem_nil) (by decide) (by decide) (hX.1.2.2.2.2 _ wm_2_159) (va_Nw.use rfl (hX.2.1.2.1.use wn_2_171)) hce hcv hcl ?_
      refine lv_astore (lv' := [(4, .ref q9), (0, .ref (a 0)), (1, .int p0), (2, .int p1), (3, .ref o)]) hx hb dL_change_14 hl (by decide) rfl (fun ls hl => ?_)
      refine lv_iconst (v := 1) hx hb dL_change_16 (by decide) ?_
      rw [← hQ]
      exact end_i hX hB hA3 rfl rfl ⟨1, n, v, rfl, ho, hq, Or.inr ⟨("java/lang/IndexOutOfBoundsException", 1), List.mem_cons_self, hEE, rfl⟩, rfl⟩ (Nat.le_of_ble_eq_true rfl) (Nat.le_of_ble_eq_true rfl) dL_change_17
    rcases List.mem_cons.mp hE with rfl | hE
    · refine vx_catch hX.1.2.2.2.1 [⟨0, 11, 14, 19⟩] ⟨0, 11, 18, 21⟩ [⟨0, 11, 22, 97⟩] hT (List.forall_mem_cons.mpr ⟨(Or.inr ⟨by decide, "java/lang/IndexOutOfBoundsException", hX.1.2.2.2.2 _ wm_2_159, hX.2.1.2.2.1.2.2.2.2.2.1⟩), fun z hz => absurd hz List.not_mem_nil⟩) (by decide) (by decide) (hX.1.2.2.2.2 _ wm_2_160) (va_Nw.use rfl (hX.2.1.2.1.use wn_3_5)) hce hcv hcl ?_
      refine lv_astore (lv' := [(4, .ref q9), (0, .ref (a 0)), (1, .int p0), (2, .int p1), (3, .ref o)]) hx hb dL_change_18 hl (by decide) rfl (fun ls hl => ?_)
      refine lv_iconst (v := 2) hx hb dL_change_20 (by decide) ?_
      rw [← hQ]
      exact end_i hX hB hA3 rfl rfl ⟨2, n, v, rfl, ho, hq, Or.inr ⟨("java/lang/IllegalArgumentException", 2), (List.mem_cons_of_mem _ List.mem_cons_self), hEE, rfl⟩, rfl⟩ (Nat.le_of_ble_eq_true rfl) (Nat.le_of_ble_eq_true rfl) dL_change_21
    rcases List.mem_cons.mp hE with rfl | hE
    · refine vx_catch hX.1.2.2.2.1 [⟨0, 11, 14, 19⟩, ⟨0, 11, 18, 21⟩] ⟨0, 11, 22, 97⟩ [] hT (List.forall_mem_cons.mpr ⟨(Or.inr ⟨by decide, "java/lang/IndexOutOfBoundsException", hX.1.2.2.2.2 _ wm_2_159, hX.2.1.2.2.1.2.2.2.2.2.2.1⟩), List.forall_mem_cons.mpr ⟨(Or.inr ⟨by decide, "java/lang/IllegalArgumentException", hX.1.2.2.2.2 _ wm_2_160, hX.2.1.2.2.1.2.2.2.2.2.2.2.1⟩), fun z hz => absurd hz List.not_mem_nil⟩⟩) (by decide) (by decide) (hX.1.2.2.2.2 _ wm_5_21) (va_Nw.use rfl (hX.2.1.2.1.use wn_5_31)) hce hcv hcl ?_
      refine lv_astore (lv' := [(4, .ref q9), (0, .ref (a 0)), (1, .int p0), (2, .int p1), (3, .ref o)]) hx hb dL_change_22 hl (by decide) rfl (fun ls hl => ?_)
      refine lv_iconst (v := 3) hx hb dL_change_24 (by decide) ?_
      rw [← hQ]
      exact end_i hX hB hA3 rfl rfl ⟨3, n, v, rfl, ho, hq, Or.inr ⟨("java/lang/IllegalStateException", 3), (List.mem_cons_of_mem _ (List.mem_cons_of_mem _ List.mem_cons_self)), hEE, rfl⟩, rfl⟩ (Nat.le_of_ble_eq_true rfl) (Nat.le_of_ble_eq_true rfl) dL_change_25
    exact absurd hE List.not_mem_nil
  · obtain ⟨_, ⟨hE0, rfl, ho, hq, rfl⟩, rfl⟩ := hp
    refine W.eq (g2 := F0 m 7 ls [.int Y.2.1, .ref o]) rfl ?_
    refine lv_i2l hx hb dL_change_7 rfl ?_
    refine pfN (ty := .long) (k0 := 36) hX hB cw_o rfl in6 tyX6_ok nmX6 0 (by decide) wn_2_149 rfl rfl rfl rfl rfl (Nat.le_of_ble_eq_true rfl) (w1 := cw κ a Y.2.2.1 Y.2.2.2.1 Y.2.2.2.2 ++ [Ot o (Y.2.1.toInt64) v]) cw_oS dL_change_8 (fun H locs hB => ?_)
    refine lv_goto (tgt := 26) hx hb dL_change_11 (by decide) ?_
    refine lv_iconst (v := 0) hx hb dL_change_26 (by decide) ?_
    rw [← hQ]
    exact end_i hX hB hA3 rfl rfl ⟨0, (Y.2.1.toInt64), v, rfl, ho, hq, Or.inl ⟨hE0, rfl, rfl⟩, rfl⟩ (Nat.le_of_ble_eq_true rfl) (Nat.le_of_ble_eq_true rfl) dL_change_27
set_option maxHeartbeats 4000000 in
set_option maxRecDepth 100000 in
theorem w_isSolvable (κ : Kt) (l : Launch) (hst : l.stackTraces = false) (a : Nat → Nat) (r q : Nat → Int32) (f : Nat → Nat → Int64) (o : Nat) (n : Int64) (v : Value) (p0 : Int32) (p1 : Int32) (p2 : Int32) (p3 : Int32) (hok : okr r) (Y : CRs) (hY : D_X5_isSolvable r q f p0 p1 p2 p3 = Y) : CMW κ l yL_isSolvable cL_isSolvable 7 (Option.some Jvm.ClassFile.FieldType.int) [(0, 22, 25, 19), (0, 22, 29, 21), (0, 22, 33, 97)] 8 220 5 30 [.ref (a 0), .int p0, .int p1, .int p2, .int p3, .ref o] (cw κ a r q f ++ [Ot o n v]) (fun u w' => ∃ (k : Int32) (n' : Int64) (v' : Value), u = some (.int k) ∧ (okr r → okr Y.2.2.1) ∧ Y.2.2.2.1 4 = q 4 ∧ Wc ([("java/lang/IndexOutOfBoundsException", 1), ("java/lang/IllegalArgumentException", 2), ("java/lang/IllegalStateException", 3)] : List (String × Int32)) Y.1 Y.2.1 k n' ∧ w' = cw κ a Y.2.2.1 Y.2.2.2.1 Y.2.2.2.2 ++ [Ot o n' v']) := by
  refine CMW_begin (by decide) (Nat.le_of_ble_eq_true rfl) ?_
  intro p e s m args below meth c A Q hX hT hA3 hQ hB ls hl
  have hx := hX.1.1
  have hb := hX.1.2.1
  have hl : lv_has ls 7 [(0, .ref (a 0)), (1, .int p0), (2, .int p1), (3, .int p2), (4, .int p3), (5, .ref o)] := hl
  refine lv_aload hx hb dL_isSolvable_0 (lv_at hl 5 rfl) ?_
  refine lv_aload_n hx hb dL_isSolvable_2 rfl (lv_at hl 0 rfl) ?_
  refine lv_iload_n hx hb dL_isSolvable_3 rfl (lv_at hl 1 rfl) ?_
  refine lv_iload_n hx hb dL_isSolvable_4 rfl (lv_at hl 2 rfl) ?_
  refine lv_iload_n hx hb dL_isSolvable_5 rfl (lv_at hl 3 rfl) ?_
  refine lv_iload hx hb dL_isSolvable_6 (lv_at hl 4 rfl) ?_
  refine CX_after2 hX hB (run_XV (n := 4) (k0 := 0) (As := [.int p0, .int p1, .int p2, .int p3]) (rest := [.ref o]) hX hB (CX_frame [Ot o n v] (k_X5_isSolvable κ l hst a r q f p0 p1 p2 p3 hok _ _ _ _ _ (hY.trans (te5 Y)))) ⟨rfl, by decide, by decide, by decide +kernel⟩ wm_5_86 wm_5_87 wm_5_88 wm_1_1 wm_5_89 ⟨Nat.le_of_ble_eq_true rfl, Nat.le_of_ble_eq_true rfl⟩ ⟨Nat.le_of_ble_eq_true rfl, Nat.le_of_ble_eq_true rfl⟩ (app_at cw0) rfl rfl rfl hl.1 rfl (Nat.le_of_ble_eq_true rfl) dL_isSolvable_8) (fun E ce q9 w' H locs hp hB hce hcv hcl => ?_) (fun o9 w' H locs hp hB => ?_)
  · obtain ⟨_, ⟨hEE, hE, ho, hq, rfl⟩, rfl⟩ := hp
    rw [hEE] at hE
    rcases List.mem_cons.mp hE with rfl | hE
    · refine vx_catch hX.1.2.2.2.1 [] ⟨0, 22, 25, 19⟩ [⟨0, 22, 29, 21⟩, ⟨0, 22, 33, 97⟩] hT (fun z hz => absurd hz List.not_mem_nil) (by decide) (by decide) (hX.1.2.2.2.2 _ wm_2_159) (va_Nw.use rfl (hX.2.1.2.1.use wn_2_171)) hce hcv hcl ?_
      refine lv_astore (lv' := [(6, .ref q9), (0, .ref (a 0)), (1, .int p0), (2, .int p1), (3, .int p2), (4, .int p3), (5, .ref o)]) hx hb dL_isSolvable_25 hl (by decide) rfl (fun ls hl => ?_)
      refine lv_iconst (v := 1) hx hb dL_isSolvable_27 (by decide) ?_
      rw [← hQ]
      exact end_i hX hB hA3 rfl rfl ⟨1, n, v, rfl, ho, hq, Or.inr ⟨("java/lang/IndexOutOfBoundsException", 1), List.mem_cons_self, hEE, rfl⟩, rfl⟩ (Nat.le_of_ble_eq_true rfl) (Nat.le_of_ble_eq_true rfl) dL_isSolvable_28
    rcases List.mem_cons.mp hE with rfl | hE
    · refine vx_catch hX.1.2.2.2.1 [⟨0, 22, 25, 19⟩] ⟨0, 22, 29, 21⟩ [⟨0, 22, 33, 97⟩] hT (List.forall_mem_cons.mpr ⟨(Or.inr ⟨by decide, "java/lang/IndexOutOfBoundsException", hX.1.2.2.2.2 _ wm_2_159, hX.2.1.2.2.1.2.2.2.2.2.1⟩), fun z hz => absurd hz List.not_mem_nil⟩) (by decide) (by decide) (hX.1.2.2.2.2 _ wm_2_160) (va_Nw.use rfl (hX.2.1.2.1.use wn_3_5)) hce hcv hcl ?_
      refine lv_astore (lv' := [(6, .ref q9), (0, .ref (a 0)), (1, .int p0), (2, .int p1), (3, .int p2), (4, .int p3), (5, .ref o)]) hx hb dL_isSolvable_29 hl (by decide) rfl (fun ls hl => ?_)
      refine lv_iconst (v := 2) hx hb dL_isSolvable_31 (by decide) ?_
      rw [← hQ]
      exact end_i hX hB hA3 rfl rfl ⟨2, n, v, rfl, ho, hq, Or.inr ⟨("java/lang/IllegalArgumentException", 2), (List.mem_cons_of_mem _ List.mem_cons_self), hEE, rfl⟩, rfl⟩ (Nat.le_of_ble_eq_true rfl) (Nat.le_of_ble_eq_true rfl) dL_isSolvable_32
    rcases List.mem_cons.mp hE with rfl | hE
    · refine vx_catch hX.1.2.2.2.1 [⟨0, 22, 25, 19⟩, ⟨0, 22, 29, 21⟩] ⟨0, 22, 33, 97⟩ [] hT (List.forall_mem_cons.mpr ⟨(Or.inr ⟨by decide, "java/lang/IndexOutOfBoundsException", hX.1.2.2.2.2 _ wm_2_159, hX.2.1.2.2.1.2.2.2.2.2.2.1⟩), List.forall_mem_cons.mpr ⟨(Or.inr ⟨by decide, "java/lang/IllegalArgumentException", hX.1.2.2.2.2 _ wm_2_160, hX.2.1.2.2.1.2.2.2.2.2.2.2.1⟩), fun z hz => absurd hz List.not_mem_nil⟩⟩) (by decide) (by decide) (hX.1.2.2.2.2 _ wm_5_21) (va_Nw.use rfl (hX.2.1.2.1.use wn_5_31)) hce hcv hcl ?_
      refine lv_astore (lv' := [(6, .ref q9), (0, .ref (a 0)), (1, .int p0), (2, .int p1), (3, .int p2), (4, .int p3), (5, .ref o)]) hx hb dL_isSolvable_33 hl (by decide) rfl (fun ls hl => ?_)
      refine lv_iconst (v := 3) hx hb dL_isSolvable_35 (by decide) ?_
      rw [← hQ]
      exact end_i hX hB hA3 rfl rfl ⟨3, n, v, rfl, ho, hq, Or.inr ⟨("java/lang/IllegalStateException", 3), (List.mem_cons_of_mem _ (List.mem_cons_of_mem _ List.mem_cons_self)), hEE, rfl⟩, rfl⟩ (Nat.le_of_ble_eq_true rfl) (Nat.le_of_ble_eq_true rfl) dL_isSolvable_36
    exact absurd hE List.not_mem_nil
  · obtain ⟨_, ⟨hE0, rfl, bx, ho, hq, rfl⟩, rfl⟩ := hp
    refine W.eq (g2 := F0 m 11 ls [.int Y.2.1, .ref o]) rfl ?_
    refine lv_if_eq (tgt := 18) hx hb dL_isSolvable_11 (by decide) (fun c1 => ?_) (fun c1 => ?_)
    · refine lv_lconst (v := 0) hx hb dL_isSolvable_18 (by decide) ?_
      refine pfN (ty := .long) (k0 := 36) hX hB cw_o rfl in6 tyX6_ok nmX6 0 (by decide) wn_2_149 rfl rfl rfl rfl rfl (Nat.le_of_ble_eq_true rfl) (w1 := cw κ a Y.2.2.1 Y.2.2.2.1 Y.2.2.2.2 ++ [Ot o 0 v]) cw_oS dL_isSolvable_19 (fun H locs hB => ?_)
      refine lv_goto (tgt := 37) hx hb dL_isSolvable_22 (by decide) ?_
      refine lv_iconst (v := 0) hx hb dL_isSolvable_37 (by decide) ?_
      rw [← hQ]
      exact end_i hX hB hA3 rfl rfl ⟨0, 0, v, rfl, ho, hq, Or.inl ⟨hE0, rfl, (by rw [c1]; exact t640.symm)⟩, rfl⟩ (Nat.le_of_ble_eq_true rfl) (Nat.le_of_ble_eq_true rfl) dL_isSolvable_38
    · refine lv_lconst (v := 1) hx hb dL_isSolvable_14 (by decide) ?_
      refine lv_goto (tgt := 19) hx hb dL_isSolvable_15 (by decide) ?_
      refine pfN (ty := .long) (k0 := 36) hX hB cw_o rfl in6 tyX6_ok nmX6 0 (by decide) wn_2_149 rfl rfl rfl rfl rfl (Nat.le_of_ble_eq_true rfl) (w1 := cw κ a Y.2.2.1 Y.2.2.2.1 Y.2.2.2.2 ++ [Ot o 1 v]) cw_oS dL_isSolvable_19 (fun H locs hB => ?_)
      refine lv_goto (tgt := 37) hx hb dL_isSolvable_22 (by decide) ?_
      refine lv_iconst (v := 0) hx hb dL_isSolvable_37 (by decide) ?_
      rw [← hQ]
      exact end_i hX hB hA3 rfl rfl ⟨0, 1, v, rfl, ho, hq, Or.inl ⟨hE0, rfl, (by rw [bx.resolve_left c1]; exact t64a.symm)⟩, rfl⟩ (Nat.le_of_ble_eq_true rfl) (Nat.le_of_ble_eq_true rfl) dL_isSolvable_38
set_option maxHeartbeats 4000000 in
set_option maxRecDepth 100000 in
theorem w_restColumn (κ : Kt) (l : Launch) (hst : l.stackTraces = false) (a : Nat → Nat) (r q : Nat → Int32) (f : Nat → Nat → Int64) (o : Nat) (n : Int64) (v : Value) (p0 : Int32) (p1 : Int32) (p2 : Int32) (hok : okr r) (Y : CRs) (hY : D_X5_restColumn r q f p0 p1 p2 = Y) : CMW κ l yL_restColumn cL_restColumn 6 (Option.some Jvm.ClassFile.FieldType.int) [(0, 13, 16, 19), (0, 13, 20, 97), (0, 13, 24, 21)] 8 147 3 18 [.ref (a 0), .int p0, .int p1, .int p2, .ref o] (cw κ a r q f ++ [Ot o n v]) (fun u w' => ∃ (k : Int32) (n' : Int64) (v' : Value), u = some (.int k) ∧ (okr r → okr Y.2.2.1) ∧ Y.2.2.2.1 4 = q 4 ∧ Wc ([("java/lang/IndexOutOfBoundsException", 1), ("java/lang/IllegalArgumentException", 3), ("java/lang/IllegalStateException", 2)] : List (String × Int32)) Y.1 Y.2.1 k n' ∧ w' = cw κ a Y.2.2.1 Y.2.2.2.1 Y.2.2.2.2 ++ [Ot o n' v']) := by
  refine CMW_begin (by decide) (Nat.le_of_ble_eq_true rfl) ?_
  intro p e s m args below meth c A Q hX hT hA3 hQ hB ls hl
  have hx := hX.1.1
  have hb := hX.1.2.1
  have hl : lv_has ls 6 [(0, .ref (a 0)), (1, .int p0), (2, .int p1), (3, .int p2), (4, .ref o)] := hl
  refine lv_aload hx hb dL_restColumn_0 (lv_at hl 4 rfl) ?_
  refine lv_aload_n hx hb dL_restColumn_2 rfl (lv_at hl 0 rfl) ?_
  refine lv_iload_n hx hb dL_restColumn_3 rfl (lv_at hl 1 rfl) ?_
  refine lv_iload_n hx hb dL_restColumn_4 rfl (lv_at hl 2 rfl) ?_
  refine lv_iload_n hx hb dL_restColumn_5 rfl (lv_at hl 3 rfl) ?_
  refine CX_after2 hX hB (run_XV (n := 3) (k0 := 0) (As := [.int p0, .int p1, .int p2]) (rest := [.ref o]) hX hB (CX_frame [Ot o n v] (k_X5_restColumn κ l hst a r q f p0 p1 p2 _ _ _ _ _ (hY.trans (te5 Y)))) ⟨rfl, by decide, by decide, by decide +kernel⟩ wm_5_93 wm_5_94 wm_5_95 wm_1_1 wm_5_96 ⟨Nat.le_of_ble_eq_true rfl, Nat.le_of_ble_eq_true rfl⟩ ⟨Nat.le_of_ble_eq_true rfl, Nat.le_of_ble_eq_true rfl⟩ (app_at cw0) rfl rfl rfl hl.1 rfl (Nat.le_of_ble_eq_true rfl) dL_restColumn_6) (fun E ce q9 w' H locs hp hB hce hcv hcl => ?_) (fun o9 w' H locs hp hB => ?_)
  · obtain ⟨_, ⟨hEE, hE, ho, hq, rfl⟩, rfl⟩ := hp
    rw [hEE] at hE
    rcases List.mem_cons.mp hE with rfl | hE
    · refine vx_catch hX.1.2.2.2.1 [] ⟨0, 13, 16, 19⟩ [⟨0, 13, 20, 97⟩, ⟨0, 13, 24, 21⟩] hT (fun z hz => absurd hz List.not_mem_nil) (by decide) (by decide) (hX.1.2.2.2.2 _ wm_2_159) (va_Nw.use rfl (hX.2.1.2.1.use wn_2_171)) hce hcv hcl ?_
      refine lv_astore (lv' := [(5, .ref q9), (0, .ref (a 0)), (1, .int p0), (2, .int p1), (3, .int p2), (4, .ref o)]) hx hb dL_restColumn_16 hl (by decide) rfl (fun ls hl => ?_)
      refine lv_iconst (v := 1) hx hb dL_restColumn_18 (by decide) ?_
      rw [← hQ]
      exact end_i hX hB hA3 rfl rfl ⟨1, n, v, rfl, ho, hq, Or.inr ⟨("java/lang/IndexOutOfBoundsException", 1), List.mem_cons_self, hEE, rfl⟩, rfl⟩ (Nat.le_of_ble_eq_true rfl) (Nat.le_of_ble_eq_true rfl) dL_restColumn_19
    rcases List.mem_cons.mp hE with rfl | hE
    · refine vx_catch hX.1.2.2.2.1 [⟨0, 13, 16, 19⟩, ⟨0, 13, 20, 97⟩] ⟨0, 13, 24, 21⟩ [] hT (List.forall_mem_cons.mpr ⟨(Or.inr ⟨by decide, "java/lang/IndexOutOfBoundsException", hX.1.2.2.2.2 _ wm_2_159, hX.2.1.2.2.1.2.2.2.2.2.1⟩), List.forall_mem_cons.mpr ⟨(Or.inr ⟨by decide, "java/lang/IllegalStateException", hX.1.2.2.2.2 _ wm_5_21, hX.2.1.2.2.1.2.2.2.2.2.2.2.2⟩), fun z hz => absurd hz List.not_mem_nil⟩⟩) (by decide) (by decide) (hX.1.2.2.2.2 _ wm_2_160) (va_Nw.use rfl (hX.2.1.2.1.use wn_3_5)) hce hcv hcl ?_
      refine lv_astore (lv' := [(5, .ref q9), (0, .ref (a 0)), (1, .int p0), (2, .int p1), (3, .int p2), (4, .ref o)]) hx hb dL_restColumn_24 hl (by decide) rfl (fun ls hl => ?_)
      refine lv_iconst (v := 3) hx hb dL_restColumn_26 (by decide) ?_
      rw [← hQ]
      exact end_i hX hB hA3 rfl rfl ⟨3, n, v, rfl, ho, hq, Or.inr ⟨("java/lang/IllegalArgumentException", 3), (List.mem_cons_of_mem _ List.mem_cons_self), hEE, rfl⟩, rfl⟩ (Nat.le_of_ble_eq_true rfl) (Nat.le_of_ble_eq_true rfl) dL_restColumn_27
    rcases List.mem_cons.mp hE with rfl | hE
    · refine vx_catch hX.1.2.2.2.1 [⟨0, 13, 16, 19⟩] ⟨0, 13, 20, 97⟩ [⟨0, 13, 24, 21⟩] hT (List.forall_mem_cons.mpr ⟨(Or.inr ⟨by decide, "java/lang/IndexOutOfBoundsException", hX.1.2.2.2.2 _ wm_2_159, hX.2.1.2.2.1.2.2.2.2.2.2.1⟩), fun z hz => absurd hz List.not_mem_nil⟩) (by decide) (by decide) (hX.1.2.2.2.2 _ wm_5_21) (va_Nw.use rfl (hX.2.1.2.1.use wn_5_31)) hce hcv hcl ?_
      refine lv_astore (lv' := [(5, .ref q9), (0, .ref (a 0)), (1, .int p0), (2, .int p1), (3, .int p2), (4, .ref o)]) hx hb dL_restColumn_20 hl (by decide) rfl (fun ls hl => ?_)
      refine lv_iconst (v := 2) hx hb dL_restColumn_22 (by decide) ?_
      rw [← hQ]
      exact end_i hX hB hA3 rfl rfl ⟨2, n, v, rfl, ho, hq, Or.inr ⟨("java/lang/IllegalStateException", 2), (List.mem_cons_of_mem _ (List.mem_cons_of_mem _ List.mem_cons_self)), hEE, rfl⟩, rfl⟩ (Nat.le_of_ble_eq_true rfl) (Nat.le_of_ble_eq_true rfl) dL_restColumn_23
    exact absurd hE List.not_mem_nil
  · obtain ⟨_, ⟨hE0, rfl, ho, hq, rfl⟩, rfl⟩ := hp
    refine W.eq (g2 := F0 m 9 ls [.int Y.2.1, .ref o]) rfl ?_
    refine lv_i2l hx hb dL_restColumn_9 rfl ?_
    refine pfN (ty := .long) (k0 := 36) hX hB cw_o rfl in6 tyX6_ok nmX6 0 (by decide) wn_2_149 rfl rfl rfl rfl rfl (Nat.le_of_ble_eq_true rfl) (w1 := cw κ a Y.2.2.1 Y.2.2.2.1 Y.2.2.2.2 ++ [Ot o (Y.2.1.toInt64) v]) cw_oS dL_restColumn_10 (fun H locs hB => ?_)
    refine lv_goto (tgt := 28) hx hb dL_restColumn_13 (by decide) ?_
    refine lv_iconst (v := 0) hx hb dL_restColumn_28 (by decide) ?_
    rw [← hQ]
    exact end_i hX hB hA3 rfl rfl ⟨0, (Y.2.1.toInt64), v, rfl, ho, hq, Or.inl ⟨hE0, rfl, rfl⟩, rfl⟩ (Nat.le_of_ble_eq_true rfl) (Nat.le_of_ble_eq_true rfl) dL_restColumn_29
set_option maxHeartbeats 4000000 in
set_option maxRecDepth 100000 in
theorem w_rest (κ : Kt) (l : Launch) (hst : l.stackTraces = false) (a : Nat → Nat) (r q : Nat → Int32) (f : Nat → Nat → Int64) (o : Nat) (n : Int64) (v : Value) (p0 : Int32) (p1 : Int32) (hok : okr r) : CMW κ l yL_rest cL_rest 5 (Option.some Jvm.ClassFile.FieldType.int) [(0, 10, 13, 19), (0, 10, 17, 97), (0, 10, 21, 21)] 8 214 17 10226 [.ref (a 0), .int p0, .int p1, .ref o] (cw κ a r q f ++ [Ot o n v]) (fun u w' => ∃ (k : Int32) (r' q' : Nat → Int32) (f' : Nat → Nat → Int64) (n' : Int64) (v' : Value), u = some (.int k) ∧ (okr r → okr r') ∧ q' 4 = q 4 ∧ Ks r q f r' q' f' ∧ w' = cw κ a r' q' f' ++ [Ot o n' v']) := by
  refine CMW_begin (by decide) (Nat.le_of_ble_eq_true rfl) ?_
  intro p e s m args below meth c A Q hX hT hA3 hQ hB ls hl
  have hx := hX.1.1
  have hb := hX.1.2.1
  have hl : lv_has ls 5 [(0, .ref (a 0)), (1, .int p0), (2, .int p1), (3, .ref o)] := hl
  refine lv_aload_n hx hb dL_rest_0 rfl (lv_at hl 3 rfl) ?_
  refine lv_aload_n hx hb dL_rest_1 rfl (lv_at hl 0 rfl) ?_
  refine lv_iload_n hx hb dL_rest_2 rfl (lv_at hl 1 rfl) ?_
  refine lv_iload_n hx hb dL_rest_3 rfl (lv_at hl 2 rfl) ?_
  refine CX_after2 hX hB (run_XV (n := 2) (k0 := 0) (As := [.int p0, .int p1]) (rest := [.ref o]) hX hB (CX_frame [Ot o n v] (k_X5_rest κ l hst a r q f p0 p1 hok)) ⟨rfl, by decide, by decide, by decide +kernel⟩ wm_5_101 wm_5_102 wm_5_103 wm_1_1 wm_5_104 ⟨Nat.le_of_ble_eq_true rfl, Nat.le_of_ble_eq_true rfl⟩ ⟨Nat.le_of_ble_eq_true rfl, Nat.le_of_ble_eq_true rfl⟩ (app_at cw0) rfl rfl rfl hl.1 rfl (Nat.le_of_ble_eq_true rfl) dL_rest_4) (fun E ce q9 w' H locs hp hB hce hcv hcl => ?_) (fun o9 w' H locs hp hB => ?_)
  · obtain ⟨_, ⟨hE, r1, q1, f1, ho, hq, hk, rfl⟩, rfl⟩ := hp
    rcases List.mem_cons.mp hE with rfl | hE
    · refine vx_catch hX.1.2.2.2.1 [] ⟨0, 10, 13, 19⟩ [⟨0, 10, 17, 97⟩, ⟨0, 10, 21, 21⟩] hT (fun z hz => absurd hz List.not_mem_nil) (by decide) (by decide) (hX.1.2.2.2.2 _ wm_2_159) (va_Nw.use rfl (hX.2.1.2.1.use wn_2_171)) hce hcv hcl ?_
      refine lv_astore (lv' := [(4, .ref q9), (0, .ref (a 0)), (1, .int p0), (2, .int p1), (3, .ref o)]) hx hb dL_rest_13 hl (by decide) rfl (fun ls hl => ?_)
      refine lv_iconst (v := 1) hx hb dL_rest_15 (by decide) ?_
      rw [← hQ]
      exact end_i hX hB hA3 rfl rfl ⟨1, r1, q1, f1, n, v, rfl, ho, hq, hk, rfl⟩ (Nat.le_of_ble_eq_true rfl) (Nat.le_of_ble_eq_true rfl) dL_rest_16
    rcases List.mem_cons.mp hE with rfl | hE
    · refine vx_catch hX.1.2.2.2.1 [⟨0, 10, 13, 19⟩] ⟨0, 10, 17, 97⟩ [⟨0, 10, 21, 21⟩] hT (List.forall_mem_cons.mpr ⟨(Or.inr ⟨by decide, "java/lang/IndexOutOfBoundsException", hX.1.2.2.2.2 _ wm_2_159, hX.2.1.2.2.1.2.2.2.2.2.2.1⟩), fun z hz => absurd hz List.not_mem_nil⟩) (by decide) (by decide) (hX.1.2.2.2.2 _ wm_5_21) (va_Nw.use rfl (hX.2.1.2.1.use wn_5_31)) hce hcv hcl ?_
      refine lv_astore (lv' := [(4, .ref q9), (0, .ref (a 0)), (1, .int p0), (2, .int p1), (3, .ref o)]) hx hb dL_rest_17 hl (by decide) rfl (fun ls hl => ?_)
      refine lv_iconst (v := 2) hx hb dL_rest_19 (by decide) ?_
      rw [← hQ]
      exact end_i hX hB hA3 rfl rfl ⟨2, r1, q1, f1, n, v, rfl, ho, hq, hk, rfl⟩ (Nat.le_of_ble_eq_true rfl) (Nat.le_of_ble_eq_true rfl) dL_rest_20
    rcases List.mem_cons.mp hE with rfl | hE
    · refine vx_catch hX.1.2.2.2.1 [⟨0, 10, 13, 19⟩, ⟨0, 10, 17, 97⟩] ⟨0, 10, 21, 21⟩ [] hT (List.forall_mem_cons.mpr ⟨(Or.inr ⟨by decide, "java/lang/IndexOutOfBoundsException", hX.1.2.2.2.2 _ wm_2_159, hX.2.1.2.2.1.2.2.2.2.2.1⟩), List.forall_mem_cons.mpr ⟨(Or.inr ⟨by decide, "java/lang/IllegalStateException", hX.1.2.2.2.2 _ wm_5_21, hX.2.1.2.2.1.2.2.2.2.2.2.2.2⟩), fun z hz => absurd hz List.not_mem_nil⟩⟩) (by decide) (by decide) (hX.1.2.2.2.2 _ wm_2_160) (va_Nw.use rfl (hX.2.1.2.1.use wn_3_5)) hce hcv hcl ?_
      refine lv_astore (lv' := [(4, .ref q9), (0, .ref (a 0)), (1, .int p0), (2, .int p1), (3, .ref o)]) hx hb dL_rest_21 hl (by decide) rfl (fun ls hl => ?_)
      refine lv_iconst (v := 3) hx hb dL_rest_23 (by decide) ?_
      rw [← hQ]
      exact end_i hX hB hA3 rfl rfl ⟨3, r1, q1, f1, n, v, rfl, ho, hq, hk, rfl⟩ (Nat.le_of_ble_eq_true rfl) (Nat.le_of_ble_eq_true rfl) dL_rest_24
    exact absurd hE List.not_mem_nil
  · obtain ⟨_, ⟨x, r1, q1, f1, rfl, ho, hq, hk, rfl⟩, rfl⟩ := hp
    refine W.eq (g2 := F0 m 7 ls [.ref x, .ref o]) rfl ?_
    refine pfN (ty := .object "java/lang/String") (k0 := 36) hX hB cw_o rfl in6 tyX6_ok nmX6 1 (by decide) wn_2_150 rfl rfl rfl rfl rfl (Nat.le_of_ble_eq_true rfl) (w1 := cw κ a r1 q1 f1 ++ [Ot o n (.ref x)]) cw_oS dL_rest_7 (fun H locs hB => ?_)
    refine lv_goto (tgt := 25) hx hb dL_rest_10 (by decide) ?_
    refine lv_iconst (v := 0) hx hb dL_rest_25 (by decide) ?_
    rw [← hQ]
    exact end_i hX hB hA3 rfl rfl ⟨0, r1, q1, f1, n, (.ref x), rfl, ho, hq, hk, rfl⟩ (Nat.le_of_ble_eq_true rfl) (Nat.le_of_ble_eq_true rfl) dL_rest_26
set_option maxHeartbeats 4000000 in
set_option maxRecDepth 100000 in
theorem w_restOf (κ : Kt) (l : Launch) (hst : l.stackTraces = false) (a : Nat → Nat) (r q : Nat → Int32) (f : Nat → Nat → Int64) (o : Nat) (n : Int64) (v : Value) (p0 : Int32) (p1 : Int32) (p2 : Int32) (hok : okr r) (Y : CRs) (hY : D_X5_restOf r q f p0 p1 p2 = Y) : CMW κ l yL_restOf cL_restOf 6 (Option.some Jvm.ClassFile.FieldType.int) [(0, 13, 16, 19), (0, 13, 20, 97), (0, 13, 24, 21)] 8 219 5 30 [.ref (a 0), .int p0, .int p1, .int p2, .ref o] (cw κ a r q f ++ [Ot o n v]) (fun u w' => ∃ (k : Int32) (n' : Int64) (v' : Value), u = some (.int k) ∧ (okr r → okr Y.2.2.1) ∧ Y.2.2.2.1 4 = q 4 ∧ Wc ([("java/lang/IndexOutOfBoundsException", 1), ("java/lang/IllegalArgumentException", 3), ("java/lang/IllegalStateException", 2)] : List (String × Int32)) Y.1 Y.2.1 k n' ∧ w' = cw κ a Y.2.2.1 Y.2.2.2.1 Y.2.2.2.2 ++ [Ot o n' v']) := by
  refine CMW_begin (by decide) (Nat.le_of_ble_eq_true rfl) ?_
  intro p e s m args below meth c A Q hX hT hA3 hQ hB ls hl
  have hx := hX.1.1
  have hb := hX.1.2.1
  have hl : lv_has ls 6 [(0, .ref (a 0)), (1, .int p0), (2, .int p1), (3, .int p2), (4, .ref o)] := hl
  refine lv_aload hx hb dL_restOf_0 (lv_at hl 4 rfl) ?_
  refine lv_aload_n hx hb dL_restOf_2 rfl (lv_at hl 0 rfl) ?_
  refine lv_iload_n hx hb dL_restOf_3 rfl (lv_at hl 1 rfl) ?_
  refine lv_iload_n hx hb dL_restOf_4 rfl (lv_at hl 2 rfl) ?_
  refine lv_iload_n hx hb dL_restOf_5 rfl (lv_at hl 3 rfl) ?_
  refine CX_after2 hX hB (run_XV (n := 3) (k0 := 0) (As := [.int p0, .int p1, .int p2]) (rest := [.ref o]) hX hB (CX_frame [Ot o n v] (k_X5_restOf κ l hst a r q f p0 p1 p2 _ _ _ _ _ (hY.trans (te5 Y)))) ⟨rfl, by decide, by decide, by decide +kernel⟩ wm_5_121 wm_5_122 wm_5_123 wm_1_1 wm_5_124 ⟨Nat.le_of_ble_eq_true rfl, Nat.le_of_ble_eq_true rfl⟩ ⟨Nat.le_of_ble_eq_true rfl, Nat.le_of_ble_eq_true rfl⟩ (app_at cw0) rfl rfl rfl hl.1 rfl (Nat.le_of_ble_eq_true rfl) dL_restOf_6) (fun E ce q9 w' H locs hp hB hce hcv hcl => ?_) (fun o9 w' H locs hp hB => ?_)
  · obtain ⟨_, ⟨hEE, hE, ho, hq, rfl⟩, rfl⟩ := hp
    rw [hEE] at hE
    rcases List.mem_cons.mp hE with rfl | hE
    · refine vx_catch hX.1.2.2.2.1 [] ⟨0, 13, 16, 19⟩ [⟨0, 13, 20, 97⟩, ⟨0, 13, 24, 21⟩] hT (fun z hz => absurd hz List.not_mem_nil) (by decide) (by decide) (hX.1.2.2.2.2 _ wm_2_159) (va_Nw.use rfl (hX.2.1.2.1.use wn_2_171)) hce hcv hcl ?_
      refine lv_astore (lv' := [(5, .ref q9), (0, .ref (a 0)), (1, .int p0), (2, .int p1), (3, .int p2), (4, .ref o)]) hx hb dL_restOf_16 hl (by decide) rfl (fun ls hl => ?_)
      refine lv_iconst (v := 1) hx hb dL_restOf_18 (by decide) ?_
      rw [← hQ]
      exact end_i hX hB hA3 rfl rfl ⟨1, n, v, rfl, ho, hq, Or.inr ⟨("java/lang/IndexOutOfBoundsException", 1), List.mem_cons_self, hEE, rfl⟩, rfl⟩ (Nat.le_of_ble_eq_true rfl) (Nat.le_of_ble_eq_true rfl) dL_restOf_19
    rcases List.mem_cons.mp hE with rfl | hE
    · refine vx_catch hX.1.2.2.2.1 [⟨0, 13, 16, 19⟩, ⟨0, 13, 20, 97⟩] ⟨0, 13, 24, 21⟩ [] hT (List.forall_mem_cons.mpr ⟨(Or.inr ⟨by decide, "java/lang/IndexOutOfBoundsException", hX.1.2.2.2.2 _ wm_2_159, hX.2.1.2.2.1.2.2.2.2.2.1⟩), List.forall_mem_cons.mpr ⟨(Or.inr ⟨by decide, "java/lang/IllegalStateException", hX.1.2.2.2.2 _ wm_5_21, hX.2.1.2.2.1.2.2.2.2.2.2.2.2⟩), fun z hz => absurd hz List.not_mem_nil⟩⟩) (by decide) (by decide) (hX.1.2.2.2.2 _ wm_2_160) (va_Nw.use rfl (hX.2.1.2.1.use wn_3_5)) hce hcv hcl ?_
      refine lv_astore (lv' := [(5, .ref q9), (0, .ref (a 0)), (1, .int p0), (2, .int p1), (3, .int p2), (4, .ref o)]) hx hb dL_restOf_24 hl (by decide) rfl (fun ls hl => ?_)
      refine lv_iconst (v := 3) hx hb dL_restOf_26 (by decide) ?_
      rw [← hQ]
      exact end_i hX hB hA3 rfl rfl ⟨3, n, v, rfl, ho, hq, Or.inr ⟨("java/lang/IllegalArgumentException", 3), (List.mem_cons_of_mem _ List.mem_cons_self), hEE, rfl⟩, rfl⟩ (Nat.le_of_ble_eq_true rfl) (Nat.le_of_ble_eq_true rfl) dL_restOf_27
    rcases List.mem_cons.mp hE with rfl | hE
    · refine vx_catch hX.1.2.2.2.1 [⟨0, 13, 16, 19⟩] ⟨0, 13, 20, 97⟩ [⟨0, 13, 24, 21⟩] hT (List.forall_mem_cons.mpr ⟨(Or.inr ⟨by decide, "java/lang/IndexOutOfBoundsException", hX.1.2.2.2.2 _ wm_2_159, hX.2.1.2.2.1.2.2.2.2.2.2.1⟩), fun z hz => absurd hz List.not_mem_nil⟩) (by decide) (by decide) (hX.1.2.2.2.2 _ wm_5_21) (va_Nw.use rfl (hX.2.1.2.1.use wn_5_31)) hce hcv hcl ?_
      refine lv_astore (lv' := [(5, .ref q9), (0, .ref (a 0)), (1, .int p0), (2, .int p1), (3, .int p2), (4, .ref o)]) hx hb dL_restOf_20 hl (by decide) rfl (fun ls hl => ?_)
      refine lv_iconst (v := 2) hx hb dL_restOf_22 (by decide) ?_
      rw [← hQ]
      exact end_i hX hB hA3 rfl rfl ⟨2, n, v, rfl, ho, hq, Or.inr ⟨("java/lang/IllegalStateException", 2), (List.mem_cons_of_mem _ (List.mem_cons_of_mem _ List.mem_cons_self)), hEE, rfl⟩, rfl⟩ (Nat.le_of_ble_eq_true rfl) (Nat.le_of_ble_eq_true rfl) dL_restOf_23
    exact absurd hE List.not_mem_nil
  · obtain ⟨_, ⟨hE0, rfl, ho, hq, rfl⟩, rfl⟩ := hp
    refine W.eq (g2 := F0 m 9 ls [.int Y.2.1, .ref o]) rfl ?_
    refine lv_i2l hx hb dL_restOf_9 rfl ?_
    refine pfN (ty := .long) (k0 := 36) hX hB cw_o rfl in6 tyX6_ok nmX6 0 (by decide) wn_2_149 rfl rfl rfl rfl rfl (Nat.le_of_ble_eq_true rfl) (w1 := cw κ a Y.2.2.1 Y.2.2.2.1 Y.2.2.2.2 ++ [Ot o (Y.2.1.toInt64) v]) cw_oS dL_restOf_10 (fun H locs hB => ?_)
    refine lv_goto (tgt := 28) hx hb dL_restOf_13 (by decide) ?_
    refine lv_iconst (v := 0) hx hb dL_restOf_28 (by decide) ?_
    rw [← hQ]
    exact end_i hX hB hA3 rfl rfl ⟨0, (Y.2.1.toInt64), v, rfl, ho, hq, Or.inl ⟨hE0, rfl, rfl⟩, rfl⟩ (Nat.le_of_ble_eq_true rfl) (Nat.le_of_ble_eq_true rfl) dL_restOf_29
set_option maxHeartbeats 4000000 in
set_option maxRecDepth 100000 in
theorem w_house (κ : Kt) (l : Launch) (hst : l.stackTraces = false) (a : Nat → Nat) (r q : Nat → Int32) (f : Nat → Nat → Int64) (o : Nat) (n : Int64) (v : Value) (p0 : Int32) (hok : okr r) (Y : CRs) (hY : D_X5_house r q f p0 = Y) : CMW κ l yL_house cL_house 4 (Option.some Jvm.ClassFile.FieldType.int) [(0, 10, 13, 21)] 8 132 1 6 [.ref (a 0), .int p0, .ref o] (cw κ a r q f ++ [Ot o n v]) (fun u w' => ∃ (k : Int32) (n' : Int64) (v' : Value), u = some (.int k) ∧ (okr r → okr Y.2.2.1) ∧ Y.2.2.2.1 4 = q 4 ∧ Wc ([("java/lang/IllegalArgumentException", 1)] : List (String × Int32)) Y.1 Y.2.1 k n' ∧ w' = cw κ a Y.2.2.1 Y.2.2.2.1 Y.2.2.2.2 ++ [Ot o n' v']) := by
  refine CMW_begin (by decide) (Nat.le_of_ble_eq_true rfl) ?_
  intro p e s m args below meth c A Q hX hT hA3 hQ hB ls hl
  have hx := hX.1.1
  have hb := hX.1.2.1
  have hl : lv_has ls 4 [(0, .ref (a 0)), (1, .int p0), (2, .ref o)] := hl
  refine lv_aload_n hx hb dL_house_0 rfl (lv_at hl 2 rfl) ?_
  refine lv_aload_n hx hb dL_house_1 rfl (lv_at hl 0 rfl) ?_
  refine lv_iload_n hx hb dL_house_2 rfl (lv_at hl 1 rfl) ?_
  refine CX_after2 hX hB (run_XV (n := 1) (k0 := 0) (As := [.int p0]) (rest := [.ref o]) hX hB (CX_frame [Ot o n v] (k_X5_house κ l hst a r q f p0 _ _ _ _ _ (hY.trans (te5 Y)))) ⟨rfl, by decide, by decide, by decide +kernel⟩ wm_5_128 wm_5_129 wm_5_130 wm_1_1 wm_5_131 ⟨Nat.le_of_ble_eq_true rfl, Nat.le_of_ble_eq_true rfl⟩ ⟨Nat.le_of_ble_eq_true rfl, Nat.le_of_ble_eq_true rfl⟩ (app_at cw0) rfl rfl rfl hl.1 rfl (Nat.le_of_ble_eq_true rfl) dL_house_3) (fun E ce q9 w' H locs hp hB hce hcv hcl => ?_) (fun o9 w' H locs hp hB => ?_)
  · obtain ⟨_, ⟨hEE, hE, ho, hq, rfl⟩, rfl⟩ := hp
    rw [hEE] at hE
    rcases List.mem_cons.mp hE with rfl | hE
    · refine vx_catch hX.1.2.2.2.1 [] ⟨0, 10, 13, 21⟩ [] hT (fun z hz => absurd hz List.not_mem_nil) (by decide) (by decide) (hX.1.2.2.2.2 _ wm_2_160) (va_Nw.use rfl (hX.2.1.2.1.use wn_3_5)) hce hcv hcl ?_
      refine lv_astore_n (lv' := [(3, .ref q9), (0, .ref (a 0)), (1, .int p0), (2, .ref o)]) hx hb dL_house_13 rfl hl (by decide) rfl (fun ls hl => ?_)
      refine lv_iconst (v := 1) hx hb dL_house_14 (by decide) ?_
      rw [← hQ]
      exact end_i hX hB hA3 rfl rfl ⟨1, n, v, rfl, ho, hq, Or.inr ⟨("java/lang/IllegalArgumentException", 1), List.mem_cons_self, hEE, rfl⟩, rfl⟩ (Nat.le_of_ble_eq_true rfl) (Nat.le_of_ble_eq_true rfl) dL_house_15
    exact absurd hE List.not_mem_nil
  · obtain ⟨_, ⟨hE0, rfl, ho, hq, rfl⟩, rfl⟩ := hp
    refine W.eq (g2 := F0 m 6 ls [.int Y.2.1, .ref o]) rfl ?_
    refine lv_i2l hx hb dL_house_6 rfl ?_
    refine pfN (ty := .long) (k0 := 36) hX hB cw_o rfl in6 tyX6_ok nmX6 0 (by decide) wn_2_149 rfl rfl rfl rfl rfl (Nat.le_of_ble_eq_true rfl) (w1 := cw κ a Y.2.2.1 Y.2.2.2.1 Y.2.2.2.2 ++ [Ot o (Y.2.1.toInt64) v]) cw_oS dL_house_7 (fun H locs hB => ?_)
    refine lv_goto (tgt := 16) hx hb dL_house_10 (by decide) ?_
    refine lv_iconst (v := 0) hx hb dL_house_16 (by decide) ?_
    rw [← hQ]
    exact end_i hX hB hA3 rfl rfl ⟨0, (Y.2.1.toInt64), v, rfl, ho, hq, Or.inl ⟨hE0, rfl, rfl⟩, rfl⟩ (Nat.le_of_ble_eq_true rfl) (Nat.le_of_ble_eq_true rfl) dL_house_17
