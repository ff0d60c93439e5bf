noncomputable def D_X4_findLeastRow_5 (r : Nat → Int32) (q : Nat → Int32) (f : Nat → Nat → Int64) (p1 : Int32) (nn : Nat) : Int32 → Int32 → Int32 := @Nat.rec (fun _ => Int32 → Int32 → Int32) (fun _ _ => default) (fun _ lb5 (y4_5 : Int32) (y3_5 : Int32) => (if (r (2 * 6)) ≤ y4_5 then y3_5 else bnd1 (D_X3_get r q f 6 y4_5 p1) (fun (x23 : Int64) => nm ((if 0 < x23 then x23 else -x23) : Int64) (fun (t24 : Int64) => (if (lg_cmp t24 0) = 0 then (lb5 (y4_5 + 1) y3_5) else (if y3_5 < 0 then (lb5 (y4_5 + 1) y4_5) else bnd1 (D_X3_get r q f 6 y3_5 p1) (fun (x28 : Int64) => nm ((if 0 < x28 then x28 else -x28) : Int64) (fun (t29 : Int64) => (if 0 ≤ (lg_cmp t24 t29) then (lb5 (y4_5 + 1) y3_5) else (lb5 (y4_5 + 1) y4_5)))))))))) nn
theorem D_X4_findLeastRow_5_s {r : Nat → Int32} {q : Nat → Int32} {f : Nat → Nat → Int64} {p1 : Int32} {nn : Nat} {y4_5 : Int32} {y3_5 : Int32} : D_X4_findLeastRow_5 r q f p1 (nn + 1) y4_5 y3_5 = (if (r (2 * 6)) ≤ y4_5 then y3_5 else bnd1 (D_X3_get r q f 6 y4_5 p1) (fun (x23 : Int64) => nm ((if 0 < x23 then x23 else -x23) : Int64) (fun (t24 : Int64) => (if (lg_cmp t24 0) = 0 then ((D_X4_findLeastRow_5 r q f p1 nn) (y4_5 + 1) y3_5) else (if y3_5 < 0 then ((D_X4_findLeastRow_5 r q f p1 nn) (y4_5 + 1) y4_5) else bnd1 (D_X3_get r q f 6 y3_5 p1) (fun (x28 : Int64) => nm ((if 0 < x28 then x28 else -x28) : Int64) (fun (t29 : Int64) => (if 0 ≤ (lg_cmp t24 t29) then ((D_X4_findLeastRow_5 r q f p1 nn) (y4_5 + 1) y3_5) else ((D_X4_findLeastRow_5 r q f p1 nn) (y4_5 + 1) y4_5))))))))) := rfl
noncomputable def D_X4_findLeastRow (r : Nat → Int32) (q : Nat → Int32) (f : Nat → Nat → Int64) (p0 : Int32) (p1 : Int32) : Int32 := (D_X4_findLeastRow_5 r q f p1 (gap (r (2 * 6)) p0 + 1) p0 (-1))
theorem D_X4_findLeastRow_s {r : Nat → Int32} {q : Nat → Int32} {f : Nat → Nat → Int64} {p0 : Int32} {p1 : Int32} : D_X4_findLeastRow r q f p0 p1 = (D_X4_findLeastRow_5 r q f p1 (gap (r (2 * 6)) p0 + 1) p0 (-1)) := rfl
set_option maxHeartbeats 4000000 in
set_option maxRecDepth 100000 in
theorem k_X4_findLeastRow (κ : Kt) (l : Launch) (a : Nat → Nat) (r q : Nat → Int32) (f : Nat → Nat → Int64) (p0 : Int32) (p1 : Int32)  (o_x : Int32) (hR : D_X4_findLeastRow r q f p0 p1 = o_x) : CM κ l yX4_findLeastRow cX4_findLeastRow 7 (some .int) 1 22 0 0 [.ref (a 2), .int p0, .int p1] (cw κ a r q f) (fun o w' => o = some (.int o_x) ∧ w' = cw κ a r q f) := by
  refine CM_begin (plainFor_of_name (by decide)) (Nat.le_of_ble_eq_true rfl) ?_
  intro p e s m args below meth c A Q hX hnm hA3 hQ hB ls hl
  have hx := hX.1.1
  have hb := hX.1.2.1
  have hl : lv_has ls 7 [(0, .ref (a 2)), (1, .int p0), (2, .int p1)] := hl
  replace hR := (D_X4_findLeastRow_s).symm.trans hR
  refine lv_iconst (v := (-1)) hx hb dX4_findLeastRow_0 (by decide) ?_
  refine lv_istore_n (lv' := [(3, .int (-1)), (0, .ref (a 2)), (1, .int p0), (2, .int p1)]) hx hb dX4_findLeastRow_1 rfl hl (by decide) rfl (fun ls hl => ?_)
  refine lv_iload_n hx hb dX4_findLeastRow_2 rfl (lv_at hl 2 rfl) ?_
  refine lv_istore (lv' := [(4, .int p0), (3, .int (-1)), (0, .ref (a 2)), (1, .int p0), (2, .int p1)]) hx hb dX4_findLeastRow_3 hl (by decide) rfl (fun ls hl => ?_)
  have lp5 : ∀ (nn5 : Nat) (y4_5 : Int32) (y3_5 : Int32) (H : Heap) (locs : List Loc), gap (r (2 * 6)) y4_5 < nn5 → D_X4_findLeastRow_5 r q f p1 nn5 y4_5 y3_5 = o_x → Bd κ A s (cw κ a r q f) H locs → ∀ ls : Array Slot, lv_has ls 7 [(4, .int y4_5), (3, .int y3_5), (0, .ref (a 2)), (1, .int p0), (2, .int p1)] → W p l e (Rm 1 22 0 0) s m args below meth c H locs 0 0 Q (F0 m 5 ls []) := by
    intro nn5
    induction nn5 with
    | zero => intro y4_5 y3_5 H locs hμ; exact absurd hμ (Nat.not_lt_zero _)
    | succ nn5 ih5 =>
      intro y4_5 y3_5 H locs hμ5 hR hB ls hl
      replace hR := (D_X4_findLeastRow_5_s).symm.trans hR
      refine lv_iload hx hb dX4_findLeastRow_5 (lv_at hl 0 rfl) ?_
      refine lv_aload_n hx hb dX4_findLeastRow_7 rfl (lv_at hl 2 rfl) ?_
      refine gf hX hB cw2 rfl in4 0 (by decide) wm_1_74 rfl rfl dX4_findLeastRow_8 ?_
      refine gfN hX hB (cwG (i := 6) (by decide)) rfl in3 1 (by decide) wn_1_48 rfl rfl dX4_findLeastRow_11 ?_
      refine lv_icmp_ge (tgt := 70) hx hb dX4_findLeastRow_14 (by decide) (fun c21 => ?_) (fun c21 => ?_)
      · replace hR := ifp c21 hR
        refine lv_iload_n hx hb dX4_findLeastRow_70 rfl (lv_at hl 1 rfl) ?_
        rw [← hQ]
        exact end_i hX hB hA3 rfl rfl (by obtain rfl := hR; exact ⟨rfl, rfl⟩) (Nat.le_of_ble_eq_true rfl) (Nat.le_of_ble_eq_true rfl) dX4_findLeastRow_71
      · replace hR := ifn c21 hR
        refine lv_aload_n hx hb dX4_findLeastRow_17 rfl (lv_at hl 2 rfl) ?_
        refine gf hX hB cw2 rfl in4 0 (by decide) wm_1_74 rfl rfl dX4_findLeastRow_18 ?_
        refine lv_iload hx hb dX4_findLeastRow_21 (lv_at hl 0 rfl) ?_
        refine lv_iload_n hx hb dX4_findLeastRow_23 rfl (lv_at hl 4 rfl) ?_
        obtain ⟨x23, hd22⟩ := ex1 (D_X3_get r q f 6 y4_5 p1)
        replace hR := bnd1_use hd22 hR
        refine call_V (n := 2) (As := [.int y4_5, .int p1]) (rest := []) hX hB (k_X3_get κ l a r q f 6 y4_5 p1 (by decide) x23 hd22) ⟨rfl, by decide, by decide, by decide +kernel⟩ wm_1_235 wm_1_187 wm_1_188 wm_1_2 wm_1_189 ⟨Nat.le_of_ble_eq_true rfl, Nat.le_of_ble_eq_true rfl⟩ ⟨Nat.le_of_ble_eq_true rfl, Nat.le_of_ble_eq_true rfl⟩ (cwG (i := 6) (by decide)) rfl rfl rfl hl.1 rfl (Nat.le_of_ble_eq_true rfl) dX4_findLeastRow_24 (fun o w' H locs hp hB => ?_)
        obtain ⟨rfl, rfl⟩ := hp
        refine W.eq (g2 := F0 m 27 ls [.long x23]) rfl ?_
        refine va_mabs_long hx hb (by rw [hX.1.2.2.1]; exact hl.1.symm) hX.1.2.2.2.1 (hX.1.2.2.2.2 _ wm_1_236) (hX.1.2.2.2.2 _ wm_1_237) (hX.1.2.2.2.2 _ wm_1_14) (hX.1.2.2.2.2 _ wm_1_238) (Nat.le_of_ble_eq_true rfl) (Nat.le_of_ble_eq_true rfl) (Nat.le_of_ble_eq_true rfl) (Nat.le_of_ble_eq_true rfl) dX4_findLeastRow_27 ?_
        refine lv_topl (fun t24 et24 => ?_)
        replace hR := nm_use et24 hR
        refine lv_lstore (lv' := [(5, .long t24), (4, .int y4_5), (3, .int y3_5), (0, .ref (a 2)), (1, .int p0), (2, .int p1)]) hx hb dX4_findLeastRow_30 hl (by decide) rfl (fun ls hl => ?_)
        refine lv_lload hx hb dX4_findLeastRow_32 (lv_at hl 0 rfl) ?_
        refine lv_lconst (v := 0) hx hb dX4_findLeastRow_34 (by decide) ?_
        refine W.lcmp hx hb dX4_findLeastRow_35 ?_
        refine lv_if_eq (tgt := 64) hx hb dX4_findLeastRow_36 (by decide) (fun c25 => ?_) (fun c25 => ?_)
        · replace hR := ifp c25 hR
          refine lv_iinc (v := y4_5 + 1) (lv' := [(4, .int (y4_5 + 1)), (5, .long t24), (3, .int y3_5), (0, .ref (a 2)), (1, .int p0), (2, .int p1)]) hx hb dX4_findLeastRow_64 hl (k := 1) rfl rfl (by decide) rfl (fun ls hl => ?_)
          refine lv_goto (tgt := 5) hx hb dX4_findLeastRow_67 (by decide) ?_
          exact ih5 (y4_5 + 1) y3_5 _ _  (gap_step c21 hμ5) hR hB _ (lv_sub hl [0, 2, 3, 4, 5] rfl)
        · replace hR := ifn c25 hR
          refine lv_iload_n hx hb dX4_findLeastRow_39 rfl (lv_at hl 2 rfl) ?_
          refine lv_if_lt (tgt := 61) hx hb dX4_findLeastRow_40 (by decide) (fun c26 => ?_) (fun c26 => ?_)
          · replace hR := ifp c26 hR
            refine lv_iload hx hb dX4_findLeastRow_61 (lv_at hl 1 rfl) ?_
            refine lv_istore_n (lv' := [(3, .int y4_5), (5, .long t24), (4, .int y4_5), (0, .ref (a 2)), (1, .int p0), (2, .int p1)]) hx hb dX4_findLeastRow_63 rfl hl (by decide) rfl (fun ls hl => ?_)
            refine lv_iinc (v := y4_5 + 1) (lv' := [(4, .int (y4_5 + 1)), (3, .int y4_5), (5, .long t24), (0, .ref (a 2)), (1, .int p0), (2, .int p1)]) hx hb dX4_findLeastRow_64 hl (k := 2) rfl rfl (by decide) rfl (fun ls hl => ?_)
            refine lv_goto (tgt := 5) hx hb dX4_findLeastRow_67 (by decide) ?_
            exact ih5 (y4_5 + 1) y4_5 _ _  (gap_step c21 hμ5) hR hB _ (lv_sub hl [0, 1, 3, 4, 5] rfl)
          · replace hR := ifn c26 hR
            refine lv_lload hx hb dX4_findLeastRow_43 (lv_at hl 0 rfl) ?_
            refine lv_aload_n hx hb dX4_findLeastRow_45 rfl (lv_at hl 3 rfl) ?_
            refine gf hX hB cw2 rfl in4 0 (by decide) wm_1_74 rfl rfl dX4_findLeastRow_46 ?_
            refine lv_iload_n hx hb dX4_findLeastRow_49 rfl (lv_at hl 2 rfl) ?_
            refine lv_iload_n hx hb dX4_findLeastRow_50 rfl (lv_at hl 5 rfl) ?_
            obtain ⟨x28, hd27⟩ := ex1 (D_X3_get r q f 6 y3_5 p1)
            replace hR := bnd1_use hd27 hR
            refine call_V (n := 2) (As := [.int y3_5, .int p1]) (rest := [.long t24]) hX hB (k_X3_get κ l a r q f 6 y3_5 p1 (by decide) x28 hd27) ⟨rfl, by decide, by decide, by decide +kernel⟩ wm_1_235 wm_1_187 wm_1_188 wm_1_2 wm_1_189 ⟨Nat.le_of_ble_eq_true rfl, Nat.le_of_ble_eq_true rfl⟩ ⟨Nat.le_of_ble_eq_true rfl, Nat.le_of_ble_eq_true rfl⟩ (cwG (i := 6) (by decide)) rfl rfl rfl hl.1 rfl (Nat.le_of_ble_eq_true rfl) dX4_findLeastRow_51 (fun o w' H locs hp hB => ?_)
            obtain ⟨rfl, rfl⟩ := hp
            refine W.eq (g2 := F0 m 54 ls [.long x28, .long t24]) rfl ?_
            refine va_mabs_long hx hb (by rw [hX.1.2.2.1]; exact hl.1.symm) hX.1.2.2.2.1 (hX.1.2.2.2.2 _ wm_1_236) (hX.1.2.2.2.2 _ wm_1_237) (hX.1.2.2.2.2 _ wm_1_14) (hX.1.2.2.2.2 _ wm_1_238) (Nat.le_of_ble_eq_true rfl) (Nat.le_of_ble_eq_true rfl) (Nat.le_of_ble_eq_true rfl) (Nat.le_of_ble_eq_true rfl) dX4_findLeastRow_54 ?_
            refine lv_topl (fun t29 et29 => ?_)
            replace hR := nm_use et29 hR
            refine W.lcmp hx hb dX4_findLeastRow_57 ?_
            refine lv_if_ge (tgt := 64) hx hb dX4_findLeastRow_58 (by decide) (fun c30 => ?_) (fun c30 => ?_)
            · replace hR := ifp c30 hR
              refine lv_iinc (v := y4_5 + 1) (lv' := [(4, .int (y4_5 + 1)), (5, .long t24), (3, .int y3_5), (0, .ref (a 2)), (1, .int p0), (2, .int p1)]) hx hb dX4_findLeastRow_64 hl (k := 1) rfl rfl (by decide) rfl (fun ls hl => ?_)
              refine lv_goto (tgt := 5) hx hb dX4_findLeastRow_67 (by decide) ?_
              exact ih5 (y4_5 + 1) y3_5 _ _  (gap_step c21 hμ5) hR hB _ (lv_sub hl [0, 2, 3, 4, 5] rfl)
            · replace hR := ifn c30 hR
              refine lv_iload hx hb dX4_findLeastRow_61 (lv_at hl 1 rfl) ?_
              refine lv_istore_n (lv' := [(3, .int y4_5), (5, .long t24), (4, .int y4_5), (0, .ref (a 2)), (1, .int p0), (2, .int p1)]) hx hb dX4_findLeastRow_63 rfl hl (by decide) rfl (fun ls hl => ?_)
              refine lv_iinc (v := y4_5 + 1) (lv' := [(4, .int (y4_5 + 1)), (3, .int y4_5), (5, .long t24), (0, .ref (a 2)), (1, .int p0), (2, .int p1)]) hx hb dX4_findLeastRow_64 hl (k := 2) rfl rfl (by decide) rfl (fun ls hl => ?_)
              refine lv_goto (tgt := 5) hx hb dX4_findLeastRow_67 (by decide) ?_
              exact ih5 (y4_5 + 1) y4_5 _ _  (gap_step c21 hμ5) hR hB _ (lv_sub hl [0, 1, 3, 4, 5] rfl)
  exact lp5 _ p0 (-1) _ _  (Nat.lt_succ_self _) hR hB _ hl
noncomputable def D_X4_bring_j25 (r : Nat → Int32) (q : Nat → Int32) (p1 : Int32) (p2 : Int32) (f_25 : Nat → Nat → Int64) : (Nat → Nat → Int64) := bnd1 (D_X3_get r q f_25 6 p1 p2) (fun (x7 : Int64) => (if 0 ≤ (lg_cmp x7 0) then f_25 else bnd1 (D_X3_turnLine r q f_25 6 0 p1) (fun (f10 : Nat → Nat → Int64) => bnd1 (D_X3_turnLine r q f10 7 0 p1) (fun (f12 : Nat → Nat → Int64) => f12))))
theorem D_X4_bring_j25_s {r : Nat → Int32} {q : Nat → Int32} {p1 : Int32} {p2 : Int32} {f_25 : Nat → Nat → Int64} : D_X4_bring_j25 r q p1 p2 f_25 = bnd1 (D_X3_get r q f_25 6 p1 p2) (fun (x7 : Int64) => (if 0 ≤ (lg_cmp x7 0) then f_25 else bnd1 (D_X3_turnLine r q f_25 6 0 p1) (fun (f10 : Nat → Nat → Int64) => bnd1 (D_X3_turnLine r q f10 7 0 p1) (fun (f12 : Nat → Nat → Int64) => f12)))) := rfl
noncomputable def D_X4_bring (r : Nat → Int32) (q : Nat → Int32) (f : Nat → Nat → Int64) (p0 : Int32) (p1 : Int32) (p2 : Int32) : (Nat → Nat → Int64) := (if p0 = p1 then (D_X4_bring_j25 r q p1 p2 f) else bnd1 (D_X3_exchangeLines r q f 6 0 p0 p1) (fun (f15 : Nat → Nat → Int64) => bnd1 (D_X3_exchangeLines r q f15 7 0 p0 p1) (fun (f17 : Nat → Nat → Int64) => (D_X4_bring_j25 r q p1 p2 f17))))
theorem D_X4_bring_s {r : Nat → Int32} {q : Nat → Int32} {f : Nat → Nat → Int64} {p0 : Int32} {p1 : Int32} {p2 : Int32} : D_X4_bring r q f p0 p1 p2 = (if p0 = p1 then (D_X4_bring_j25 r q p1 p2 f) else bnd1 (D_X3_exchangeLines r q f 6 0 p0 p1) (fun (f15 : Nat → Nat → Int64) => bnd1 (D_X3_exchangeLines r q f15 7 0 p0 p1) (fun (f17 : Nat → Nat → Int64) => (D_X4_bring_j25 r q p1 p2 f17)))) := rfl
set_option maxHeartbeats 4000000 in
set_option maxRecDepth 100000 in
theorem k_X4_bring (κ : Kt) (l : Launch) (a : Nat → Nat) (r q : Nat → Int32) (f : Nat → Nat → Int64) (p0 : Int32) (p1 : Int32) (p2 : Int32)  (o_f : Nat → Nat → Int64) (hR : D_X4_bring r q f p0 p1 p2 = o_f) : CM κ l yX4_bring cX4_bring 4 (none) 2 51 0 0 [.ref (a 2), .int p0, .int p1, .int p2] (cw κ a r q f) (fun o w' => o = none ∧ w' = cw κ a r q o_f) := by
  refine CM_begin (plainFor_of_name (by decide)) (Nat.le_of_ble_eq_true rfl) ?_
  intro p e s m args below meth c A Q hX hnm hA3 hQ hB ls hl
  have hx := hX.1.1
  have hb := hX.1.2.1
  have hl : lv_has ls 4 [(0, .ref (a 2)), (1, .int p0), (2, .int p1), (3, .int p2)] := hl
  replace hR := (D_X4_bring_s).symm.trans hR
  refine lv_iload_n hx hb dX4_bring_0 rfl (lv_at hl 1 rfl) ?_
  refine lv_iload_n hx hb dX4_bring_1 rfl (lv_at hl 2 rfl) ?_
  have jn25 : ∀ (f_25 : Nat → Nat → Int64) (H : Heap) (locs : List Loc), D_X4_bring_j25 r q p1 p2 f_25 = o_f → Bd κ A s (cw κ a r q f_25) H locs → ∀ ls : Array Slot, lv_has ls 4 [(0, .ref (a 2)), (1, .int p0), (2, .int p1), (3, .int p2)] → W p l e (Rm 2 51 0 0) s m args below meth c H locs 0 0 Q (F0 m 25 ls []) := by
    intro f_25 H locs hR hB ls hl
    replace hR := (D_X4_bring_j25_s).symm.trans hR
    refine lv_aload_n hx hb dX4_bring_25 rfl (lv_at hl 0 rfl) ?_
    refine gf hX hB cw2 rfl in4 0 (by decide) wm_1_74 rfl rfl dX4_bring_26 ?_
    refine lv_iload_n hx hb dX4_bring_29 rfl (lv_at hl 2 rfl) ?_
    refine lv_iload_n hx hb dX4_bring_30 rfl (lv_at hl 3 rfl) ?_
    obtain ⟨x7, hd6⟩ := ex1 (D_X3_get r q f_25 6 p1 p2)
    replace hR := bnd1_use hd6 hR
    refine call_V (n := 2) (As := [.int p1, .int p2]) (rest := []) hX hB (k_X3_get κ l a r q f_25 6 p1 p2 (by decide) x7 hd6) ⟨rfl, by decide, by decide, by decide +kernel⟩ wm_1_235 wm_1_187 wm_1_188 wm_1_2 wm_1_189 ⟨Nat.le_of_ble_eq_true rfl, Nat.le_of_ble_eq_true rfl⟩ ⟨Nat.le_of_ble_eq_true rfl, Nat.le_of_ble_eq_true rfl⟩ (cwG (i := 6) (by decide)) rfl rfl rfl hl.1 rfl (Nat.le_of_ble_eq_true rfl) dX4_bring_31 (fun o w' H locs hp hB => ?_)
    obtain ⟨rfl, rfl⟩ := hp
    refine W.eq (g2 := F0 m 34 ls [.long x7]) rfl ?_
    refine lv_lconst (v := 0) hx hb dX4_bring_34 (by decide) ?_
    refine W.lcmp hx hb dX4_bring_35 ?_
    refine lv_if_ge (tgt := 57) hx hb dX4_bring_36 (by decide) (fun c8 => ?_) (fun c8 => ?_)
    · replace hR := ifp c8 hR
      rw [← hQ]
      exact end_v hX hB hA3 rfl (by obtain rfl := hR; exact ⟨rfl, rfl⟩) (Nat.le_of_ble_eq_true rfl) (Nat.le_of_ble_eq_true rfl) dX4_bring_57
    · replace hR := ifn c8 hR
      refine lv_aload_n hx hb dX4_bring_39 rfl (lv_at hl 0 rfl) ?_
      refine gf hX hB cw2 rfl in4 0 (by decide) wm_1_74 rfl rfl dX4_bring_40 ?_
      refine lv_iconst (v := 0) hx hb dX4_bring_43 (by decide) ?_
      refine lv_iload_n hx hb dX4_bring_44 rfl (lv_at hl 2 rfl) ?_
      obtain ⟨f10, hd9⟩ := ex1 (D_X3_turnLine r q f_25 6 0 p1)
      replace hR := bnd1_use hd9 hR
      refine call_V (n := 2) (As := [.int 0, .int p1]) (rest := []) hX hB (k_X3_turnLine κ l a r q f_25 6 0 p1 (by decide) f10 hd9) ⟨rfl, by decide, by decide, by decide +kernel⟩ wm_2_8 wm_2_9 wm_2_10 wm_1_2 wm_2_11 ⟨Nat.le_of_ble_eq_true rfl, Nat.le_of_ble_eq_true rfl⟩ ⟨Nat.le_of_ble_eq_true rfl, Nat.le_of_ble_eq_true rfl⟩ (cwG (i := 6) (by decide)) rfl rfl rfl hl.1 rfl (Nat.le_of_ble_eq_true rfl) dX4_bring_45 (fun o w' H locs hp hB => ?_)
      obtain ⟨rfl, rfl⟩ := hp
      refine W.eq (g2 := F0 m 48 ls []) rfl ?_
      refine lv_aload_n hx hb dX4_bring_48 rfl (lv_at hl 0 rfl) ?_
      refine gf hX hB cw2 rfl in4 1 (by decide) wm_1_76 rfl rfl dX4_bring_49 ?_
      refine lv_iconst (v := 0) hx hb dX4_bring_52 (by decide) ?_
      refine lv_iload_n hx hb dX4_bring_53 rfl (lv_at hl 2 rfl) ?_
      obtain ⟨f12, hd11⟩ := ex1 (D_X3_turnLine r q f10 7 0 p1)
      replace hR := bnd1_use hd11 hR
      refine call_V (n := 2) (As := [.int 0, .int p1]) (rest := []) hX hB (k_X3_turnLine κ l a r q f10 7 0 p1 (by decide) f12 hd11) ⟨rfl, by decide, by decide, by decide +kernel⟩ wm_2_8 wm_2_9 wm_2_10 wm_1_2 wm_2_11 ⟨Nat.le_of_ble_eq_true rfl, Nat.le_of_ble_eq_true rfl⟩ ⟨Nat.le_of_ble_eq_true rfl, Nat.le_of_ble_eq_true rfl⟩ (cwG (i := 7) (by decide)) rfl rfl rfl hl.1 rfl (Nat.le_of_ble_eq_true rfl) dX4_bring_54 (fun o w' H locs hp hB => ?_)
      obtain ⟨rfl, rfl⟩ := hp
      refine W.eq (g2 := F0 m 57 ls []) rfl ?_
      rw [← hQ]
      exact end_v hX hB hA3 rfl (by obtain rfl := hR; exact ⟨rfl, rfl⟩) (Nat.le_of_ble_eq_true rfl) (Nat.le_of_ble_eq_true rfl) dX4_bring_57
  refine lv_icmp_eq (tgt := 25) hx hb dX4_bring_2 (by decide) (fun c13 => ?_) (fun c13 => ?_)
  · replace hR := ifp c13 hR
    exact jn25 f _ _  hR hB _ hl
  · replace hR := ifn c13 hR
    refine lv_aload_n hx hb dX4_bring_5 rfl (lv_at hl 0 rfl) ?_
    refine gf hX hB cw2 rfl in4 0 (by decide) wm_1_74 rfl rfl dX4_bring_6 ?_
    refine lv_iconst (v := 0) hx hb dX4_bring_9 (by decide) ?_
    refine lv_iload_n hx hb dX4_bring_10 rfl (lv_at hl 1 rfl) ?_
    refine lv_iload_n hx hb dX4_bring_11 rfl (lv_at hl 2 rfl) ?_
    obtain ⟨f15, hd14⟩ := ex1 (D_X3_exchangeLines r q f 6 0 p0 p1)
    replace hR := bnd1_use hd14 hR
    refine call_V (n := 3) (As := [.int 0, .int p0, .int p1]) (rest := []) hX hB (k_X3_exchangeLines κ l a r q f 6 0 p0 p1 (by decide) f15 hd14) ⟨rfl, by decide, by decide, by decide +kernel⟩ wm_2_3 wm_2_4 wm_2_5 wm_1_2 wm_2_6 ⟨Nat.le_of_ble_eq_true rfl, Nat.le_of_ble_eq_true rfl⟩ ⟨Nat.le_of_ble_eq_true rfl, Nat.le_of_ble_eq_true rfl⟩ (cwG (i := 6) (by decide)) rfl rfl rfl hl.1 rfl (Nat.le_of_ble_eq_true rfl) dX4_bring_12 (fun o w' H locs hp hB => ?_)
    obtain ⟨rfl, rfl⟩ := hp
    refine W.eq (g2 := F0 m 15 ls []) rfl ?_
    refine lv_aload_n hx hb dX4_bring_15 rfl (lv_at hl 0 rfl) ?_
    refine gf hX hB cw2 rfl in4 1 (by decide) wm_1_76 rfl rfl dX4_bring_16 ?_
    refine lv_iconst (v := 0) hx hb dX4_bring_19 (by decide) ?_
    refine lv_iload_n hx hb dX4_bring_20 rfl (lv_at hl 1 rfl) ?_
    refine lv_iload_n hx hb dX4_bring_21 rfl (lv_at hl 2 rfl) ?_
    obtain ⟨f17, hd16⟩ := ex1 (D_X3_exchangeLines r q f15 7 0 p0 p1)
    replace hR := bnd1_use hd16 hR
    refine call_V (n := 3) (As := [.int 0, .int p0, .int p1]) (rest := []) hX hB (k_X3_exchangeLines κ l a r q f15 7 0 p0 p1 (by decide) f17 hd16) ⟨rfl, by decide, by decide, by decide +kernel⟩ wm_2_3 wm_2_4 wm_2_5 wm_1_2 wm_2_6 ⟨Nat.le_of_ble_eq_true rfl, Nat.le_of_ble_eq_true rfl⟩ ⟨Nat.le_of_ble_eq_true rfl, Nat.le_of_ble_eq_true rfl⟩ (cwG (i := 7) (by decide)) rfl rfl rfl hl.1 rfl (Nat.le_of_ble_eq_true rfl) dX4_bring_22 (fun o w' H locs hp hB => ?_)
    obtain ⟨rfl, rfl⟩ := hp
    refine W.eq (g2 := F0 m 25 ls []) rfl ?_
    exact jn25 f17 _ _  hR hB _ hl
noncomputable def D_X4_takeOff (r : Nat → Int32) (q : Nat → Int32) (f : Nat → Nat → Int64) (p0 : Int32) (p1 : Int32) (p2 : Int32) : (Nat → Int32) × (Nat → Nat → Int64) := bnd1 (D_X3_get r q f 6 p0 p2) (fun (x2 : Int64) => bnd1 (D_X3_get r q f 6 p1 p2) (fun (x4 : Int64) => bnd1 (D_X5_divideDown x2 x4) (fun (x5 : Int64) => bnd1 (D_X3_addLine r q f 6 0 p0 p1 (-x5)) (fun (f8 : Nat → Nat → Int64) => bnd1 (D_X3_addLine r q f8 7 0 p0 p1 (-x5)) (fun (f10 : Nat → Nat → Int64) => bnd1 (D_X3_isWithin r q f10 6 1000000000) (fun (x12 : Int32) => (if x12 = 0 then (va_up q 0 1, f10) else bnd1 (D_X3_isWithin r q f10 7 1000000000) (fun (x15 : Int32) => (if x15 = 0 then (va_up q 0 1, f10) else (va_up q 0 0, f10))))))))))
theorem D_X4_takeOff_s {r : Nat → Int32} {q : Nat → Int32} {f : Nat → Nat → Int64} {p0 : Int32} {p1 : Int32} {p2 : Int32} : D_X4_takeOff r q f p0 p1 p2 = bnd1 (D_X3_get r q f 6 p0 p2) (fun (x2 : Int64) => bnd1 (D_X3_get r q f 6 p1 p2) (fun (x4 : Int64) => bnd1 (D_X5_divideDown x2 x4) (fun (x5 : Int64) => bnd1 (D_X3_addLine r q f 6 0 p0 p1 (-x5)) (fun (f8 : Nat → Nat → Int64) => bnd1 (D_X3_addLine r q f8 7 0 p0 p1 (-x5)) (fun (f10 : Nat → Nat → Int64) => bnd1 (D_X3_isWithin r q f10 6 1000000000) (fun (x12 : Int32) => (if x12 = 0 then (va_up q 0 1, f10) else bnd1 (D_X3_isWithin r q f10 7 1000000000) (fun (x15 : Int32) => (if x15 = 0 then (va_up q 0 1, f10) else (va_up q 0 0, f10)))))))))) := rfl
set_option maxHeartbeats 4000000 in
set_option maxRecDepth 100000 in
theorem k_X4_takeOff (κ : Kt) (l : Launch) (a : Nat → Nat) (r q : Nat → Int32) (f : Nat → Nat → Int64) (p0 : Int32) (p1 : Int32) (p2 : Int32)  (o_q : Nat → Int32) (o_f : Nat → Nat → Int64) (hR : D_X4_takeOff r q f p0 p1 p2 = (o_q, o_f)) : CM κ l yX4_takeOff cX4_takeOff 6 (none) 2 51 0 0 [.ref (a 2), .int p0, .int p1, .int p2] (cw κ a r q f) (fun o w' => o = none ∧ o_q 4 = q 4 ∧ w' = cw κ a r o_q o_f) := by
  refine CM_begin (plainFor_of_name (by decide)) (Nat.le_of_ble_eq_true rfl) ?_
  intro p e s m args below meth c A Q hX hnm hA3 hQ hB ls hl
  have hx := hX.1.1
  have hb := hX.1.2.1
  have hl : lv_has ls 6 [(0, .ref (a 2)), (1, .int p0), (2, .int p1), (3, .int p2)] := hl
  replace hR := (D_X4_takeOff_s).symm.trans hR
  refine lv_aload_n hx hb dX4_takeOff_0 rfl (lv_at hl 0 rfl) ?_
  refine gf hX hB cw2 rfl in4 0 (by decide) wm_1_74 rfl rfl dX4_takeOff_1 ?_
  refine lv_iload_n hx hb dX4_takeOff_4 rfl (lv_at hl 1 rfl) ?_
  refine lv_iload_n hx hb dX4_takeOff_5 rfl (lv_at hl 3 rfl) ?_
  obtain ⟨x2, hd1⟩ := ex1 (D_X3_get r q f 6 p0 p2)
  replace hR := bnd1_use hd1 hR
  refine call_V (n := 2) (As := [.int p0, .int p2]) (rest := []) hX hB (k_X3_get κ l a r q f 6 p0 p2 (by decide) x2 hd1) ⟨rfl, by decide, by decide, by decide +kernel⟩ wm_1_235 wm_1_187 wm_1_188 wm_1_2 wm_1_189 ⟨Nat.le_of_ble_eq_true rfl, Nat.le_of_ble_eq_true rfl⟩ ⟨Nat.le_of_ble_eq_true rfl, Nat.le_of_ble_eq_true rfl⟩ (cwG (i := 6) (by decide)) rfl rfl rfl hl.1 rfl (Nat.le_of_ble_eq_true rfl) dX4_takeOff_6 (fun o w' H locs hp hB => ?_)
  obtain ⟨rfl, rfl⟩ := hp
  refine W.eq (g2 := F0 m 9 ls [.long x2]) rfl ?_
  refine lv_aload_n hx hb dX4_takeOff_9 rfl (lv_at hl 0 rfl) ?_
  refine gf hX hB cw2 rfl in4 0 (by decide) wm_1_74 rfl rfl dX4_takeOff_10 ?_
  refine lv_iload_n hx hb dX4_takeOff_13 rfl (lv_at hl 2 rfl) ?_
  refine lv_iload_n hx hb dX4_takeOff_14 rfl (lv_at hl 3 rfl) ?_
  obtain ⟨x4, hd3⟩ := ex1 (D_X3_get r q f 6 p1 p2)
  replace hR := bnd1_use hd3 hR
  refine call_V (n := 2) (As := [.int p1, .int p2]) (rest := [.long x2]) hX hB (k_X3_get κ l a r q f 6 p1 p2 (by decide) x4 hd3) ⟨rfl, by decide, by decide, by decide +kernel⟩ wm_1_235 wm_1_187 wm_1_188 wm_1_2 wm_1_189 ⟨Nat.le_of_ble_eq_true rfl, Nat.le_of_ble_eq_true rfl⟩ ⟨Nat.le_of_ble_eq_true rfl, Nat.le_of_ble_eq_true rfl⟩ (cwG (i := 6) (by decide)) rfl rfl rfl hl.1 rfl (Nat.le_of_ble_eq_true rfl) dX4_takeOff_15 (fun o w' H locs hp hB => ?_)
  obtain ⟨rfl, rfl⟩ := hp
  refine W.eq (g2 := F0 m 18 ls [.long x4, .long x2]) rfl ?_
  obtain ⟨x5, hd6⟩ := ex1 (D_X5_divideDown x2 x4)
  replace hR := bnd1_use hd6 hR
  refine call_SN (n := 2) (As := [.long x2, .long x4]) (rest := []) hX hB (k_X5_divideDown κ l (cw κ a r q f) x2 x4  x5 hd6) ⟨by decide, by decide, by decide +kernel⟩ wn_2_16 wm_2_17 wm_1_1 wm_2_18 ⟨Nat.le_of_ble_eq_true rfl, Nat.le_of_ble_eq_true rfl⟩ ⟨Nat.le_of_ble_eq_true rfl, Nat.le_of_ble_eq_true rfl⟩ rfl hl.1 rfl (Nat.le_of_ble_eq_true rfl) dX4_takeOff_18 (fun o w' H locs hp hB => ?_)
  obtain ⟨rfl, hw9⟩ := hp
  rw [hw9] at hB
  refine W.eq (g2 := F0 m 21 ls [.long x5]) rfl ?_
  refine lv_lstore (lv' := [(4, .long x5), (0, .ref (a 2)), (1, .int p0), (2, .int p1), (3, .int p2)]) hx hb dX4_takeOff_21 hl (by decide) rfl (fun ls hl => ?_)
  refine lv_aload_n hx hb dX4_takeOff_23 rfl (lv_at hl 1 rfl) ?_
  refine gf hX hB cw2 rfl in4 0 (by decide) wm_1_74 rfl rfl dX4_takeOff_24 ?_
  refine lv_iconst (v := 0) hx hb dX4_takeOff_27 (by decide) ?_
  refine lv_iload_n hx hb dX4_takeOff_28 rfl (lv_at hl 2 rfl) ?_
  refine lv_iload_n hx hb dX4_takeOff_29 rfl (lv_at hl 3 rfl) ?_
  refine lv_lload hx hb dX4_takeOff_30 (lv_at hl 0 rfl) ?_
  refine lv_lneg hx hb dX4_takeOff_32 ?_
  obtain ⟨f8, hd7⟩ := ex1 (D_X3_addLine r q f 6 0 p0 p1 (-x5))
  replace hR := bnd1_use hd7 hR
  refine call_V (n := 4) (As := [.int 0, .int p0, .int p1, .long (-x5)]) (rest := []) hX hB (k_X3_addLine κ l a r q f 6 0 p0 p1 (-x5) (by decide) f8 hd7) ⟨rfl, by decide, by decide, by decide +kernel⟩ wm_2_22 wm_2_23 wm_2_24 wm_1_2 wm_2_25 ⟨Nat.le_of_ble_eq_true rfl, Nat.le_of_ble_eq_true rfl⟩ ⟨Nat.le_of_ble_eq_true rfl, Nat.le_of_ble_eq_true rfl⟩ (cwG (i := 6) (by decide)) rfl rfl rfl hl.1 rfl (Nat.le_of_ble_eq_true rfl) dX4_takeOff_33 (fun o w' H locs hp hB => ?_)
  obtain ⟨rfl, rfl⟩ := hp
  refine W.eq (g2 := F0 m 36 ls []) rfl ?_
  refine lv_aload_n hx hb dX4_takeOff_36 rfl (lv_at hl 1 rfl) ?_
  refine gf hX hB cw2 rfl in4 1 (by decide) wm_1_76 rfl rfl dX4_takeOff_37 ?_
  refine lv_iconst (v := 0) hx hb dX4_takeOff_40 (by decide) ?_
  refine lv_iload_n hx hb dX4_takeOff_41 rfl (lv_at hl 2 rfl) ?_
  refine lv_iload_n hx hb dX4_takeOff_42 rfl (lv_at hl 3 rfl) ?_
  refine lv_lload hx hb dX4_takeOff_43 (lv_at hl 0 rfl) ?_
  refine lv_lneg hx hb dX4_takeOff_45 ?_
  obtain ⟨f10, hd9⟩ := ex1 (D_X3_addLine r q f8 7 0 p0 p1 (-x5))
  replace hR := bnd1_use hd9 hR
  refine call_V (n := 4) (As := [.int 0, .int p0, .int p1, .long (-x5)]) (rest := []) hX hB (k_X3_addLine κ l a r q f8 7 0 p0 p1 (-x5) (by decide) f10 hd9) ⟨rfl, by decide, by decide, by decide +kernel⟩ wm_2_22 wm_2_23 wm_2_24 wm_1_2 wm_2_25 ⟨Nat.le_of_ble_eq_true rfl, Nat.le_of_ble_eq_true rfl⟩ ⟨Nat.le_of_ble_eq_true rfl, Nat.le_of_ble_eq_true rfl⟩ (cwG (i := 7) (by decide)) rfl rfl rfl hl.1 rfl (Nat.le_of_ble_eq_true rfl) dX4_takeOff_46 (fun o w' H locs hp hB => ?_)
  obtain ⟨rfl, rfl⟩ := hp
  refine W.eq (g2 := F0 m 49 ls []) rfl ?_
  refine lv_aload_n hx hb dX4_takeOff_49 rfl (lv_at hl 1 rfl) ?_
  refine lv_aload_n hx hb dX4_takeOff_50 rfl (lv_at hl 1 rfl) ?_
  refine gf hX hB cw2 rfl in4 0 (by decide) wm_1_74 rfl rfl dX4_takeOff_51 ?_
  refine lv_ldc2 (own := RX4) (v := 1000000000) hx hb hX.1.2.2.2.1 (hX.1.2.2.2.2 _ wm_2_26) dX4_takeOff_54 ?_
  obtain ⟨x12, hd11⟩ := ex1 (D_X3_isWithin r q f10 6 1000000000)
  replace hR := bnd1_use hd11 hR
  refine call_V (n := 1) (As := [.long 1000000000]) (rest := [.ref (a 2)]) hX hB (k_X3_isWithin κ l a r q f10 6 1000000000 (by decide) x12 hd11) ⟨rfl, by decide, by decide, by decide +kernel⟩ wm_2_27 wm_2_28 wm_2_29 wm_1_2 wm_2_30 ⟨Nat.le_of_ble_eq_true rfl, Nat.le_of_ble_eq_true rfl⟩ ⟨Nat.le_of_ble_eq_true rfl, Nat.le_of_ble_eq_true rfl⟩ (cwG (i := 6) (by decide)) rfl rfl rfl hl.1 rfl (Nat.le_of_ble_eq_true rfl) dX4_takeOff_57 (fun o w' H locs hp hB => ?_)
  obtain ⟨rfl, bx12, rfl⟩ := hp
  refine W.eq (g2 := F0 m 60 ls [.int x12, .ref (a 2)]) rfl ?_
  refine lv_if_eq (tgt := 76) hx hb dX4_takeOff_60 (by decide) (fun c13 => ?_) (fun c13 => ?_)
  · replace hR := ifp c13 hR
    refine lv_iconst (v := 1) hx hb dX4_takeOff_76 (by decide) ?_
    refine lv_goto (tgt := 81) hx hb dX4_takeOff_77 (by decide) ?_
    refine pf (ty := .boolean) hX hB cw2 rfl in4 tyX4_ok nmX4 2 (by decide) wm_1_78 rfl rfl rfl rfl rfl (Nat.le_of_ble_eq_true rfl) (cwSQ0 _) dX4_takeOff_81 (fun H locs hB => ?_)
    rw [← hQ]
    exact end_v hX hB hA3 rfl (by obtain ⟨rfl, rfl⟩ := pr2 hR; exact ⟨rfl, rfl, rfl⟩) (Nat.le_of_ble_eq_true rfl) (Nat.le_of_ble_eq_true rfl) dX4_takeOff_84
  · replace hR := ifn c13 hR
    refine lv_aload_n hx hb dX4_takeOff_63 rfl (lv_at hl 1 rfl) ?_
    refine gf hX hB cw2 rfl in4 1 (by decide) wm_1_76 rfl rfl dX4_takeOff_64 ?_
    refine lv_ldc2 (own := RX4) (v := 1000000000) hx hb hX.1.2.2.2.1 (hX.1.2.2.2.2 _ wm_2_26) dX4_takeOff_67 ?_
    obtain ⟨x15, hd14⟩ := ex1 (D_X3_isWithin r q f10 7 1000000000)
    replace hR := bnd1_use hd14 hR
    refine call_V (n := 1) (As := [.long 1000000000]) (rest := [.ref (a 2)]) hX hB (k_X3_isWithin κ l a r q f10 7 1000000000 (by decide) x15 hd14) ⟨rfl, by decide, by decide, by decide +kernel⟩ wm_2_27 wm_2_28 wm_2_29 wm_1_2 wm_2_30 ⟨Nat.le_of_ble_eq_true rfl, Nat.le_of_ble_eq_true rfl⟩ ⟨Nat.le_of_ble_eq_true rfl, Nat.le_of_ble_eq_true rfl⟩ (cwG (i := 7) (by decide)) rfl rfl rfl hl.1 rfl (Nat.le_of_ble_eq_true rfl) dX4_takeOff_70 (fun o w' H locs hp hB => ?_)
    obtain ⟨rfl, bx15, rfl⟩ := hp
    refine W.eq (g2 := F0 m 73 ls [.int x15, .ref (a 2)]) rfl ?_
    refine lv_if_ne (tgt := 80) hx hb dX4_takeOff_73 (by decide) (fun c16 => ?_) (fun c16 => ?_)
    · replace hR := ifn c16 hR
      refine lv_iconst (v := 0) hx hb dX4_takeOff_80 (by decide) ?_
      refine pf (ty := .boolean) hX hB cw2 rfl in4 tyX4_ok nmX4 2 (by decide) wm_1_78 rfl rfl rfl rfl rfl (Nat.le_of_ble_eq_true rfl) (cwSQ0 _) dX4_takeOff_81 (fun H locs hB => ?_)
      rw [← hQ]
      exact end_v hX hB hA3 rfl (by obtain ⟨rfl, rfl⟩ := pr2 hR; exact ⟨rfl, rfl, rfl⟩) (Nat.le_of_ble_eq_true rfl) (Nat.le_of_ble_eq_true rfl) dX4_takeOff_84
    · replace hR := ifp c16 hR
      refine lv_iconst (v := 1) hx hb dX4_takeOff_76 (by decide) ?_
      refine lv_goto (tgt := 81) hx hb dX4_takeOff_77 (by decide) ?_
      refine pf (ty := .boolean) hX hB cw2 rfl in4 tyX4_ok nmX4 2 (by decide) wm_1_78 rfl rfl rfl rfl rfl (Nat.le_of_ble_eq_true rfl) (cwSQ0 _) dX4_takeOff_81 (fun H locs hB => ?_)
      rw [← hQ]
      exact end_v hX hB hA3 rfl (by obtain ⟨rfl, rfl⟩ := pr2 hR; exact ⟨rfl, rfl, rfl⟩) (Nat.le_of_ble_eq_true rfl) (Nat.le_of_ble_eq_true rfl) dX4_takeOff_84
noncomputable def D_X4_isClearBelow_4 (r : Nat → Int32) (q : Nat → Int32) (f : Nat → Nat → Int64) (p1 : Int32) (nn : Nat) : Int32 → Int32 := @Nat.rec (fun _ => Int32 → Int32) (fun _ => default) (fun _ lb4 (y3_4 : Int32) => (if (r (2 * 6)) ≤ y3_4 then 1 else bnd1 (D_X3_get r q f 6 y3_4 p1) (fun (x11 : Int64) => (if (lg_cmp x11 0) = 0 then (lb4 (y3_4 + 1)) else 0)))) nn
theorem D_X4_isClearBelow_4_s {r : Nat → Int32} {q : Nat → Int32} {f : Nat → Nat → Int64} {p1 : Int32} {nn : Nat} {y3_4 : Int32} : D_X4_isClearBelow_4 r q f p1 (nn + 1) y3_4 = (if (r (2 * 6)) ≤ y3_4 then 1 else bnd1 (D_X3_get r q f 6 y3_4 p1) (fun (x11 : Int64) => (if (lg_cmp x11 0) = 0 then ((D_X4_isClearBelow_4 r q f p1 nn) (y3_4 + 1)) else 0))) := rfl
noncomputable def D_X4_isClearBelow (r : Nat → Int32) (q : Nat → Int32) (f : Nat → Nat → Int64) (p0 : Int32) (p1 : Int32) : Int32 := (D_X4_isClearBelow_4 r q f p1 (gap (r (2 * 6)) (p0 + 1) + 1) (p0 + 1))
theorem D_X4_isClearBelow_s {r : Nat → Int32} {q : Nat → Int32} {f : Nat → Nat → Int64} {p0 : Int32} {p1 : Int32} : D_X4_isClearBelow r q f p0 p1 = (D_X4_isClearBelow_4 r q f p1 (gap (r (2 * 6)) (p0 + 1) + 1) (p0 + 1)) := rfl
set_option maxHeartbeats 4000000 in
set_option maxRecDepth 100000 in
theorem k_X4_isClearBelow (κ : Kt) (l : Launch) (a : Nat → Nat) (r q : Nat → Int32) (f : Nat → Nat → Int64) (p0 : Int32) (p1 : Int32)  (o_x : Int32) (hR : D_X4_isClearBelow r q f p0 p1 = o_x) : CM κ l yX4_isClearBelow cX4_isClearBelow 4 (some .boolean) 1 22 0 0 [.ref (a 2), .int p0, .int p1] (cw κ a r q f) (fun o w' => o = some (.int o_x) ∧ (o_x = 0 ∨ o_x = 1) ∧ w' = cw κ a r q f) := by
  refine CM_begin (plainFor_of_name (by decide)) (Nat.le_of_ble_eq_true rfl) ?_
  intro p e s m args below meth c A Q hX hnm hA3 hQ hB ls hl
  have hx := hX.1.1
  have hb := hX.1.2.1
  have hl : lv_has ls 4 [(0, .ref (a 2)), (1, .int p0), (2, .int p1)] := hl
  replace hR := (D_X4_isClearBelow_s).symm.trans hR
  refine lv_iload_n hx hb dX4_isClearBelow_0 rfl (lv_at hl 1 rfl) ?_
  refine lv_iconst (v := 1) hx hb dX4_isClearBelow_1 (by decide) ?_
  refine lv_iadd hx hb dX4_isClearBelow_2 ?_
  refine lv_istore_n (lv' := [(3, .int (p0 + 1)), (0, .ref (a 2)), (1, .int p0), (2, .int p1)]) hx hb dX4_isClearBelow_3 rfl hl (by decide) rfl (fun ls hl => ?_)
  have lp4 : ∀ (nn4 : Nat) (y3_4 : Int32) (H : Heap) (locs : List Loc), gap (r (2 * 6)) y3_4 < nn4 → D_X4_isClearBelow_4 r q f p1 nn4 y3_4 = o_x → Bd κ A s (cw κ a r q f) H locs → ∀ ls : Array Slot, lv_has ls 4 [(3, .int y3_4), (0, .ref (a 2)), (1, .int p0), (2, .int p1)] → W p l e (Rm 1 22 0 0) s m args below meth c H locs 0 0 Q (F0 m 4 ls []) := by
    intro nn4
    induction nn4 with
    | zero => intro y3_4 H locs hμ; exact absurd hμ (Nat.not_lt_zero _)
    | succ nn4 ih4 =>
      intro y3_4 H locs hμ4 hR hB ls hl
      replace hR := (D_X4_isClearBelow_4_s).symm.trans hR
      refine lv_iload_n hx hb dX4_isClearBelow_4 rfl (lv_at hl 0 rfl) ?_
      refine lv_aload_n hx hb dX4_isClearBelow_5 rfl (lv_at hl 1 rfl) ?_
      refine gf hX hB cw2 rfl in4 0 (by decide) wm_1_74 rfl rfl dX4_isClearBelow_6 ?_
      refine gfN hX hB (cwG (i := 6) (by decide)) rfl in3 1 (by decide) wn_1_48 rfl rfl dX4_isClearBelow_9 ?_
      refine lv_icmp_ge (tgt := 37) hx hb dX4_isClearBelow_12 (by decide) (fun c9 => ?_) (fun c9 => ?_)
      · replace hR := ifp c9 hR
        refine lv_iconst (v := 1) hx hb dX4_isClearBelow_37 (by decide) ?_
        rw [← hQ]
        exact end_i hX hB hA3 rfl rfl (by obtain rfl := hR; exact ⟨rfl, Or.inr rfl, rfl⟩) (Nat.le_of_ble_eq_true rfl) (Nat.le_of_ble_eq_true rfl) dX4_isClearBelow_38
      · replace hR := ifn c9 hR
        refine lv_aload_n hx hb dX4_isClearBelow_15 rfl (lv_at hl 1 rfl) ?_
        refine gf hX hB cw2 rfl in4 0 (by decide) wm_1_74 rfl rfl dX4_isClearBelow_16 ?_
        refine lv_iload_n hx hb dX4_isClearBelow_19 rfl (lv_at hl 0 rfl) ?_
        refine lv_iload_n hx hb dX4_isClearBelow_20 rfl (lv_at hl 3 rfl) ?_
        obtain ⟨x11, hd10⟩ := ex1 (D_X3_get r q f 6 y3_4 p1)
        replace hR := bnd1_use hd10 hR
        refine call_V (n := 2) (As := [.int y3_4, .int p1]) (rest := []) hX hB (k_X3_get κ l a r q f 6 y3_4 p1 (by decide) x11 hd10) ⟨rfl, by decide, by decide, by decide +kernel⟩ wm_1_235 wm_1_187 wm_1_188 wm_1_2 wm_1_189 ⟨Nat.le_of_ble_eq_true rfl, Nat.le_of_ble_eq_true rfl⟩ ⟨Nat.le_of_ble_eq_true rfl, Nat.le_of_ble_eq_true rfl⟩ (cwG (i := 6) (by decide)) rfl rfl rfl hl.1 rfl (Nat.le_of_ble_eq_true rfl) dX4_isClearBelow_21 (fun o w' H locs hp hB => ?_)
        obtain ⟨rfl, rfl⟩ := hp
        refine W.eq (g2 := F0 m 24 ls [.long x11]) rfl ?_
        refine lv_lconst (v := 0) hx hb dX4_isClearBelow_24 (by decide) ?_
        refine W.lcmp hx hb dX4_isClearBelow_25 ?_
        refine lv_if_eq (tgt := 31) hx hb dX4_isClearBelow_26 (by decide) (fun c12 => ?_) (fun c12 => ?_)
        · replace hR := ifp c12 hR
          refine lv_iinc (v := y3_4 + 1) (lv' := [(3, .int (y3_4 + 1)), (0, .ref (a 2)), (1, .int p0), (2, .int p1)]) hx hb dX4_isClearBelow_31 hl (k := 0) rfl rfl (by decide) rfl (fun ls hl => ?_)
          refine lv_goto (tgt := 4) hx hb dX4_isClearBelow_34 (by decide) ?_
          exact ih4 (y3_4 + 1) _ _  (gap_step c9 hμ4) hR hB _ hl
        · replace hR := ifn c12 hR
          refine lv_iconst (v := 0) hx hb dX4_isClearBelow_29 (by decide) ?_
          rw [← hQ]
          exact end_i hX hB hA3 rfl rfl (by obtain rfl := hR; exact ⟨rfl, Or.inl rfl, rfl⟩) (Nat.le_of_ble_eq_true rfl) (Nat.le_of_ble_eq_true rfl) dX4_isClearBelow_30
  exact lp4 _ (p0 + 1) _ _  (Nat.lt_succ_self _) hR hB _ hl
noncomputable def D_X4_clearColumn_95 (r : Nat → Int32) (p0 : Int32) (p1 : Int32) (nn : Nat) : Int32 → (Nat → Int32) → (Nat → Nat → Int64) → Int32 × (Nat → Int32) × (Nat → Nat → Int64) := @Nat.rec (fun _ => Int32 → (Nat → Int32) → (Nat → Nat → Int64) → Int32 × (Nat → Int32) × (Nat → Nat → Int64)) (fun _ _ _ => default) (fun _ lb95 (y5_95 : Int32) (q_95 : Nat → Int32) (f_95 : Nat → Nat → Int64) => (if p0 ≤ y5_95 then (1, q_95, f_95) else (if (q_95 0) = 0 then bnd2 (D_X4_takeOff r q_95 f_95 y5_95 p0 p1) (fun (q319 : Nat → Int32) (f321 : Nat → Nat → Int64) => (lb95 (y5_95 + 1) q319 f321)) else (1, q_95, f_95)))) nn
theorem D_X4_clearColumn_95_s {r : Nat → Int32} {p0 : Int32} {p1 : Int32} {nn : Nat} {y5_95 : Int32} {q_95 : Nat → Int32} {f_95 : Nat → Nat → Int64} : D_X4_clearColumn_95 r p0 p1 (nn + 1) y5_95 q_95 f_95 = (if p0 ≤ y5_95 then (1, q_95, f_95) else (if (q_95 0) = 0 then bnd2 (D_X4_takeOff r q_95 f_95 y5_95 p0 p1) (fun (q319 : Nat → Int32) (f321 : Nat → Nat → Int64) => ((D_X4_clearColumn_95 r p0 p1 nn) (y5_95 + 1) q319 f321)) else (1, q_95, f_95))) := rfl
noncomputable def D_X4_clearColumn_j76 (r : Nat → Int32) (p0 : Int32) (p1 : Int32) (lb2 : Int32 → (Nat → Int32) → (Nat → Nat → Int64) → Int32 × (Nat → Int32) × (Nat → Nat → Int64)) (y3_2 : Int32) (q_43 : Nat → Int32) (f_43 : Nat → Nat → Int64) : Int32 × (Nat → Int32) × (Nat → Nat → Int64) := (if (q_43 0) = 0 then bnd1 (D_X4_isClearBelow r q_43 f_43 p0 p1) (fun (x302 : Int32) => (if x302 = 0 then (lb2 (y3_2 + 1) q_43 f_43) else (D_X4_clearColumn_95 r p0 p1 (gap p0 0 + 1) 0 q_43 f_43))) else (lb2 (y3_2 + 1) q_43 f_43))
theorem D_X4_clearColumn_j76_s {r : Nat → Int32} {p0 : Int32} {p1 : Int32} {lb2 : Int32 → (Nat → Int32) → (Nat → Nat → Int64) → Int32 × (Nat → Int32) × (Nat → Nat → Int64)} {y3_2 : Int32} {q_43 : Nat → Int32} {f_43 : Nat → Nat → Int64} : D_X4_clearColumn_j76 r p0 p1 lb2 y3_2 q_43 f_43 = (if (q_43 0) = 0 then bnd1 (D_X4_isClearBelow r q_43 f_43 p0 p1) (fun (x302 : Int32) => (if x302 = 0 then (lb2 (y3_2 + 1) q_43 f_43) else (D_X4_clearColumn_95 r p0 p1 (gap p0 0 + 1) 0 q_43 f_43))) else (lb2 (y3_2 + 1) q_43 f_43)) := rfl
noncomputable def D_X4_clearColumn_43 (r : Nat → Int32) (p0 : Int32) (p1 : Int32) (lb2 : Int32 → (Nat → Int32) → (Nat → Nat → Int64) → Int32 × (Nat → Int32) × (Nat → Nat → Int64)) (y3_2 : Int32) (nn : Nat) : Int32 → (Nat → Int32) → (Nat → Nat → Int64) → Int32 × (Nat → Int32) × (Nat → Nat → Int64) := @Nat.rec (fun _ => Int32 → (Nat → Int32) → (Nat → Nat → Int64) → Int32 × (Nat → Int32) × (Nat → Nat → Int64)) (fun _ _ _ => default) (fun _ lb43 (y5_43 : Int32) (q_43 : Nat → Int32) (f_43 : Nat → Nat → Int64) => (if (r (2 * 6)) ≤ y5_43 then (D_X4_clearColumn_j76 r p0 p1 lb2 y3_2 q_43 f_43) else (if (q_43 0) = 0 then bnd2 (D_X4_takeOff r q_43 f_43 y5_43 p0 p1) (fun (q325 : Nat → Int32) (f327 : Nat → Nat → Int64) => (lb43 (y5_43 + 1) q325 f327)) else (D_X4_clearColumn_j76 r p0 p1 lb2 y3_2 q_43 f_43)))) nn
theorem D_X4_clearColumn_43_s {r : Nat → Int32} {p0 : Int32} {p1 : Int32} {lb2 : Int32 → (Nat → Int32) → (Nat → Nat → Int64) → Int32 × (Nat → Int32) × (Nat → Nat → Int64)} {y3_2 : Int32} {nn : Nat} {y5_43 : Int32} {q_43 : Nat → Int32} {f_43 : Nat → Nat → Int64} : D_X4_clearColumn_43 r p0 p1 lb2 y3_2 (nn + 1) y5_43 q_43 f_43 = (if (r (2 * 6)) ≤ y5_43 then (D_X4_clearColumn_j76 r p0 p1 lb2 y3_2 q_43 f_43) else (if (q_43 0) = 0 then bnd2 (D_X4_takeOff r q_43 f_43 y5_43 p0 p1) (fun (q325 : Nat → Int32) (f327 : Nat → Nat → Int64) => ((D_X4_clearColumn_43 r p0 p1 lb2 y3_2 nn) (y5_43 + 1) q325 f327)) else (D_X4_clearColumn_j76 r p0 p1 lb2 y3_2 q_43 f_43))) := rfl
noncomputable def D_X4_clearColumn_2 (r : Nat → Int32) (p0 : Int32) (p1 : Int32) (nn : Nat) : Int32 → (Nat → Int32) → (Nat → Nat → Int64) → Int32 × (Nat → Int32) × (Nat → Nat → Int64) := @Nat.rec (fun _ => Int32 → (Nat → Int32) → (Nat → Nat → Int64) → Int32 × (Nat → Int32) × (Nat → Nat → Int64)) (fun _ _ _ => default) (fun _ lb2 (y3_2 : Int32) (q_2 : Nat → Int32) (f_2 : Nat → Nat → Int64) => (if 1000000 ≤ y3_2 then (0, q_2, f_2) else (if (q_2 0) = 0 then bnd1 (D_X4_findLeastRow r q_2 f_2 p0 p1) (fun (x222 : Int32) => (if 0 ≤ x222 then bnd1 (D_X4_bring r q_2 f_2 x222 p0 p1) (fun (f225 : Nat → Nat → Int64) => (D_X4_clearColumn_43 r p0 p1 lb2 y3_2 (gap (r (2 * 6)) (p0 + 1) + 1) (p0 + 1) q_2 f225)) else (0, q_2, f_2))) else (0, q_2, f_2)))) nn
theorem D_X4_clearColumn_2_s {r : Nat → Int32} {p0 : Int32} {p1 : Int32} {nn : Nat} {y3_2 : Int32} {q_2 : Nat → Int32} {f_2 : Nat → Nat → Int64} : D_X4_clearColumn_2 r p0 p1 (nn + 1) y3_2 q_2 f_2 = (if 1000000 ≤ y3_2 then (0, q_2, f_2) else (if (q_2 0) = 0 then bnd1 (D_X4_findLeastRow r q_2 f_2 p0 p1) (fun (x222 : Int32) => (if 0 ≤ x222 then bnd1 (D_X4_bring r q_2 f_2 x222 p0 p1) (fun (f225 : Nat → Nat → Int64) => (D_X4_clearColumn_43 r p0 p1 (D_X4_clearColumn_2 r p0 p1 nn) y3_2 (gap (r (2 * 6)) (p0 + 1) + 1) (p0 + 1) q_2 f225)) else (0, q_2, f_2))) else (0, q_2, f_2))) := rfl
noncomputable def D_X4_clearColumn (r : Nat → Int32) (q : Nat → Int32) (f : Nat → Nat → Int64) (p0 : Int32) (p1 : Int32) : Int32 × (Nat → Int32) × (Nat → Nat → Int64) := (D_X4_clearColumn_2 r p0 p1 (gap 1000000 0 + 1) 0 q f)
theorem D_X4_clearColumn_s {r : Nat → Int32} {q : Nat → Int32} {f : Nat → Nat → Int64} {p0 : Int32} {p1 : Int32} : D_X4_clearColumn r q f p0 p1 = (D_X4_clearColumn_2 r p0 p1 (gap 1000000 0 + 1) 0 q f) := rfl
set_option maxHeartbeats 4000000 in
set_option maxRecDepth 100000 in
theorem k_X4_clearColumn (κ : Kt) (l : Launch) (a : Nat → Nat) (r q : Nat → Int32) (f : Nat → Nat → Int64) (p0 : Int32) (p1 : Int32)  (o_x : Int32) (o_q : Nat → Int32) (o_f : Nat → Nat → Int64) (hR : D_X4_clearColumn r q f p0 p1 = (o_x, o_q, o_f)) : CM κ l yX4_clearColumn cX4_clearColumn 6 (some .boolean) 3 76 0 0 [.ref (a 2), .int p0, .int p1] (cw κ a r q f) (fun o w' => o = some (.int o_x) ∧ (o_x = 0 ∨ o_x = 1) ∧ o_q 4 = q 4 ∧ w' = cw κ a r o_q o_f) := by
  refine CM_begin (plainFor_of_name (by decide)) (Nat.le_of_ble_eq_true rfl) ?_
  intro p e s m args below meth c A Q hX hnm hA3 hQ hB ls hl
  have hx := hX.1.1
  have hb := hX.1.2.1
  have hl : lv_has ls 6 [(0, .ref (a 2)), (1, .int p0), (2, .int p1)] := hl
  replace hR := (D_X4_clearColumn_s).symm.trans hR
  refine lv_iconst (v := 0) hx hb dX4_clearColumn_0 (by decide) ?_
  refine lv_istore_n (lv' := [(3, .int 0), (0, .ref (a 2)), (1, .int p0), (2, .int p1)]) hx hb dX4_clearColumn_1 rfl hl (by decide) rfl (fun ls hl => ?_)
  have lp2 : ∀ (nn2 : Nat) (y3_2 : Int32) (q_2 : Nat → Int32) (f_2 : Nat → Nat → Int64) (H : Heap) (locs : List Loc), q_2 4 = q 4 → gap 1000000 y3_2 < nn2 → D_X4_clearColumn_2 r p0 p1 nn2 y3_2 q_2 f_2 = (o_x, o_q, o_f) → Bd κ A s (cw κ a r q_2 f_2) H locs → ∀ ls : Array Slot, lv_has ls 6 [(3, .int y3_2), (0, .ref (a 2)), (1, .int p0), (2, .int p1)] → W p l e (Rm 3 76 0 0) s m args below meth c H locs 0 0 Q (F0 m 2 ls []) := by
    intro nn2
    induction nn2 with
    | zero => intro y3_2 q_2 f_2 H locs hwq_2 hμ; exact absurd hμ (Nat.not_lt_zero _)
    | succ nn2 ih2 =>
      intro y3_2 q_2 f_2 H locs hwq_2 hμ2 hR hB ls hl
      replace hR := (D_X4_clearColumn_2_s).symm.trans hR
      refine lv_iload_n hx hb dX4_clearColumn_2 rfl (lv_at hl 0 rfl) ?_
      refine lv_ldc (own := RX4) (v := 1000000) hx hb hX.1.2.2.2.1 (hX.1.2.2.2.2 _ wm_1_230) dX4_clearColumn_3 ?_
      refine lv_icmp_ge (tgt := 130) hx hb dX4_clearColumn_5 (by decide) (fun c219 => ?_) (fun c219 => ?_)
      · replace hR := ifp c219 hR
        refine lv_iconst (v := 0) hx hb dX4_clearColumn_130 (by decide) ?_
        rw [← hQ]
        exact end_i hX hB hA3 rfl rfl (by obtain ⟨rfl, rfl, rfl⟩ := pr3 hR; exact ⟨rfl, Or.inl rfl, hwq_2, rfl⟩) (Nat.le_of_ble_eq_true rfl) (Nat.le_of_ble_eq_true rfl) dX4_clearColumn_131
      · replace hR := ifn c219 hR
        refine lv_aload_n hx hb dX4_clearColumn_8 rfl (lv_at hl 1 rfl) ?_
        refine gf hX hB cw2 rfl in4 2 (by decide) wm_1_78 rfl rfl dX4_clearColumn_9 ?_
        refine lv_if_ne (tgt := 130) hx hb dX4_clearColumn_12 (by decide) (fun c220 => ?_) (fun c220 => ?_)
        · replace hR := ifn c220 hR
          refine lv_iconst (v := 0) hx hb dX4_clearColumn_130 (by decide) ?_
          rw [← hQ]
          exact end_i hX hB hA3 rfl rfl (by obtain ⟨rfl, rfl, rfl⟩ := pr3 hR; exact ⟨rfl, Or.inl rfl, hwq_2, rfl⟩) (Nat.le_of_ble_eq_true rfl) (Nat.le_of_ble_eq_true rfl) dX4_clearColumn_131
        · replace hR := ifp c220 hR
          refine lv_aload_n hx hb dX4_clearColumn_15 rfl (lv_at hl 1 rfl) ?_
          refine lv_iload_n hx hb dX4_clearColumn_16 rfl (lv_at hl 2 rfl) ?_
          refine lv_iload_n hx hb dX4_clearColumn_17 rfl (lv_at hl 3 rfl) ?_
          obtain ⟨x222, hd221⟩ := ex1 (D_X4_findLeastRow r q_2 f_2 p0 p1)
          replace hR := bnd1_use hd221 hR
          refine call_V (n := 2) (As := [.int p0, .int p1]) (rest := []) hX hB (k_X4_findLeastRow κ l a r q_2 f_2 p0 p1 x222 hd221) ⟨rfl, by decide, by decide, by decide +kernel⟩ wm_1_231 wm_1_233 wp_2 wm_1_3 wm_1_234 ⟨Nat.le_of_ble_eq_true rfl, Nat.le_of_ble_eq_true rfl⟩ ⟨Nat.le_of_ble_eq_true rfl, Nat.le_of_ble_eq_true rfl⟩ cw2 rfl rfl rfl hl.1 rfl (Nat.le_of_ble_eq_true rfl) dX4_clearColumn_18 (fun o w' H locs hp hB => ?_)
          obtain ⟨rfl, rfl⟩ := hp
          refine W.eq (g2 := F0 m 21 ls [.int x222]) rfl ?_
          refine lv_istore (lv' := [(4, .int x222), (3, .int y3_2), (0, .ref (a 2)), (1, .int p0), (2, .int p1)]) hx hb dX4_clearColumn_21 hl (by decide) rfl (fun ls hl => ?_)
          refine lv_iload hx hb dX4_clearColumn_23 (lv_at hl 0 rfl) ?_
          refine lv_if_ge (tgt := 30) hx hb dX4_clearColumn_25 (by decide) (fun c223 => ?_) (fun c223 => ?_)
          · replace hR := ifp c223 hR
            refine lv_aload_n hx hb dX4_clearColumn_30 rfl (lv_at hl 2 rfl) ?_
            refine lv_iload hx hb dX4_clearColumn_31 (lv_at hl 0 rfl) ?_
            refine lv_iload_n hx hb dX4_clearColumn_33 rfl (lv_at hl 3 rfl) ?_
            refine lv_iload_n hx hb dX4_clearColumn_34 rfl (lv_at hl 4 rfl) ?_
            obtain ⟨f225, hd224⟩ := ex1 (D_X4_bring r q_2 f_2 x222 p0 p1)
            replace hR := bnd1_use hd224 hR
            refine call_V (n := 3) (As := [.int x222, .int p0, .int p1]) (rest := []) hX hB (k_X4_bring κ l a r q_2 f_2 x222 p0 p1 f225 hd224) ⟨rfl, by decide, by decide, by decide +kernel⟩ wm_1_239 wm_2_1 wp_3 wm_1_3 wm_2_2 ⟨Nat.le_of_ble_eq_true rfl, Nat.le_of_ble_eq_true rfl⟩ ⟨Nat.le_of_ble_eq_true rfl, Nat.le_of_ble_eq_true rfl⟩ cw2 rfl rfl rfl hl.1 rfl (Nat.le_of_ble_eq_true rfl) dX4_clearColumn_35 (fun o w' H locs hp hB => ?_)
            obtain ⟨rfl, rfl⟩ := hp
            refine W.eq (g2 := F0 m 38 ls []) rfl ?_
            refine lv_iload_n hx hb dX4_clearColumn_38 rfl (lv_at hl 3 rfl) ?_
            refine lv_iconst (v := 1) hx hb dX4_clearColumn_39 (by decide) ?_
            refine lv_iadd hx hb dX4_clearColumn_40 ?_
            refine lv_istore (lv' := [(5, .int (p0 + 1)), (4, .int x222), (3, .int y3_2), (0, .ref (a 2)), (1, .int p0), (2, .int p1)]) hx hb dX4_clearColumn_41 hl (by decide) rfl (fun ls hl => ?_)
            have lp43 : ∀ (nn43 : Nat) (y5_43 : Int32) (q_43 : Nat → Int32) (f_43 : Nat → Nat → Int64) (H : Heap) (locs : List Loc), q_43 4 = q 4 → gap (r (2 * 6)) y5_43 < nn43 → D_X4_clearColumn_43 r p0 p1 (D_X4_clearColumn_2 r p0 p1 nn2) y3_2 nn43 y5_43 q_43 f_43 = (o_x, o_q, o_f) → Bd κ A s (cw κ a r q_43 f_43) H locs → ∀ ls : Array Slot, lv_has ls 6 [(5, .int y5_43), (4, .int x222), (3, .int y3_2), (0, .ref (a 2)), (1, .int p0), (2, .int p1)] → W p l e (Rm 3 76 0 0) s m args below meth c H locs 0 0 Q (F0 m 43 ls []) := by
              intro nn43
              induction nn43 with
              | zero => intro y5_43 q_43 f_43 H locs hwq_43 hμ; exact absurd hμ (Nat.not_lt_zero _)
              | succ nn43 ih43 =>
                intro y5_43 q_43 f_43 H locs hwq_43 hμ43 hR hB ls hl
                replace hR := (D_X4_clearColumn_43_s).symm.trans hR
                refine lv_iload hx hb dX4_clearColumn_43 (lv_at hl 0 rfl) ?_
                refine lv_aload_n hx hb dX4_clearColumn_45 rfl (lv_at hl 3 rfl) ?_
                refine gf hX hB cw2 rfl in4 0 (by decide) wm_1_74 rfl rfl dX4_clearColumn_46 ?_
                refine gfN hX hB (cwG (i := 6) (by decide)) rfl in3 1 (by decide) wn_1_48 rfl rfl dX4_clearColumn_49 ?_
                have jn76 : ∀ (H : Heap) (locs : List Loc), D_X4_clearColumn_j76 r p0 p1 (D_X4_clearColumn_2 r p0 p1 nn2) y3_2 q_43 f_43 = (o_x, o_q, o_f) → Bd κ A s (cw κ a r q_43 f_43) H locs → ∀ ls : Array Slot, lv_has ls 6 [(5, .int y5_43), (4, .int x222), (3, .int y3_2), (0, .ref (a 2)), (1, .int p0), (2, .int p1)] → W p l e (Rm 3 76 0 0) s m args below meth c H locs 0 0 Q (F0 m 76 ls []) := by
                  intro H locs hR hB ls hl
                  replace hR := (D_X4_clearColumn_j76_s).symm.trans hR
                  refine lv_aload_n hx hb dX4_clearColumn_76 rfl (lv_at hl 3 rfl) ?_
                  refine gf hX hB cw2 rfl in4 2 (by decide) wm_1_78 rfl rfl dX4_clearColumn_77 ?_
                  refine lv_if_ne (tgt := 124) hx hb dX4_clearColumn_80 (by decide) (fun c300 => ?_) (fun c300 => ?_)
                  · replace hR := ifn c300 hR
                    refine lv_iinc (v := y3_2 + 1) (lv' := [(3, .int (y3_2 + 1)), (5, .int y5_43), (4, .int x222), (0, .ref (a 2)), (1, .int p0), (2, .int p1)]) hx hb dX4_clearColumn_124 hl (k := 2) rfl rfl (by decide) rfl (fun ls hl => ?_)
                    refine lv_goto (tgt := 2) hx hb dX4_clearColumn_127 (by decide) ?_
                    exact ih2 (y3_2 + 1) q_43 f_43 _ _ hwq_43 (gap_step c219 hμ2) hR hB _ (lv_sub hl [0, 3, 4, 5] rfl)
                  · replace hR := ifp c300 hR
                    refine lv_aload_n hx hb dX4_clearColumn_83 rfl (lv_at hl 3 rfl) ?_
                    refine lv_iload_n hx hb dX4_clearColumn_84 rfl (lv_at hl 4 rfl) ?_
                    refine lv_iload_n hx hb dX4_clearColumn_85 rfl (lv_at hl 5 rfl) ?_
                    obtain ⟨x302, hd301⟩ := ex1 (D_X4_isClearBelow r q_43 f_43 p0 p1)
                    replace hR := bnd1_use hd301 hR
                    refine call_V (n := 2) (As := [.int p0, .int p1]) (rest := []) hX hB (k_X4_isClearBelow κ l a r q_43 f_43 p0 p1 x302 hd301) ⟨rfl, by decide, by decide, by decide +kernel⟩ wm_2_32 wm_2_34 wp_5 wm_1_3 wm_2_35 ⟨Nat.le_of_ble_eq_true rfl, Nat.le_of_ble_eq_true rfl⟩ ⟨Nat.le_of_ble_eq_true rfl, Nat.le_of_ble_eq_true rfl⟩ cw2 rfl rfl rfl hl.1 rfl (Nat.le_of_ble_eq_true rfl) dX4_clearColumn_86 (fun o w' H locs hp hB => ?_)
                    obtain ⟨rfl, bx302, rfl⟩ := hp
                    refine W.eq (g2 := F0 m 89 ls [.int x302]) rfl ?_
                    refine lv_if_eq (tgt := 124) hx hb dX4_clearColumn_89 (by decide) (fun c303 => ?_) (fun c303 => ?_)
                    · replace hR := ifp c303 hR
                      refine lv_iinc (v := y3_2 + 1) (lv' := [(3, .int (y3_2 + 1)), (5, .int y5_43), (4, .int x222), (0, .ref (a 2)), (1, .int p0), (2, .int p1)]) hx hb dX4_clearColumn_124 hl (k := 2) rfl rfl (by decide) rfl (fun ls hl => ?_)
                      refine lv_goto (tgt := 2) hx hb dX4_clearColumn_127 (by decide) ?_
                      exact ih2 (y3_2 + 1) q_43 f_43 _ _ hwq_43 (gap_step c219 hμ2) hR hB _ (lv_sub hl [0, 3, 4, 5] rfl)
                    · replace hR := ifn c303 hR
                      refine lv_iconst (v := 0) hx hb dX4_clearColumn_92 (by decide) ?_
                      refine lv_istore (lv' := [(5, .int 0), (4, .int x222), (3, .int y3_2), (0, .ref (a 2)), (1, .int p0), (2, .int p1)]) hx hb dX4_clearColumn_93 hl (by decide) rfl (fun ls hl => ?_)
                      have lp95 : ∀ (nn95 : Nat) (y5_95 : Int32) (q_95 : Nat → Int32) (f_95 : Nat → Nat → Int64) (H : Heap) (locs : List Loc), q_95 4 = q 4 → gap p0 y5_95 < nn95 → D_X4_clearColumn_95 r p0 p1 nn95 y5_95 q_95 f_95 = (o_x, o_q, o_f) → Bd κ A s (cw κ a r q_95 f_95) H locs → ∀ ls : Array Slot, lv_has ls 6 [(5, .int y5_95), (4, .int x222), (3, .int y3_2), (0, .ref (a 2)), (1, .int p0), (2, .int p1)] → W p l e (Rm 3 76 0 0) s m args below meth c H locs 0 0 Q (F0 m 95 ls []) := by
                        intro nn95
                        induction nn95 with
                        | zero => intro y5_95 q_95 f_95 H locs hwq_95 hμ; exact absurd hμ (Nat.not_lt_zero _)
                        | succ nn95 ih95 =>
                          intro y5_95 q_95 f_95 H locs hwq_95 hμ95 hR hB ls hl
                          replace hR := (D_X4_clearColumn_95_s).symm.trans hR
                          refine lv_iload hx hb dX4_clearColumn_95 (lv_at hl 0 rfl) ?_
                          refine lv_iload_n hx hb dX4_clearColumn_97 rfl (lv_at hl 4 rfl) ?_
                          refine lv_icmp_ge (tgt := 122) hx hb dX4_clearColumn_98 (by decide) (fun c316 => ?_) (fun c316 => ?_)
                          · replace hR := ifp c316 hR
                            refine lv_iconst (v := 1) hx hb dX4_clearColumn_122 (by decide) ?_
                            rw [← hQ]
                            exact end_i hX hB hA3 rfl rfl (by obtain ⟨rfl, rfl, rfl⟩ := pr3 hR; exact ⟨rfl, Or.inr rfl, hwq_95, rfl⟩) (Nat.le_of_ble_eq_true rfl) (Nat.le_of_ble_eq_true rfl) dX4_clearColumn_123
                          · replace hR := ifn c316 hR
                            refine lv_aload_n hx hb dX4_clearColumn_101 rfl (lv_at hl 3 rfl) ?_
                            refine gf hX hB cw2 rfl in4 2 (by decide) wm_1_78 rfl rfl dX4_clearColumn_102 ?_
                            refine lv_if_ne (tgt := 122) hx hb dX4_clearColumn_105 (by decide) (fun c317 => ?_) (fun c317 => ?_)
                            · replace hR := ifn c317 hR
                              refine lv_iconst (v := 1) hx hb dX4_clearColumn_122 (by decide) ?_
                              rw [← hQ]
                              exact end_i hX hB hA3 rfl rfl (by obtain ⟨rfl, rfl, rfl⟩ := pr3 hR; exact ⟨rfl, Or.inr rfl, hwq_95, rfl⟩) (Nat.le_of_ble_eq_true rfl) (Nat.le_of_ble_eq_true rfl) dX4_clearColumn_123
                            · replace hR := ifp c317 hR
                              refine lv_aload_n hx hb dX4_clearColumn_108 rfl (lv_at hl 3 rfl) ?_
                              refine lv_iload hx hb dX4_clearColumn_109 (lv_at hl 0 rfl) ?_
                              refine lv_iload_n hx hb dX4_clearColumn_111 rfl (lv_at hl 4 rfl) ?_
                              refine lv_iload_n hx hb dX4_clearColumn_112 rfl (lv_at hl 5 rfl) ?_
                              obtain ⟨q319, f321, hd318⟩ := ex2 (D_X4_takeOff r q_95 f_95 y5_95 p0 p1)
                              replace hR := bnd2_use hd318 hR
                              refine call_V (n := 3) (As := [.int y5_95, .int p0, .int p1]) (rest := []) hX hB (k_X4_takeOff κ l a r q_95 f_95 y5_95 p0 p1 q319 f321 hd318) ⟨rfl, by decide, by decide, by decide +kernel⟩ wm_2_12 wm_2_14 wp_4 wm_1_3 wm_2_15 ⟨Nat.le_of_ble_eq_true rfl, Nat.le_of_ble_eq_true rfl⟩ ⟨Nat.le_of_ble_eq_true rfl, Nat.le_of_ble_eq_true rfl⟩ cw2 rfl rfl rfl hl.1 rfl (Nat.le_of_ble_eq_true rfl) dX4_clearColumn_113 (fun o w' H locs hp hB => ?_)
                              obtain ⟨rfl, hq320, rfl⟩ := hp
                              refine W.eq (g2 := F0 m 116 ls []) rfl ?_
                              refine lv_iinc (v := y5_95 + 1) (lv' := [(5, .int (y5_95 + 1)), (4, .int x222), (3, .int y3_2), (0, .ref (a 2)), (1, .int p0), (2, .int p1)]) hx hb dX4_clearColumn_116 hl (k := 0) rfl rfl (by decide) rfl (fun ls hl => ?_)
                              refine lv_goto (tgt := 95) hx hb dX4_clearColumn_119 (by decide) ?_
                              exact ih95 (y5_95 + 1) q319 f321 _ _ (hq320.trans hwq_95) (gap_step c316 hμ95) hR hB _ hl
                      exact lp95 _ 0 q_43 f_43 _ _ hwq_43 (Nat.lt_succ_self _) hR hB _ hl
                refine lv_icmp_ge (tgt := 76) hx hb dX4_clearColumn_52 (by decide) (fun c322 => ?_) (fun c322 => ?_)
                · replace hR := ifp c322 hR
                  exact jn76  _ _  hR hB _ hl
                · replace hR := ifn c322 hR
                  refine lv_aload_n hx hb dX4_clearColumn_55 rfl (lv_at hl 3 rfl) ?_
                  refine gf hX hB cw2 rfl in4 2 (by decide) wm_1_78 rfl rfl dX4_clearColumn_56 ?_
                  refine lv_if_ne (tgt := 76) hx hb dX4_clearColumn_59 (by decide) (fun c323 => ?_) (fun c323 => ?_)
                  · replace hR := ifn c323 hR
                    exact jn76  _ _  hR hB _ hl
                  · replace hR := ifp c323 hR
                    refine lv_aload_n hx hb dX4_clearColumn_62 rfl (lv_at hl 3 rfl) ?_
                    refine lv_iload hx hb dX4_clearColumn_63 (lv_at hl 0 rfl) ?_
                    refine lv_iload_n hx hb dX4_clearColumn_65 rfl (lv_at hl 4 rfl) ?_
                    refine lv_iload_n hx hb dX4_clearColumn_66 rfl (lv_at hl 5 rfl) ?_
                    obtain ⟨q325, f327, hd324⟩ := ex2 (D_X4_takeOff r q_43 f_43 y5_43 p0 p1)
                    replace hR := bnd2_use hd324 hR
                    refine call_V (n := 3) (As := [.int y5_43, .int p0, .int p1]) (rest := []) hX hB (k_X4_takeOff κ l a r q_43 f_43 y5_43 p0 p1 q325 f327 hd324) ⟨rfl, by decide, by decide, by decide +kernel⟩ wm_2_12 wm_2_14 wp_4 wm_1_3 wm_2_15 ⟨Nat.le_of_ble_eq_true rfl, Nat.le_of_ble_eq_true rfl⟩ ⟨Nat.le_of_ble_eq_true rfl, Nat.le_of_ble_eq_true rfl⟩ cw2 rfl rfl rfl hl.1 rfl (Nat.le_of_ble_eq_true rfl) dX4_clearColumn_67 (fun o w' H locs hp hB => ?_)
                    obtain ⟨rfl, hq326, rfl⟩ := hp
                    refine W.eq (g2 := F0 m 70 ls []) rfl ?_
                    refine lv_iinc (v := y5_43 + 1) (lv' := [(5, .int (y5_43 + 1)), (4, .int x222), (3, .int y3_2), (0, .ref (a 2)), (1, .int p0), (2, .int p1)]) hx hb dX4_clearColumn_70 hl (k := 0) rfl rfl (by decide) rfl (fun ls hl => ?_)
                    refine lv_goto (tgt := 43) hx hb dX4_clearColumn_73 (by decide) ?_
                    exact ih43 (y5_43 + 1) q325 f327 _ _ (hq326.trans hwq_43) (gap_step c322 hμ43) hR hB _ hl
            exact lp43 _ (p0 + 1) q_2 f225 _ _ hwq_2 (Nat.lt_succ_self _) hR hB _ hl
          · replace hR := ifn c223 hR
            refine lv_iconst (v := 0) hx hb dX4_clearColumn_28 (by decide) ?_
            rw [← hQ]
            exact end_i hX hB hA3 rfl rfl (by obtain ⟨rfl, rfl, rfl⟩ := pr3 hR; exact ⟨rfl, Or.inl rfl, hwq_2, rfl⟩) (Nat.le_of_ble_eq_true rfl) (Nat.le_of_ble_eq_true rfl) dX4_clearColumn_29
  exact lp2 _ 0 q f _ _ rfl (Nat.lt_succ_self _) hR hB _ hl
noncomputable def D_X4_walk_28 (r8 : Nat → Int32) (nn : Nat) : Int32 → Int32 → (Nat → Int32) → (Nat → Nat → Int64) → (Nat → Int32) × (Nat → Int32) × (Nat → Nat → Int64) := @Nat.rec (fun _ => Int32 → Int32 → (Nat → Int32) → (Nat → Nat → Int64) → (Nat → Int32) × (Nat → Int32) × (Nat → Nat → Int64)) (fun _ _ _ _ => default) (fun _ lb28 (y3_28 : Int32) (y2_28 : Int32) (q_28 : Nat → Int32) (f_28 : Nat → Nat → Int64) => (if (r8 (2 * 6 + 1)) ≤ y3_28 then (r8, q_28, f_28) else (if (r8 (2 * 6)) ≤ y2_28 then (r8, q_28, f_28) else (if (q_28 0) = 0 then bnd3 (D_X4_clearColumn r8 q_28 f_28 y2_28 y3_28) (fun (x35 : Int32) (q36 : Nat → Int32) (f38 : Nat → Nat → Int64) => (if x35 = 0 then (lb28 (y3_28 + 1) y2_28 q36 f38) else (lb28 (y3_28 + 1) (y2_28 + 1) q36 f38))) else (r8, q_28, f_28))))) nn
theorem D_X4_walk_28_s {r8 : Nat → Int32} {nn : Nat} {y3_28 : Int32} {y2_28 : Int32} {q_28 : Nat → Int32} {f_28 : Nat → Nat → Int64} : D_X4_walk_28 r8 (nn + 1) y3_28 y2_28 q_28 f_28 = (if (r8 (2 * 6 + 1)) ≤ y3_28 then (r8, q_28, f_28) else (if (r8 (2 * 6)) ≤ y2_28 then (r8, q_28, f_28) else (if (q_28 0) = 0 then bnd3 (D_X4_clearColumn r8 q_28 f_28 y2_28 y3_28) (fun (x35 : Int32) (q36 : Nat → Int32) (f38 : Nat → Nat → Int64) => (if x35 = 0 then ((D_X4_walk_28 r8 nn) (y3_28 + 1) y2_28 q36 f38) else ((D_X4_walk_28 r8 nn) (y3_28 + 1) (y2_28 + 1) q36 f38))) else (r8, q_28, f_28)))) := rfl
noncomputable def D_X4_walk (r : Nat → Int32) (q : Nat → Int32) (f : Nat → Nat → Int64) (i : Nat) : (Nat → Int32) × (Nat → Int32) × (Nat → Nat → Int64) := bnd3 (D_X3_becomeLike r q f 6 i) (fun (r2 : Nat → Int32) (q4 : Nat → Int32) (f6 : Nat → Nat → Int64) => bnd3 (D_X3_becomeUnit r2 q4 f6 7 (r2 (2 * i))) (fun (r8 : Nat → Int32) (q10 : Nat → Int32) (f12 : Nat → Nat → Int64) => (D_X4_walk_28 r8 (gap (r8 (2 * 6 + 1)) 0 + 1) 0 0 (va_up q10 0 0) f12)))
theorem D_X4_walk_s {r : Nat → Int32} {q : Nat → Int32} {f : Nat → Nat → Int64} {i : Nat} : D_X4_walk r q f i = bnd3 (D_X3_becomeLike r q f 6 i) (fun (r2 : Nat → Int32) (q4 : Nat → Int32) (f6 : Nat → Nat → Int64) => bnd3 (D_X3_becomeUnit r2 q4 f6 7 (r2 (2 * i))) (fun (r8 : Nat → Int32) (q10 : Nat → Int32) (f12 : Nat → Nat → Int64) => (D_X4_walk_28 r8 (gap (r8 (2 * 6 + 1)) 0 + 1) 0 0 (va_up q10 0 0) f12))) := rfl
set_option maxHeartbeats 4000000 in
set_option maxRecDepth 100000 in
theorem k_X4_walk (κ : Kt) (l : Launch) (a : Nat → Nat) (r q : Nat → Int32) (f : Nat → Nat → Int64) (i : Nat) (hi : i < 15) (o_r : Nat → Int32) (o_q : Nat → Int32) (o_f : Nat → Nat → Int64) (hR : D_X4_walk r q f i = (o_r, o_q, o_f)) : CM κ l yX4_walk cX4_walk 4 (none) 4 101 0 0 [.ref (a 2), .ref (a (6 + 2 * i))] (cw κ a r q f) (fun o w' => o = none ∧ (okr r → okr o_r) ∧ o_q 4 = q 4 ∧ w' = cw κ a o_r o_q o_f) := by
  refine CM_begin (plainFor_of_name (by decide)) (Nat.le_of_ble_eq_true rfl) ?_
  intro p e s m args below meth c A Q hX hnm hA3 hQ hB ls hl
  have hx := hX.1.1
  have hb := hX.1.2.1
  have hl : lv_has ls 4 [(0, .ref (a 2)), (1, .ref (a (6 + 2 * i)))] := hl
  replace hR := (D_X4_walk_s).symm.trans hR
  refine lv_aload_n hx hb dX4_walk_0 rfl (lv_at hl 0 rfl) ?_
  refine gf hX hB cw2 rfl in4 0 (by decide) wm_1_74 rfl rfl dX4_walk_1 ?_
  refine lv_aload_n hx hb dX4_walk_4 rfl (lv_at hl 1 rfl) ?_
  obtain ⟨r2, q4, f6, hd1⟩ := ex3 (D_X3_becomeLike r q f 6 i)
  replace hR := bnd3_use hd1 hR
  refine call_V (n := 1) (As := [.ref (a (6 + 2 * i))]) (rest := []) hX hB (k_X3_becomeLike κ l a r q f 6 i (by decide) hi r2 q4 f6 hd1) ⟨rfl, by decide, by decide, by decide +kernel⟩ wm_1_204 wm_1_205 wm_1_206 wm_1_2 wm_1_207 ⟨Nat.le_of_ble_eq_true rfl, Nat.le_of_ble_eq_true rfl⟩ ⟨Nat.le_of_ble_eq_true rfl, Nat.le_of_ble_eq_true rfl⟩ (cwG (i := 6) (by decide)) rfl rfl rfl hl.1 rfl (Nat.le_of_ble_eq_true rfl) dX4_walk_5 (fun o w' H locs hp hB => ?_)
  obtain ⟨rfl, ho3, hq5, rfl⟩ := hp
  refine W.eq (g2 := F0 m 8 ls []) rfl ?_
  refine lv_aload_n hx hb dX4_walk_8 rfl (lv_at hl 0 rfl) ?_
  refine gf hX hB cw2 rfl in4 1 (by decide) wm_1_76 rfl rfl dX4_walk_9 ?_
  refine lv_aload_n hx hb dX4_walk_12 rfl (lv_at hl 1 rfl) ?_
  refine gfN hX hB (cwG (i := i) hi) rfl in3 1 (by decide) wn_1_48 rfl rfl dX4_walk_13 ?_
  obtain ⟨r8, q10, f12, hd7⟩ := ex3 (D_X3_becomeUnit r2 q4 f6 7 (r2 (2 * i)))
  replace hR := bnd3_use hd7 hR
  refine call_V (n := 1) (As := [.int (r2 (2 * i))]) (rest := []) hX hB (k_X3_becomeUnit κ l a r2 q4 f6 7 (r2 (2 * i)) (by decide) r8 q10 f12 hd7) ⟨rfl, by decide, by decide, by decide +kernel⟩ wm_1_208 wm_1_209 wm_1_210 wm_1_2 wm_1_211 ⟨Nat.le_of_ble_eq_true rfl, Nat.le_of_ble_eq_true rfl⟩ ⟨Nat.le_of_ble_eq_true rfl, Nat.le_of_ble_eq_true rfl⟩ (cwG (i := 7) (by decide)) rfl rfl rfl hl.1 rfl (Nat.le_of_ble_eq_true rfl) dX4_walk_16 (fun o w' H locs hp hB => ?_)
  obtain ⟨rfl, ho9, hq11, rfl⟩ := hp
  refine W.eq (g2 := F0 m 19 ls []) rfl ?_
  refine lv_aload_n hx hb dX4_walk_19 rfl (lv_at hl 0 rfl) ?_
  refine lv_iconst (v := 0) hx hb dX4_walk_20 (by decide) ?_
  refine pf (ty := .boolean) hX hB cw2 rfl in4 tyX4_ok nmX4 2 (by decide) wm_1_78 rfl rfl rfl rfl rfl (Nat.le_of_ble_eq_true rfl) (cwSQ0 _) dX4_walk_21 (fun H locs hB => ?_)
  refine lv_iconst (v := 0) hx hb dX4_walk_24 (by decide) ?_
  refine lv_istore_n (lv' := [(2, .int 0), (0, .ref (a 2)), (1, .ref (a (6 + 2 * i)))]) hx hb dX4_walk_25 rfl hl (by decide) rfl (fun ls hl => ?_)
  refine lv_iconst (v := 0) hx hb dX4_walk_26 (by decide) ?_
  refine lv_istore_n (lv' := [(3, .int 0), (2, .int 0), (0, .ref (a 2)), (1, .ref (a (6 + 2 * i)))]) hx hb dX4_walk_27 rfl hl (by decide) rfl (fun ls hl => ?_)
  have lp28 : ∀ (nn28 : Nat) (y3_28 : Int32) (y2_28 : Int32) (q_28 : Nat → Int32) (f_28 : Nat → Nat → Int64) (H : Heap) (locs : List Loc), q_28 4 = q 4 → gap (r8 (2 * 6 + 1)) y3_28 < nn28 → D_X4_walk_28 r8 nn28 y3_28 y2_28 q_28 f_28 = (o_r, o_q, o_f) → Bd κ A s (cw κ a r8 q_28 f_28) H locs → ∀ ls : Array Slot, lv_has ls 4 [(3, .int y3_28), (2, .int y2_28), (0, .ref (a 2)), (1, .ref (a (6 + 2 * i)))] → W p l e (Rm 4 101 0 0) s m args below meth c H locs 0 0 Q (F0 m 28 ls []) := by
    intro nn28
    induction nn28 with
    | zero => intro y3_28 y2_28 q_28 f_28 H locs hwq_28 hμ; exact absurd hμ (Nat.not_lt_zero _)
    | succ nn28 ih28 =>
      intro y3_28 y2_28 q_28 f_28 H locs hwq_28 hμ28 hR hB ls hl
      replace hR := (D_X4_walk_28_s).symm.trans hR
      refine lv_iload_n hx hb dX4_walk_28 rfl (lv_at hl 0 rfl) ?_
      refine lv_aload_n hx hb dX4_walk_29 rfl (lv_at hl 2 rfl) ?_
      refine gf hX hB cw2 rfl in4 0 (by decide) wm_1_74 rfl rfl dX4_walk_30 ?_
      refine gfN hX hB (cwG (i := 6) (by decide)) rfl in3 2 (by decide) wn_1_56 rfl rfl dX4_walk_33 ?_
      refine lv_icmp_ge (tgt := 75) hx hb dX4_walk_36 (by decide) (fun c31 => ?_) (fun c31 => ?_)
      · replace hR := ifp c31 hR
        rw [← hQ]
        exact end_v hX hB hA3 rfl (by obtain ⟨rfl, rfl, rfl⟩ := pr3 hR; exact ⟨rfl, (fun h => ho9 ((fun h => ho3 ((fun h => h) h)) h)), hwq_28, rfl⟩) (Nat.le_of_ble_eq_true rfl) (Nat.le_of_ble_eq_true rfl) dX4_walk_75
      · replace hR := ifn c31 hR
        refine lv_iload_n hx hb dX4_walk_39 rfl (lv_at hl 1 rfl) ?_
        refine lv_aload_n hx hb dX4_walk_40 rfl (lv_at hl 2 rfl) ?_
        refine gf hX hB cw2 rfl in4 0 (by decide) wm_1_74 rfl rfl dX4_walk_41 ?_
        refine gfN hX hB (cwG (i := 6) (by decide)) rfl in3 1 (by decide) wn_1_48 rfl rfl dX4_walk_44 ?_
        refine lv_icmp_ge (tgt := 75) hx hb dX4_walk_47 (by decide) (fun c32 => ?_) (fun c32 => ?_)
        · replace hR := ifp c32 hR
          rw [← hQ]
          exact end_v hX hB hA3 rfl (by obtain ⟨rfl, rfl, rfl⟩ := pr3 hR; exact ⟨rfl, (fun h => ho9 ((fun h => ho3 ((fun h => h) h)) h)), hwq_28, rfl⟩) (Nat.le_of_ble_eq_true rfl) (Nat.le_of_ble_eq_true rfl) dX4_walk_75
        · replace hR := ifn c32 hR
          refine lv_aload_n hx hb dX4_walk_50 rfl (lv_at hl 2 rfl) ?_
          refine gf hX hB cw2 rfl in4 2 (by decide) wm_1_78 rfl rfl dX4_walk_51 ?_
          refine lv_if_ne (tgt := 75) hx hb dX4_walk_54 (by decide) (fun c33 => ?_) (fun c33 => ?_)
          · replace hR := ifn c33 hR
            rw [← hQ]
            exact end_v hX hB hA3 rfl (by obtain ⟨rfl, rfl, rfl⟩ := pr3 hR; exact ⟨rfl, (fun h => ho9 ((fun h => ho3 ((fun h => h) h)) h)), hwq_28, rfl⟩) (Nat.le_of_ble_eq_true rfl) (Nat.le_of_ble_eq_true rfl) dX4_walk_75
          · replace hR := ifp c33 hR
            refine lv_aload_n hx hb dX4_walk_57 rfl (lv_at hl 2 rfl) ?_
            refine lv_iload_n hx hb dX4_walk_58 rfl (lv_at hl 1 rfl) ?_
            refine lv_iload_n hx hb dX4_walk_59 rfl (lv_at hl 0 rfl) ?_
            obtain ⟨x35, q36, f38, hd34⟩ := ex3 (D_X4_clearColumn r8 q_28 f_28 y2_28 y3_28)
            replace hR := bnd3_use hd34 hR
            refine call_V (n := 2) (As := [.int y2_28, .int y3_28]) (rest := []) hX hB (k_X4_clearColumn κ l a r8 q_28 f_28 y2_28 y3_28 x35 q36 f38 hd34) ⟨rfl, by decide, by decide, by decide +kernel⟩ wm_1_226 wm_1_228 wp_1 wm_1_3 wm_1_229 ⟨Nat.le_of_ble_eq_true rfl, Nat.le_of_ble_eq_true rfl⟩ ⟨Nat.le_of_ble_eq_true rfl, Nat.le_of_ble_eq_true rfl⟩ cw2 rfl rfl rfl hl.1 rfl (Nat.le_of_ble_eq_true rfl) dX4_walk_60 (fun o w' H locs hp hB => ?_)
            obtain ⟨rfl, bx35, hq37, rfl⟩ := hp
            refine W.eq (g2 := F0 m 63 ls [.int x35]) rfl ?_
            refine lv_if_eq (tgt := 69) hx hb dX4_walk_63 (by decide) (fun c39 => ?_) (fun c39 => ?_)
            · replace hR := ifp c39 hR
              refine lv_iinc (v := y3_28 + 1) (lv' := [(3, .int (y3_28 + 1)), (2, .int y2_28), (0, .ref (a 2)), (1, .ref (a (6 + 2 * i)))]) hx hb dX4_walk_69 hl (k := 0) rfl rfl (by decide) rfl (fun ls hl => ?_)
              refine lv_goto (tgt := 28) hx hb dX4_walk_72 (by decide) ?_
              exact ih28 (y3_28 + 1) y2_28 q36 f38 _ _ (hq37.trans hwq_28) (gap_step c31 hμ28) hR hB _ hl
            · replace hR := ifn c39 hR
              refine lv_iinc (v := y2_28 + 1) (lv' := [(2, .int (y2_28 + 1)), (3, .int y3_28), (0, .ref (a 2)), (1, .ref (a (6 + 2 * i)))]) hx hb dX4_walk_66 hl (k := 1) rfl rfl (by decide) rfl (fun ls hl => ?_)
              refine lv_iinc (v := y3_28 + 1) (lv' := [(3, .int (y3_28 + 1)), (2, .int (y2_28 + 1)), (0, .ref (a 2)), (1, .ref (a (6 + 2 * i)))]) hx hb dX4_walk_69 hl (k := 1) rfl rfl (by decide) rfl (fun ls hl => ?_)
              refine lv_goto (tgt := 28) hx hb dX4_walk_72 (by decide) ?_
              exact ih28 (y3_28 + 1) (y2_28 + 1) q36 f38 _ _ (hq37.trans hwq_28) (gap_step c31 hμ28) hR hB _ hl
  exact lp28 _ 0 0 (va_up q10 0 0) f12 _ _ (hq11.trans (hq5.trans rfl)) (Nat.lt_succ_self _) hR hB _ hl
noncomputable def D_X4_countFilledRows_20 (r : Nat → Int32) (q : Nat → Int32) (f : Nat → Nat → Int64) (lb4 : Int32 → Int32 → Int32) (y2_4 : Int32) (y1_4 : Int32) (nn : Nat) : Int32 → Int32 → Int32 := @Nat.rec (fun _ => Int32 → Int32 → Int32) (fun _ _ => default) (fun _ lb20 (y4_20 : Int32) (y3_20 : Int32) => (if (r (2 * 6 + 1)) ≤ y4_20 then (if y3_20 = 0 then (lb4 (y2_4 + 1) (y1_4 + 0)) else (lb4 (y2_4 + 1) (y1_4 + 1))) else (if y3_20 = 0 then bnd1 (D_X3_get r q f 6 y2_4 y4_20) (fun (x101 : Int64) => (if (lg_cmp x101 0) = 0 then (lb20 (y4_20 + 1) 0) else (lb20 (y4_20 + 1) 1))) else (lb20 (y4_20 + 1) 1)))) nn
theorem D_X4_countFilledRows_20_s {r : Nat → Int32} {q : Nat → Int32} {f : Nat → Nat → Int64} {lb4 : Int32 → Int32 → Int32} {y2_4 : Int32} {y1_4 : Int32} {nn : Nat} {y4_20 : Int32} {y3_20 : Int32} : D_X4_countFilledRows_20 r q f lb4 y2_4 y1_4 (nn + 1) y4_20 y3_20 = (if (r (2 * 6 + 1)) ≤ y4_20 then (if y3_20 = 0 then (lb4 (y2_4 + 1) (y1_4 + 0)) else (lb4 (y2_4 + 1) (y1_4 + 1))) else (if y3_20 = 0 then bnd1 (D_X3_get r q f 6 y2_4 y4_20) (fun (x101 : Int64) => (if (lg_cmp x101 0) = 0 then ((D_X4_countFilledRows_20 r q f lb4 y2_4 y1_4 nn) (y4_20 + 1) 0) else ((D_X4_countFilledRows_20 r q f lb4 y2_4 y1_4 nn) (y4_20 + 1) 1))) else ((D_X4_countFilledRows_20 r q f lb4 y2_4 y1_4 nn) (y4_20 + 1) 1))) := rfl
noncomputable def D_X4_countFilledRows_4 (r : Nat → Int32) (q : Nat → Int32) (f : Nat → Nat → Int64) (nn : Nat) : Int32 → Int32 → Int32 := @Nat.rec (fun _ => Int32 → Int32 → Int32) (fun _ _ => default) (fun _ lb4 (y2_4 : Int32) (y1_4 : Int32) => (if (r (2 * 6)) ≤ y2_4 then y1_4 else (D_X4_countFilledRows_20 r q f lb4 y2_4 y1_4 (gap (r (2 * 6 + 1)) 0 + 1) 0 0))) nn
theorem D_X4_countFilledRows_4_s {r : Nat → Int32} {q : Nat → Int32} {f : Nat → Nat → Int64} {nn : Nat} {y2_4 : Int32} {y1_4 : Int32} : D_X4_countFilledRows_4 r q f (nn + 1) y2_4 y1_4 = (if (r (2 * 6)) ≤ y2_4 then y1_4 else (D_X4_countFilledRows_20 r q f (D_X4_countFilledRows_4 r q f nn) y2_4 y1_4 (gap (r (2 * 6 + 1)) 0 + 1) 0 0)) := rfl
noncomputable def D_X4_countFilledRows (r : Nat → Int32) (q : Nat → Int32) (f : Nat → Nat → Int64) : Int32 := (D_X4_countFilledRows_4 r q f (gap (r (2 * 6)) 0 + 1) 0 0)
theorem D_X4_countFilledRows_s {r : Nat → Int32} {q : Nat → Int32} {f : Nat → Nat → Int64} : D_X4_countFilledRows r q f = (D_X4_countFilledRows_4 r q f (gap (r (2 * 6)) 0 + 1) 0 0) := rfl
set_option maxHeartbeats 4000000 in
set_option maxRecDepth 100000 in
theorem k_X4_countFilledRows (κ : Kt) (l : Launch) (a : Nat → Nat) (r q : Nat → Int32) (f : Nat → Nat → Int64)  (o_x : Int32) (hR : D_X4_countFilledRows r q f = o_x) : CM κ l yX4_countFilledRows cX4_countFilledRows 5 (some .int) 1 22 0 0 [.ref (a 2)] (cw κ a r q f) (fun o w' => o = some (.int o_x) ∧ w' = cw κ a r q f) := by
  refine CM_begin (plainFor_of_name (by decide)) (Nat.le_of_ble_eq_true rfl) ?_
  intro p e s m args below meth c A Q hX hnm hA3 hQ hB ls hl
  have hx := hX.1.1
  have hb := hX.1.2.1
  have hl : lv_has ls 5 [(0, .ref (a 2))] := hl
  replace hR := (D_X4_countFilledRows_s).symm.trans hR
  refine lv_iconst (v := 0) hx hb dX4_countFilledRows_0 (by decide) ?_
  refine lv_istore_n (lv' := [(1, .int 0), (0, .ref (a 2))]) hx hb dX4_countFilledRows_1 rfl hl (by decide) rfl (fun ls hl => ?_)
  refine lv_iconst (v := 0) hx hb dX4_countFilledRows_2 (by decide) ?_
  refine lv_istore_n (lv' := [(2, .int 0), (1, .int 0), (0, .ref (a 2))]) hx hb dX4_countFilledRows_3 rfl hl (by decide) rfl (fun ls hl => ?_)
  have lp4 : ∀ (nn4 : Nat) (y2_4 : Int32) (y1_4 : Int32) (H : Heap) (locs : List Loc), gap (r (2 * 6)) y2_4 < nn4 → D_X4_countFilledRows_4 r q f nn4 y2_4 y1_4 = o_x → Bd κ A s (cw κ a r q f) H locs → ∀ ls : Array Slot, lv_has ls 5 [(2, .int y2_4), (1, .int y1_4), (0, .ref (a 2))] → W p l e (Rm 1 22 0 0) s m args below meth c H locs 0 0 Q (F0 m 4 ls []) := by
    intro nn4
    induction nn4 with
    | zero => intro y2_4 y1_4 H locs hμ; exact absurd hμ (Nat.not_lt_zero _)
    | succ nn4 ih4 =>
      intro y2_4 y1_4 H locs hμ4 hR hB ls hl
      replace hR := (D_X4_countFilledRows_4_s).symm.trans hR
      refine lv_iload_n hx hb dX4_countFilledRows_4 rfl (lv_at hl 0 rfl) ?_
      refine lv_aload_n hx hb dX4_countFilledRows_5 rfl (lv_at hl 2 rfl) ?_
      refine gf hX hB cw2 rfl in4 0 (by decide) wm_1_74 rfl rfl dX4_countFilledRows_6 ?_
      refine gfN hX hB (cwG (i := 6) (by decide)) rfl in3 1 (by decide) wn_1_48 rfl rfl dX4_countFilledRows_9 ?_
      refine lv_icmp_ge (tgt := 81) hx hb dX4_countFilledRows_12 (by decide) (fun c69 => ?_) (fun c69 => ?_)
      · replace hR := ifp c69 hR
        refine lv_iload_n hx hb dX4_countFilledRows_81 rfl (lv_at hl 1 rfl) ?_
        rw [← hQ]
        exact end_i hX hB hA3 rfl rfl (by obtain rfl := hR; exact ⟨rfl, rfl⟩) (Nat.le_of_ble_eq_true rfl) (Nat.le_of_ble_eq_true rfl) dX4_countFilledRows_82
      · replace hR := ifn c69 hR
        refine lv_iconst (v := 0) hx hb dX4_countFilledRows_15 (by decide) ?_
        refine lv_istore_n (lv' := [(3, .int 0), (2, .int y2_4), (1, .int y1_4), (0, .ref (a 2))]) hx hb dX4_countFilledRows_16 rfl hl (by decide) rfl (fun ls hl => ?_)
        refine lv_iconst (v := 0) hx hb dX4_countFilledRows_17 (by decide) ?_
        refine lv_istore (lv' := [(4, .int 0), (3, .int 0), (2, .int y2_4), (1, .int y1_4), (0, .ref (a 2))]) hx hb dX4_countFilledRows_18 hl (by decide) rfl (fun ls hl => ?_)
        have lp20 : ∀ (nn20 : Nat) (y4_20 : Int32) (y3_20 : Int32) (H : Heap) (locs : List Loc), gap (r (2 * 6 + 1)) y4_20 < nn20 → D_X4_countFilledRows_20 r q f (D_X4_countFilledRows_4 r q f nn4) y2_4 y1_4 nn20 y4_20 y3_20 = o_x → Bd κ A s (cw κ a r q f) H locs → ∀ ls : Array Slot, lv_has ls 5 [(4, .int y4_20), (3, .int y3_20), (2, .int y2_4), (1, .int y1_4), (0, .ref (a 2))] → W p l e (Rm 1 22 0 0) s m args below meth c H locs 0 0 Q (F0 m 20 ls []) := by
          intro nn20
          induction nn20 with
          | zero => intro y4_20 y3_20 H locs hμ; exact absurd hμ (Nat.not_lt_zero _)
          | succ nn20 ih20 =>
            intro y4_20 y3_20 H locs hμ20 hR hB ls hl
            replace hR := (D_X4_countFilledRows_20_s).symm.trans hR
            refine lv_iload hx hb dX4_countFilledRows_20 (lv_at hl 0 rfl) ?_
            refine lv_aload_n hx hb dX4_countFilledRows_22 rfl (lv_at hl 4 rfl) ?_
            refine gf hX hB cw2 rfl in4 0 (by decide) wm_1_74 rfl rfl dX4_countFilledRows_23 ?_
            refine gfN hX hB (cwG (i := 6) (by decide)) rfl in3 2 (by decide) wn_1_56 rfl rfl dX4_countFilledRows_26 ?_
            refine lv_icmp_ge (tgt := 63) hx hb dX4_countFilledRows_29 (by decide) (fun c97 => ?_) (fun c97 => ?_)
            · replace hR := ifp c97 hR
              refine lv_iload_n hx hb dX4_countFilledRows_63 rfl (lv_at hl 3 rfl) ?_
              refine lv_iload_n hx hb dX4_countFilledRows_64 rfl (lv_at hl 1 rfl) ?_
              refine lv_if_eq (tgt := 72) hx hb dX4_countFilledRows_65 (by decide) (fun c98 => ?_) (fun c98 => ?_)
              · replace hR := ifp c98 hR
                refine lv_iconst (v := 0) hx hb dX4_countFilledRows_72 (by decide) ?_
                refine lv_iadd hx hb dX4_countFilledRows_73 ?_
                refine lv_istore_n (lv' := [(1, .int (y1_4 + 0)), (4, .int y4_20), (3, .int y3_20), (2, .int y2_4), (0, .ref (a 2))]) hx hb dX4_countFilledRows_74 rfl hl (by decide) rfl (fun ls hl => ?_)
                refine lv_iinc (v := y2_4 + 1) (lv' := [(2, .int (y2_4 + 1)), (1, .int (y1_4 + 0)), (4, .int y4_20), (3, .int y3_20), (0, .ref (a 2))]) hx hb dX4_countFilledRows_75 hl (k := 3) rfl rfl (by decide) rfl (fun ls hl => ?_)
                refine lv_goto (tgt := 4) hx hb dX4_countFilledRows_78 (by decide) ?_
                exact ih4 (y2_4 + 1) (y1_4 + 0) _ _  (gap_step c69 hμ4) hR hB _ (lv_sub hl [0, 1, 4] rfl)
              · replace hR := ifn c98 hR
                refine lv_iconst (v := 1) hx hb dX4_countFilledRows_68 (by decide) ?_
                refine lv_goto (tgt := 73) hx hb dX4_countFilledRows_69 (by decide) ?_
                refine lv_iadd hx hb dX4_countFilledRows_73 ?_
                refine lv_istore_n (lv' := [(1, .int (y1_4 + 1)), (4, .int y4_20), (3, .int y3_20), (2, .int y2_4), (0, .ref (a 2))]) hx hb dX4_countFilledRows_74 rfl hl (by decide) rfl (fun ls hl => ?_)
                refine lv_iinc (v := y2_4 + 1) (lv' := [(2, .int (y2_4 + 1)), (1, .int (y1_4 + 1)), (4, .int y4_20), (3, .int y3_20), (0, .ref (a 2))]) hx hb dX4_countFilledRows_75 hl (k := 3) rfl rfl (by decide) rfl (fun ls hl => ?_)
                refine lv_goto (tgt := 4) hx hb dX4_countFilledRows_78 (by decide) ?_
                exact ih4 (y2_4 + 1) (y1_4 + 1) _ _  (gap_step c69 hμ4) hR hB _ (lv_sub hl [0, 1, 4] rfl)
            · replace hR := ifn c97 hR
              refine lv_iload_n hx hb dX4_countFilledRows_32 rfl (lv_at hl 1 rfl) ?_
              refine lv_if_ne (tgt := 51) hx hb dX4_countFilledRows_33 (by decide) (fun c99 => ?_) (fun c99 => ?_)
              · replace hR := ifn c99 hR
                refine lv_iconst (v := 1) hx hb dX4_countFilledRows_51 (by decide) ?_
                refine lv_goto (tgt := 56) hx hb dX4_countFilledRows_52 (by decide) ?_
                refine lv_istore_n (lv' := [(3, .int 1), (4, .int y4_20), (2, .int y2_4), (1, .int y1_4), (0, .ref (a 2))]) hx hb dX4_countFilledRows_56 rfl hl (by decide) rfl (fun ls hl => ?_)
                refine lv_iinc (v := y4_20 + 1) (lv' := [(4, .int (y4_20 + 1)), (3, .int 1), (2, .int y2_4), (1, .int y1_4), (0, .ref (a 2))]) hx hb dX4_countFilledRows_57 hl (k := 1) rfl rfl (by decide) rfl (fun ls hl => ?_)
                refine lv_goto (tgt := 20) hx hb dX4_countFilledRows_60 (by decide) ?_
                exact ih20 (y4_20 + 1) 1 _ _  (gap_step c97 hμ20) hR hB _ hl
              · replace hR := ifp c99 hR
                refine lv_aload_n hx hb dX4_countFilledRows_36 rfl (lv_at hl 4 rfl) ?_
                refine gf hX hB cw2 rfl in4 0 (by decide) wm_1_74 rfl rfl dX4_countFilledRows_37 ?_
                refine lv_iload_n hx hb dX4_countFilledRows_40 rfl (lv_at hl 2 rfl) ?_
                refine lv_iload hx hb dX4_countFilledRows_41 (lv_at hl 0 rfl) ?_
                obtain ⟨x101, hd100⟩ := ex1 (D_X3_get r q f 6 y2_4 y4_20)
                replace hR := bnd1_use hd100 hR
                refine call_V (n := 2) (As := [.int y2_4, .int y4_20]) (rest := []) hX hB (k_X3_get κ l a r q f 6 y2_4 y4_20 (by decide) x101 hd100) ⟨rfl, by decide, by decide, by decide +kernel⟩ wm_1_235 wm_1_187 wm_1_188 wm_1_2 wm_1_189 ⟨Nat.le_of_ble_eq_true rfl, Nat.le_of_ble_eq_true rfl⟩ ⟨Nat.le_of_ble_eq_true rfl, Nat.le_of_ble_eq_true rfl⟩ (cwG (i := 6) (by decide)) rfl rfl rfl hl.1 rfl (Nat.le_of_ble_eq_true rfl) dX4_countFilledRows_43 (fun o w' H locs hp hB => ?_)
                obtain ⟨rfl, rfl⟩ := hp
                refine W.eq (g2 := F0 m 46 ls [.long x101]) rfl ?_
                refine lv_lconst (v := 0) hx hb dX4_countFilledRows_46 (by decide) ?_
                refine W.lcmp hx hb dX4_countFilledRows_47 ?_
                refine lv_if_eq (tgt := 55) hx hb dX4_countFilledRows_48 (by decide) (fun c102 => ?_) (fun c102 => ?_)
                · replace hR := ifp c102 hR
                  refine lv_iconst (v := 0) hx hb dX4_countFilledRows_55 (by decide) ?_
                  refine lv_istore_n (lv' := [(3, .int 0), (4, .int y4_20), (2, .int y2_4), (1, .int y1_4), (0, .ref (a 2))]) hx hb dX4_countFilledRows_56 rfl hl (by decide) rfl (fun ls hl => ?_)
                  refine lv_iinc (v := y4_20 + 1) (lv' := [(4, .int (y4_20 + 1)), (3, .int 0), (2, .int y2_4), (1, .int y1_4), (0, .ref (a 2))]) hx hb dX4_countFilledRows_57 hl (k := 1) rfl rfl (by decide) rfl (fun ls hl => ?_)
                  refine lv_goto (tgt := 20) hx hb dX4_countFilledRows_60 (by decide) ?_
                  exact ih20 (y4_20 + 1) 0 _ _  (gap_step c97 hμ20) hR hB _ hl
                · replace hR := ifn c102 hR
                  refine lv_iconst (v := 1) hx hb dX4_countFilledRows_51 (by decide) ?_
                  refine lv_goto (tgt := 56) hx hb dX4_countFilledRows_52 (by decide) ?_
                  refine lv_istore_n (lv' := [(3, .int 1), (4, .int y4_20), (2, .int y2_4), (1, .int y1_4), (0, .ref (a 2))]) hx hb dX4_countFilledRows_56 rfl hl (by decide) rfl (fun ls hl => ?_)
                  refine lv_iinc (v := y4_20 + 1) (lv' := [(4, .int (y4_20 + 1)), (3, .int 1), (2, .int y2_4), (1, .int y1_4), (0, .ref (a 2))]) hx hb dX4_countFilledRows_57 hl (k := 1) rfl rfl (by decide) rfl (fun ls hl => ?_)
                  refine lv_goto (tgt := 20) hx hb dX4_countFilledRows_60 (by decide) ?_
                  exact ih20 (y4_20 + 1) 1 _ _  (gap_step c97 hμ20) hR hB _ hl
        exact lp20 _ 0 0 _ _  (Nat.lt_succ_self _) hR hB _ hl
  exact lp4 _ 0 0 _ _  (Nat.lt_succ_self _) hR hB _ hl
noncomputable def D_X4_findDeterminant_10 (r : Nat → Int32) (q : Nat → Int32) (f : Nat → Nat → Int64) (nn : Nat) : Int32 → Int64 → Int64 := @Nat.rec (fun _ => Int32 → Int64 → Int64) (fun _ _ => default) (fun _ lb10 (y3_10 : Int32) (y1_10 : Int64) => (if (r (2 * 6)) ≤ y3_10 then y1_10 else bnd1 (D_X3_get r q f 6 y3_10 y3_10) (fun (x11 : Int64) => (lb10 (y3_10 + 1) (y1_10 * x11))))) nn
theorem D_X4_findDeterminant_10_s {r : Nat → Int32} {q : Nat → Int32} {f : Nat → Nat → Int64} {nn : Nat} {y3_10 : Int32} {y1_10 : Int64} : D_X4_findDeterminant_10 r q f (nn + 1) y3_10 y1_10 = (if (r (2 * 6)) ≤ y3_10 then y1_10 else bnd1 (D_X3_get r q f 6 y3_10 y3_10) (fun (x11 : Int64) => ((D_X4_findDeterminant_10 r q f nn) (y3_10 + 1) (y1_10 * x11)))) := rfl
noncomputable def D_X4_findDeterminant (r : Nat → Int32) (q : Nat → Int32) (f : Nat → Nat → Int64) : Int64 := bnd1 (D_X0_byFirstRow r q f 7) (fun (x2 : Int64) => (D_X4_findDeterminant_10 r q f (gap (r (2 * 6)) 0 + 1) 0 x2))
theorem D_X4_findDeterminant_s {r : Nat → Int32} {q : Nat → Int32} {f : Nat → Nat → Int64} : D_X4_findDeterminant r q f = bnd1 (D_X0_byFirstRow r q f 7) (fun (x2 : Int64) => (D_X4_findDeterminant_10 r q f (gap (r (2 * 6)) 0 + 1) 0 x2)) := rfl
set_option maxHeartbeats 4000000 in
set_option maxRecDepth 100000 in
theorem k_X4_findDeterminant (κ : Kt) (l : Launch) (a : Nat → Nat) (r q : Nat → Int32) (f : Nat → Nat → Int64)  (o_x : Int64) (hR : D_X4_findDeterminant r q f = o_x) : CM κ l yX4_findDeterminant cX4_findDeterminant 4 (some .long) 6 165 0 0 [.ref (a 2)] (cw κ a r q f) (fun o w' => o = some (.long o_x) ∧ w' = cw κ a r q f) := by
  refine CM_begin (plainFor_of_name (by decide)) (Nat.le_of_ble_eq_true rfl) ?_
  intro p e s m args below meth c A Q hX hnm hA3 hQ hB ls hl
  have hx := hX.1.1
  have hb := hX.1.2.1
  have hl : lv_has ls 4 [(0, .ref (a 2))] := hl
  replace hR := (D_X4_findDeterminant_s).symm.trans hR
  refine lv_aload_n hx hb dX4_findDeterminant_0 rfl (lv_at hl 0 rfl) ?_
  refine gf hX hB cw2 rfl in4 1 (by decide) wm_1_76 rfl rfl dX4_findDeterminant_1 ?_
  obtain ⟨x2, hd1⟩ := ex1 (D_X0_byFirstRow r q f 7)
  replace hR := bnd1_use hd1 hR
  refine call_S (n := 1) (As := [.ref (a 20)]) (rest := []) hX hB (k_X0_byFirstRow κ l a r q f 7 (by decide) x2 hd1) ⟨by decide, by decide, by decide +kernel⟩ wm_2_71 wm_1_181 wm_1_29 wm_1_182 ⟨Nat.le_of_ble_eq_true rfl, Nat.le_of_ble_eq_true rfl⟩ ⟨Nat.le_of_ble_eq_true rfl, Nat.le_of_ble_eq_true rfl⟩ rfl hl.1 rfl (Nat.le_of_ble_eq_true rfl) dX4_findDeterminant_4 (fun o w' H locs hp hB => ?_)
  obtain ⟨rfl, rfl⟩ := hp
  refine W.eq (g2 := F0 m 7 ls [.long x2]) rfl ?_
  refine lv_lstore_n (lv' := [(1, .long x2), (0, .ref (a 2))]) hx hb dX4_findDeterminant_7 rfl hl (by decide) rfl (fun ls hl => ?_)
  refine lv_iconst (v := 0) hx hb dX4_findDeterminant_8 (by decide) ?_
  refine lv_istore_n (lv' := [(3, .int 0), (1, .long x2), (0, .ref (a 2))]) hx hb dX4_findDeterminant_9 rfl hl (by decide) rfl (fun ls hl => ?_)
  have lp10 : ∀ (nn10 : Nat) (y3_10 : Int32) (y1_10 : Int64) (H : Heap) (locs : List Loc), gap (r (2 * 6)) y3_10 < nn10 → D_X4_findDeterminant_10 r q f nn10 y3_10 y1_10 = o_x → Bd κ A s (cw κ a r q f) H locs → ∀ ls : Array Slot, lv_has ls 4 [(3, .int y3_10), (1, .long y1_10), (0, .ref (a 2))] → W p l e (Rm 6 165 0 0) s m args below meth c H locs 0 0 Q (F0 m 10 ls []) := by
    intro nn10
    induction nn10 with
    | zero => intro y3_10 y1_10 H locs hμ; exact absurd hμ (Nat.not_lt_zero _)
    | succ nn10 ih10 =>
      intro y3_10 y1_10 H locs hμ10 hR hB ls hl
      replace hR := (D_X4_findDeterminant_10_s).symm.trans hR
      refine lv_iload_n hx hb dX4_findDeterminant_10 rfl (lv_at hl 0 rfl) ?_
      refine lv_aload_n hx hb dX4_findDeterminant_11 rfl (lv_at hl 2 rfl) ?_
      refine gf hX hB cw2 rfl in4 0 (by decide) wm_1_74 rfl rfl dX4_findDeterminant_12 ?_
      refine gfN hX hB (cwG (i := 6) (by decide)) rfl in3 1 (by decide) wn_1_48 rfl rfl dX4_findDeterminant_15 ?_
      refine lv_icmp_ge (tgt := 39) hx hb dX4_findDeterminant_18 (by decide) (fun c9 => ?_) (fun c9 => ?_)
      · replace hR := ifp c9 hR
        refine lv_lload_n hx hb dX4_findDeterminant_39 rfl (lv_at hl 1 rfl) ?_
        rw [← hQ]
        exact end_l hX hB hA3 rfl (by obtain rfl := hR; exact ⟨rfl, rfl⟩) (Nat.le_of_ble_eq_true rfl) (Nat.le_of_ble_eq_true rfl) dX4_findDeterminant_40
      · replace hR := ifn c9 hR
        refine lv_lload_n hx hb dX4_findDeterminant_21 rfl (lv_at hl 1 rfl) ?_
        refine lv_aload_n hx hb dX4_findDeterminant_22 rfl (lv_at hl 2 rfl) ?_
        refine gf hX hB cw2 rfl in4 0 (by decide) wm_1_74 rfl rfl dX4_findDeterminant_23 ?_
        refine lv_iload_n hx hb dX4_findDeterminant_26 rfl (lv_at hl 0 rfl) ?_
        refine lv_iload_n hx hb dX4_findDeterminant_27 rfl (lv_at hl 0 rfl) ?_
        obtain ⟨x11, hd10⟩ := ex1 (D_X3_get r q f 6 y3_10 y3_10)
        replace hR := bnd1_use hd10 hR
        refine call_V (n := 2) (As := [.int y3_10, .int y3_10]) (rest := [.long y1_10]) hX hB (k_X3_get κ l a r q f 6 y3_10 y3_10 (by decide) x11 hd10) ⟨rfl, by decide, by decide, by decide +kernel⟩ wm_1_235 wm_1_187 wm_1_188 wm_1_2 wm_1_189 ⟨Nat.le_of_ble_eq_true rfl, Nat.le_of_ble_eq_true rfl⟩ ⟨Nat.le_of_ble_eq_true rfl, Nat.le_of_ble_eq_true rfl⟩ (cwG (i := 6) (by decide)) rfl rfl rfl hl.1 rfl (Nat.le_of_ble_eq_true rfl) dX4_findDeterminant_28 (fun o w' H locs hp hB => ?_)
        obtain ⟨rfl, rfl⟩ := hp
        refine W.eq (g2 := F0 m 31 ls [.long x11, .long y1_10]) rfl ?_
        refine lv_lmul hx hb dX4_findDeterminant_31 ?_
        refine lv_lstore_n (lv' := [(1, .long (y1_10 * x11)), (3, .int y3_10), (0, .ref (a 2))]) hx hb dX4_findDeterminant_32 rfl hl (by decide) rfl (fun ls hl => ?_)
        refine lv_iinc (v := y3_10 + 1) (lv' := [(3, .int (y3_10 + 1)), (1, .long (y1_10 * x11)), (0, .ref (a 2))]) hx hb dX4_findDeterminant_33 hl (k := 1) rfl rfl (by decide) rfl (fun ls hl => ?_)
        refine lv_goto (tgt := 10) hx hb dX4_findDeterminant_36 (by decide) ?_
        exact ih10 (y3_10 + 1) (y1_10 * x11) _ _  (gap_step c9 hμ10) hR hB _ hl
  exact lp10 _ 0 x2 _ _  (Nat.lt_succ_self _) hR hB _ hl
