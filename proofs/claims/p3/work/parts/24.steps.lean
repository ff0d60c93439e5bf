noncomputable def D_X1_findLeastPlace_22 (r : Nat → Int32) (q : Nat → Int32) (f : Nat → Nat → Int64) (lb7 : Int32 → Int64 → Int32 → Int32) (y5_7 : Int32) (nn : Nat) : Int32 → Int64 → Int32 → Int32 := @Nat.rec (fun _ => Int32 → Int64 → Int32 → Int32) (fun _ _ _ => default) (fun _ lb22 (y6_22 : Int32) (y3_22 : Int64) (y2_22 : Int32) => (if (r (2 * 8 + 1)) ≤ y6_22 then (lb7 (y5_7 + 1) y3_22 y2_22) else bnd1 (D_X3_get r q f 8 y5_7 y6_22) (fun (x62 : Int64) => nm ((if 0 < x62 then x62 else -x62) : Int64) (fun (t63 : Int64) => (if (lg_cmp t63 0) = 0 then (lb22 (y6_22 + 1) y3_22 y2_22) else (if y2_22 < 0 then (lb22 (y6_22 + 1) t63 ((y5_7 * 5) + y6_22)) else (if 0 ≤ (lg_cmp t63 y3_22) then (lb22 (y6_22 + 1) y3_22 y2_22) else (lb22 (y6_22 + 1) t63 ((y5_7 * 5) + y6_22))))))))) nn
theorem D_X1_findLeastPlace_22_s {r : Nat → Int32} {q : Nat → Int32} {f : Nat → Nat → Int64} {lb7 : Int32 → Int64 → Int32 → Int32} {y5_7 : Int32} {nn : Nat} {y6_22 : Int32} {y3_22 : Int64} {y2_22 : Int32} : D_X1_findLeastPlace_22 r q f lb7 y5_7 (nn + 1) y6_22 y3_22 y2_22 = (if (r (2 * 8 + 1)) ≤ y6_22 then (lb7 (y5_7 + 1) y3_22 y2_22) else bnd1 (D_X3_get r q f 8 y5_7 y6_22) (fun (x62 : Int64) => nm ((if 0 < x62 then x62 else -x62) : Int64) (fun (t63 : Int64) => (if (lg_cmp t63 0) = 0 then ((D_X1_findLeastPlace_22 r q f lb7 y5_7 nn) (y6_22 + 1) y3_22 y2_22) else (if y2_22 < 0 then ((D_X1_findLeastPlace_22 r q f lb7 y5_7 nn) (y6_22 + 1) t63 ((y5_7 * 5) + y6_22)) else (if 0 ≤ (lg_cmp t63 y3_22) then ((D_X1_findLeastPlace_22 r q f lb7 y5_7 nn) (y6_22 + 1) y3_22 y2_22) else ((D_X1_findLeastPlace_22 r q f lb7 y5_7 nn) (y6_22 + 1) t63 ((y5_7 * 5) + y6_22)))))))) := rfl
noncomputable def D_X1_findLeastPlace_7 (r : Nat → Int32) (q : Nat → Int32) (f : Nat → Nat → Int64) (p0 : Int32) (nn : Nat) : Int32 → Int64 → Int32 → Int32 := @Nat.rec (fun _ => Int32 → Int64 → Int32 → Int32) (fun _ _ _ => default) (fun _ lb7 (y5_7 : Int32) (y3_7 : Int64) (y2_7 : Int32) => (if (r (2 * 8)) ≤ y5_7 then y2_7 else (D_X1_findLeastPlace_22 r q f lb7 y5_7 (gap (r (2 * 8 + 1)) p0 + 1) p0 y3_7 y2_7))) nn
theorem D_X1_findLeastPlace_7_s {r : Nat → Int32} {q : Nat → Int32} {f : Nat → Nat → Int64} {p0 : Int32} {nn : Nat} {y5_7 : Int32} {y3_7 : Int64} {y2_7 : Int32} : D_X1_findLeastPlace_7 r q f p0 (nn + 1) y5_7 y3_7 y2_7 = (if (r (2 * 8)) ≤ y5_7 then y2_7 else (D_X1_findLeastPlace_22 r q f (D_X1_findLeastPlace_7 r q f p0 nn) y5_7 (gap (r (2 * 8 + 1)) p0 + 1) p0 y3_7 y2_7)) := rfl
noncomputable def D_X1_findLeastPlace (r : Nat → Int32) (q : Nat → Int32) (f : Nat → Nat → Int64) (p0 : Int32) : Int32 := (D_X1_findLeastPlace_7 r q f p0 (gap (r (2 * 8)) p0 + 1) p0 0 (-1))
theorem D_X1_findLeastPlace_s {r : Nat → Int32} {q : Nat → Int32} {f : Nat → Nat → Int64} {p0 : Int32} : D_X1_findLeastPlace r q f p0 = (D_X1_findLeastPlace_7 r q f p0 (gap (r (2 * 8)) p0 + 1) p0 0 (-1)) := rfl
set_option maxHeartbeats 4000000 in
set_option maxRecDepth 100000 in
theorem k_X1_findLeastPlace (κ : Kt) (l : Launch) (a : Nat → Nat) (r q : Nat → Int32) (f : Nat → Nat → Int64) (p0 : Int32)  (o_x : Int32) (hR : D_X1_findLeastPlace r q f p0 = o_x) : CM κ l yX1_findLeastPlace cX1_findLeastPlace 9 (some .int) 1 22 0 0 [.ref (a 3), .int p0] (cw κ a r q f) (fun o w' => o = some (.int o_x) ∧ w' = cw κ a r q f) := by
  refine CM_begin (plainFor_of_name (by decide)) (Nat.le_of_ble_eq_true rfl) ?_
  intro p e s m args below meth c A Q hX hnm hA3 hQ hB ls hl
  have hx := hX.1.1
  have hb := hX.1.2.1
  have hl : lv_has ls 9 [(0, .ref (a 3)), (1, .int p0)] := hl
  replace hR := (D_X1_findLeastPlace_s).symm.trans hR
  refine lv_iconst (v := (-1)) hx hb dX1_findLeastPlace_0 (by decide) ?_
  refine lv_istore_n (lv' := [(2, .int (-1)), (0, .ref (a 3)), (1, .int p0)]) hx hb dX1_findLeastPlace_1 rfl hl (by decide) rfl (fun ls hl => ?_)
  refine lv_lconst (v := 0) hx hb dX1_findLeastPlace_2 (by decide) ?_
  refine lv_lstore_n (lv' := [(3, .long 0), (2, .int (-1)), (0, .ref (a 3)), (1, .int p0)]) hx hb dX1_findLeastPlace_3 rfl hl (by decide) rfl (fun ls hl => ?_)
  refine lv_iload_n hx hb dX1_findLeastPlace_4 rfl (lv_at hl 3 rfl) ?_
  refine lv_istore (lv' := [(5, .int p0), (3, .long 0), (2, .int (-1)), (0, .ref (a 3)), (1, .int p0)]) hx hb dX1_findLeastPlace_5 hl (by decide) rfl (fun ls hl => ?_)
  have lp7 : ∀ (nn7 : Nat) (y5_7 : Int32) (y3_7 : Int64) (y2_7 : Int32) (H : Heap) (locs : List Loc), gap (r (2 * 8)) y5_7 < nn7 → D_X1_findLeastPlace_7 r q f p0 nn7 y5_7 y3_7 y2_7 = o_x → Bd κ A s (cw κ a r q f) H locs → ∀ ls : Array Slot, lv_has ls 9 [(5, .int y5_7), (3, .long y3_7), (2, .int y2_7), (0, .ref (a 3)), (1, .int p0)] → W p l e (Rm 1 22 0 0) s m args below meth c H locs 0 0 Q (F0 m 7 ls []) := by
    intro nn7
    induction nn7 with
    | zero => intro y5_7 y3_7 y2_7 H locs hμ; exact absurd hμ (Nat.not_lt_zero _)
    | succ nn7 ih7 =>
      intro y5_7 y3_7 y2_7 H locs hμ7 hR hB ls hl
      replace hR := (D_X1_findLeastPlace_7_s).symm.trans hR
      refine lv_iload hx hb dX1_findLeastPlace_7 (lv_at hl 0 rfl) ?_
      refine lv_aload_n hx hb dX1_findLeastPlace_9 rfl (lv_at hl 3 rfl) ?_
      refine gf hX hB cw3 rfl in1 0 (by decide) wm_1_95 rfl rfl dX1_findLeastPlace_10 ?_
      refine gfN hX hB (cwG (i := 8) (by decide)) rfl in3 1 (by decide) wn_1_49 rfl rfl dX1_findLeastPlace_13 ?_
      refine lv_icmp_ge (tgt := 91) hx hb dX1_findLeastPlace_16 (by decide) (fun c45 => ?_) (fun c45 => ?_)
      · replace hR := ifp c45 hR
        refine lv_iload_n hx hb dX1_findLeastPlace_91 rfl (lv_at hl 2 rfl) ?_
        rw [← hQ]
        exact end_i hX hB hA3 rfl rfl (by obtain rfl := hR; exact ⟨rfl, rfl⟩) (Nat.le_of_ble_eq_true rfl) (Nat.le_of_ble_eq_true rfl) dX1_findLeastPlace_92
      · replace hR := ifn c45 hR
        refine lv_iload_n hx hb dX1_findLeastPlace_19 rfl (lv_at hl 4 rfl) ?_
        refine lv_istore (lv' := [(6, .int p0), (5, .int y5_7), (3, .long y3_7), (2, .int y2_7), (0, .ref (a 3)), (1, .int p0)]) hx hb dX1_findLeastPlace_20 hl (by decide) rfl (fun ls hl => ?_)
        have lp22 : ∀ (nn22 : Nat) (y6_22 : Int32) (y3_22 : Int64) (y2_22 : Int32) (H : Heap) (locs : List Loc), gap (r (2 * 8 + 1)) y6_22 < nn22 → D_X1_findLeastPlace_22 r q f (D_X1_findLeastPlace_7 r q f p0 nn7) y5_7 nn22 y6_22 y3_22 y2_22 = o_x → Bd κ A s (cw κ a r q f) H locs → ∀ ls : Array Slot, lv_has ls 9 [(6, .int y6_22), (5, .int y5_7), (3, .long y3_22), (2, .int y2_22), (0, .ref (a 3)), (1, .int p0)] → W p l e (Rm 1 22 0 0) s m args below meth c H locs 0 0 Q (F0 m 22 ls []) := by
          intro nn22
          induction nn22 with
          | zero => intro y6_22 y3_22 y2_22 H locs hμ; exact absurd hμ (Nat.not_lt_zero _)
          | succ nn22 ih22 =>
            intro y6_22 y3_22 y2_22 H locs hμ22 hR hB ls hl
            replace hR := (D_X1_findLeastPlace_22_s).symm.trans hR
            refine lv_iload hx hb dX1_findLeastPlace_22 (lv_at hl 0 rfl) ?_
            refine lv_aload_n hx hb dX1_findLeastPlace_24 rfl (lv_at hl 4 rfl) ?_
            refine gf hX hB cw3 rfl in1 0 (by decide) wm_1_95 rfl rfl dX1_findLeastPlace_25 ?_
            refine gfN hX hB (cwG (i := 8) (by decide)) rfl in3 2 (by decide) wn_1_54 rfl rfl dX1_findLeastPlace_28 ?_
            refine lv_icmp_ge (tgt := 85) hx hb dX1_findLeastPlace_31 (by decide) (fun c60 => ?_) (fun c60 => ?_)
            · replace hR := ifp c60 hR
              refine lv_iinc (v := y5_7 + 1) (lv' := [(5, .int (y5_7 + 1)), (6, .int y6_22), (3, .long y3_22), (2, .int y2_22), (0, .ref (a 3)), (1, .int p0)]) hx hb dX1_findLeastPlace_85 hl (k := 1) rfl rfl (by decide) rfl (fun ls hl => ?_)
              refine lv_goto (tgt := 7) hx hb dX1_findLeastPlace_88 (by decide) ?_
              exact ih7 (y5_7 + 1) y3_22 y2_22 _ _  (gap_step c45 hμ7) hR hB _ (lv_sub hl [0, 2, 3, 4, 5] rfl)
            · replace hR := ifn c60 hR
              refine lv_aload_n hx hb dX1_findLeastPlace_34 rfl (lv_at hl 4 rfl) ?_
              refine gf hX hB cw3 rfl in1 0 (by decide) wm_1_95 rfl rfl dX1_findLeastPlace_35 ?_
              refine lv_iload hx hb dX1_findLeastPlace_38 (lv_at hl 1 rfl) ?_
              refine lv_iload hx hb dX1_findLeastPlace_40 (lv_at hl 0 rfl) ?_
              obtain ⟨x62, hd61⟩ := ex1 (D_X3_get r q f 8 y5_7 y6_22)
              replace hR := bnd1_use hd61 hR
              refine call_V (n := 2) (As := [.int y5_7, .int y6_22]) (rest := []) hX hB (k_X3_get κ l a r q f 8 y5_7 y6_22 (by decide) x62 hd61) ⟨rfl, by decide, by decide, by decide +kernel⟩ wm_2_87 wm_1_187 wm_1_188 wm_1_2 wm_1_189 ⟨Nat.le_of_ble_eq_true rfl, Nat.le_of_ble_eq_true rfl⟩ ⟨Nat.le_of_ble_eq_true rfl, Nat.le_of_ble_eq_true rfl⟩ (cwG (i := 8) (by decide)) rfl rfl rfl hl.1 rfl (Nat.le_of_ble_eq_true rfl) dX1_findLeastPlace_42 (fun o w' H locs hp hB => ?_)
              obtain ⟨rfl, rfl⟩ := hp
              refine W.eq (g2 := F0 m 45 ls [.long x62]) rfl ?_
              refine va_mabs_long hx hb (by rw [hX.1.2.2.1]; exact hl.1.symm) hX.1.2.2.2.1 (hX.1.2.2.2.2 _ wm_2_88) (hX.1.2.2.2.2 _ wm_1_237) (hX.1.2.2.2.2 _ wm_1_14) (hX.1.2.2.2.2 _ wm_1_238) (Nat.le_of_ble_eq_true rfl) (Nat.le_of_ble_eq_true rfl) (Nat.le_of_ble_eq_true rfl) (Nat.le_of_ble_eq_true rfl) dX1_findLeastPlace_45 ?_
              refine lv_topl (fun t63 et63 => ?_)
              replace hR := nm_use et63 hR
              refine lv_lstore (lv' := [(7, .long t63), (6, .int y6_22), (5, .int y5_7), (3, .long y3_22), (2, .int y2_22), (0, .ref (a 3)), (1, .int p0)]) hx hb dX1_findLeastPlace_48 hl (by decide) rfl (fun ls hl => ?_)
              refine lv_lload hx hb dX1_findLeastPlace_50 (lv_at hl 0 rfl) ?_
              refine lv_lconst (v := 0) hx hb dX1_findLeastPlace_52 (by decide) ?_
              refine W.lcmp hx hb dX1_findLeastPlace_53 ?_
              refine lv_if_eq (tgt := 79) hx hb dX1_findLeastPlace_54 (by decide) (fun c64 => ?_) (fun c64 => ?_)
              · replace hR := ifp c64 hR
                refine lv_iinc (v := y6_22 + 1) (lv' := [(6, .int (y6_22 + 1)), (7, .long t63), (5, .int y5_7), (3, .long y3_22), (2, .int y2_22), (0, .ref (a 3)), (1, .int p0)]) hx hb dX1_findLeastPlace_79 hl (k := 1) rfl rfl (by decide) rfl (fun ls hl => ?_)
                refine lv_goto (tgt := 22) hx hb dX1_findLeastPlace_82 (by decide) ?_
                exact ih22 (y6_22 + 1) y3_22 y2_22 _ _  (gap_step c60 hμ22) hR hB _ (lv_sub hl [0, 2, 3, 4, 5, 6] rfl)
              · replace hR := ifn c64 hR
                refine lv_iload_n hx hb dX1_findLeastPlace_57 rfl (lv_at hl 4 rfl) ?_
                refine lv_if_lt (tgt := 68) hx hb dX1_findLeastPlace_58 (by decide) (fun c65 => ?_) (fun c65 => ?_)
                · replace hR := ifp c65 hR
                  refine lv_iload hx hb dX1_findLeastPlace_68 (lv_at hl 2 rfl) ?_
                  refine lv_iconst (v := 5) hx hb dX1_findLeastPlace_70 (by decide) ?_
                  refine lv_imul hx hb dX1_findLeastPlace_71 ?_
                  refine lv_iload hx hb dX1_findLeastPlace_72 (lv_at hl 1 rfl) ?_
                  refine lv_iadd hx hb dX1_findLeastPlace_74 ?_
                  refine lv_istore_n (lv' := [(2, .int ((y5_7 * 5) + y6_22)), (7, .long t63), (6, .int y6_22), (5, .int y5_7), (3, .long y3_22), (0, .ref (a 3)), (1, .int p0)]) hx hb dX1_findLeastPlace_75 rfl hl (by decide) rfl (fun ls hl => ?_)
                  refine lv_lload hx hb dX1_findLeastPlace_76 (lv_at hl 1 rfl) ?_
                  refine lv_lstore_n (lv' := [(3, .long t63), (2, .int ((y5_7 * 5) + y6_22)), (7, .long t63), (6, .int y6_22), (5, .int y5_7), (0, .ref (a 3)), (1, .int p0)]) hx hb dX1_findLeastPlace_78 rfl hl (by decide) rfl (fun ls hl => ?_)
                  refine lv_iinc (v := y6_22 + 1) (lv' := [(6, .int (y6_22 + 1)), (3, .long t63), (2, .int ((y5_7 * 5) + y6_22)), (7, .long t63), (5, .int y5_7), (0, .ref (a 3)), (1, .int p0)]) hx hb dX1_findLeastPlace_79 hl (k := 3) rfl rfl (by decide) rfl (fun ls hl => ?_)
                  refine lv_goto (tgt := 22) hx hb dX1_findLeastPlace_82 (by decide) ?_
                  exact ih22 (y6_22 + 1) t63 ((y5_7 * 5) + y6_22) _ _  (gap_step c60 hμ22) hR hB _ (lv_sub hl [0, 4, 1, 2, 5, 6] rfl)
                · replace hR := ifn c65 hR
                  refine lv_lload hx hb dX1_findLeastPlace_61 (lv_at hl 0 rfl) ?_
                  refine lv_lload_n hx hb dX1_findLeastPlace_63 rfl (lv_at hl 3 rfl) ?_
                  refine W.lcmp hx hb dX1_findLeastPlace_64 ?_
                  refine lv_if_ge (tgt := 79) hx hb dX1_findLeastPlace_65 (by decide) (fun c66 => ?_) (fun c66 => ?_)
                  · replace hR := ifp c66 hR
                    refine lv_iinc (v := y6_22 + 1) (lv' := [(6, .int (y6_22 + 1)), (7, .long t63), (5, .int y5_7), (3, .long y3_22), (2, .int y2_22), (0, .ref (a 3)), (1, .int p0)]) hx hb dX1_findLeastPlace_79 hl (k := 1) rfl rfl (by decide) rfl (fun ls hl => ?_)
                    refine lv_goto (tgt := 22) hx hb dX1_findLeastPlace_82 (by decide) ?_
                    exact ih22 (y6_22 + 1) y3_22 y2_22 _ _  (gap_step c60 hμ22) hR hB _ (lv_sub hl [0, 2, 3, 4, 5, 6] rfl)
                  · replace hR := ifn c66 hR
                    refine lv_iload hx hb dX1_findLeastPlace_68 (lv_at hl 2 rfl) ?_
                    refine lv_iconst (v := 5) hx hb dX1_findLeastPlace_70 (by decide) ?_
                    refine lv_imul hx hb dX1_findLeastPlace_71 ?_
                    refine lv_iload hx hb dX1_findLeastPlace_72 (lv_at hl 1 rfl) ?_
                    refine lv_iadd hx hb dX1_findLeastPlace_74 ?_
                    refine lv_istore_n (lv' := [(2, .int ((y5_7 * 5) + y6_22)), (7, .long t63), (6, .int y6_22), (5, .int y5_7), (3, .long y3_22), (0, .ref (a 3)), (1, .int p0)]) hx hb dX1_findLeastPlace_75 rfl hl (by decide) rfl (fun ls hl => ?_)
                    refine lv_lload hx hb dX1_findLeastPlace_76 (lv_at hl 1 rfl) ?_
                    refine lv_lstore_n (lv' := [(3, .long t63), (2, .int ((y5_7 * 5) + y6_22)), (7, .long t63), (6, .int y6_22), (5, .int y5_7), (0, .ref (a 3)), (1, .int p0)]) hx hb dX1_findLeastPlace_78 rfl hl (by decide) rfl (fun ls hl => ?_)
                    refine lv_iinc (v := y6_22 + 1) (lv' := [(6, .int (y6_22 + 1)), (3, .long t63), (2, .int ((y5_7 * 5) + y6_22)), (7, .long t63), (5, .int y5_7), (0, .ref (a 3)), (1, .int p0)]) hx hb dX1_findLeastPlace_79 hl (k := 3) rfl rfl (by decide) rfl (fun ls hl => ?_)
                    refine lv_goto (tgt := 22) hx hb dX1_findLeastPlace_82 (by decide) ?_
                    exact ih22 (y6_22 + 1) t63 ((y5_7 * 5) + y6_22) _ _  (gap_step c60 hμ22) hR hB _ (lv_sub hl [0, 4, 1, 2, 5, 6] rfl)
        exact lp22 _ p0 y3_7 y2_7 _ _  (Nat.lt_succ_self _) hR hB _ hl
  exact lp7 _ p0 0 (-1) _ _  (Nat.lt_succ_self _) hR hB _ hl
noncomputable def D_X1_bring_j50 (r : Nat → Int32) (q : Nat → Int32) (p2 : Int32) (f_50 : Nat → Nat → Int64) : (Nat → Nat → Int64) := bnd1 (D_X3_get r q f_50 8 p2 p2) (fun (x12 : Int64) => (if 0 ≤ (lg_cmp x12 0) then f_50 else bnd1 (D_X3_turnLine r q f_50 8 0 p2) (fun (f15 : Nat → Nat → Int64) => bnd1 (D_X3_turnLine r q f15 9 0 p2) (fun (f17 : Nat → Nat → Int64) => f17))))
theorem D_X1_bring_j50_s {r : Nat → Int32} {q : Nat → Int32} {p2 : Int32} {f_50 : Nat → Nat → Int64} : D_X1_bring_j50 r q p2 f_50 = bnd1 (D_X3_get r q f_50 8 p2 p2) (fun (x12 : Int64) => (if 0 ≤ (lg_cmp x12 0) then f_50 else bnd1 (D_X3_turnLine r q f_50 8 0 p2) (fun (f15 : Nat → Nat → Int64) => bnd1 (D_X3_turnLine r q f15 9 0 p2) (fun (f17 : Nat → Nat → Int64) => f17)))) := rfl
noncomputable def D_X1_bring_j25 (r : Nat → Int32) (q : Nat → Int32) (p1 : Int32) (p2 : Int32) (f_25 : Nat → Nat → Int64) : (Nat → Nat → Int64) := (if p1 = p2 then (D_X1_bring_j50 r q p2 f_25) else bnd1 (D_X3_exchangeLines r q f_25 8 1 p1 p2) (fun (f20 : Nat → Nat → Int64) => bnd1 (D_X3_exchangeLines r q f20 10 1 p1 p2) (fun (f22 : Nat → Nat → Int64) => (D_X1_bring_j50 r q p2 f22))))
theorem D_X1_bring_j25_s {r : Nat → Int32} {q : Nat → Int32} {p1 : Int32} {p2 : Int32} {f_25 : Nat → Nat → Int64} : D_X1_bring_j25 r q p1 p2 f_25 = (if p1 = p2 then (D_X1_bring_j50 r q p2 f_25) else bnd1 (D_X3_exchangeLines r q f_25 8 1 p1 p2) (fun (f20 : Nat → Nat → Int64) => bnd1 (D_X3_exchangeLines r q f20 10 1 p1 p2) (fun (f22 : Nat → Nat → Int64) => (D_X1_bring_j50 r q p2 f22)))) := rfl
noncomputable def D_X1_bring (r : Nat → Int32) (q : Nat → Int32) (f : Nat → Nat → Int64) (p0 : Int32) (p1 : Int32) (p2 : Int32) : (Nat → Nat → Int64) := (if p0 = p2 then (D_X1_bring_j25 r q p1 p2 f) else bnd1 (D_X3_exchangeLines r q f 8 0 p0 p2) (fun (f25 : Nat → Nat → Int64) => bnd1 (D_X3_exchangeLines r q f25 9 0 p0 p2) (fun (f27 : Nat → Nat → Int64) => (D_X1_bring_j25 r q p1 p2 f27))))
theorem D_X1_bring_s {r : Nat → Int32} {q : Nat → Int32} {f : Nat → Nat → Int64} {p0 : Int32} {p1 : Int32} {p2 : Int32} : D_X1_bring r q f p0 p1 p2 = (if p0 = p2 then (D_X1_bring_j25 r q p1 p2 f) else bnd1 (D_X3_exchangeLines r q f 8 0 p0 p2) (fun (f25 : Nat → Nat → Int64) => bnd1 (D_X3_exchangeLines r q f25 9 0 p0 p2) (fun (f27 : Nat → Nat → Int64) => (D_X1_bring_j25 r q p1 p2 f27)))) := rfl
set_option maxHeartbeats 4000000 in
set_option maxRecDepth 100000 in
theorem k_X1_bring (κ : Kt) (l : Launch) (a : Nat → Nat) (r q : Nat → Int32) (f : Nat → Nat → Int64) (p0 : Int32) (p1 : Int32) (p2 : Int32)  (o_f : Nat → Nat → Int64) (hR : D_X1_bring r q f p0 p1 p2 = o_f) : CM κ l yX1_bring cX1_bring 4 (none) 2 51 0 0 [.ref (a 3), .int p0, .int p1, .int p2] (cw κ a r q f) (fun o w' => o = none ∧ w' = cw κ a r q o_f) := by
  refine CM_begin (plainFor_of_name (by decide)) (Nat.le_of_ble_eq_true rfl) ?_
  intro p e s m args below meth c A Q hX hnm hA3 hQ hB ls hl
  have hx := hX.1.1
  have hb := hX.1.2.1
  have hl : lv_has ls 4 [(0, .ref (a 3)), (1, .int p0), (2, .int p1), (3, .int p2)] := hl
  replace hR := (D_X1_bring_s).symm.trans hR
  refine lv_iload_n hx hb dX1_bring_0 rfl (lv_at hl 1 rfl) ?_
  refine lv_iload_n hx hb dX1_bring_1 rfl (lv_at hl 3 rfl) ?_
  have jn25 : ∀ (f_25 : Nat → Nat → Int64) (H : Heap) (locs : List Loc), D_X1_bring_j25 r q p1 p2 f_25 = o_f → Bd κ A s (cw κ a r q f_25) H locs → ∀ ls : Array Slot, lv_has ls 4 [(0, .ref (a 3)), (1, .int p0), (2, .int p1), (3, .int p2)] → W p l e (Rm 2 51 0 0) s m args below meth c H locs 0 0 Q (F0 m 25 ls []) := by
    intro f_25 H locs hR hB ls hl
    replace hR := (D_X1_bring_j25_s).symm.trans hR
    refine lv_iload_n hx hb dX1_bring_25 rfl (lv_at hl 2 rfl) ?_
    refine lv_iload_n hx hb dX1_bring_26 rfl (lv_at hl 3 rfl) ?_
    have jn50 : ∀ (f_50 : Nat → Nat → Int64) (H : Heap) (locs : List Loc), D_X1_bring_j50 r q p2 f_50 = o_f → Bd κ A s (cw κ a r q f_50) H locs → ∀ ls : Array Slot, lv_has ls 4 [(0, .ref (a 3)), (1, .int p0), (2, .int p1), (3, .int p2)] → W p l e (Rm 2 51 0 0) s m args below meth c H locs 0 0 Q (F0 m 50 ls []) := by
      intro f_50 H locs hR hB ls hl
      replace hR := (D_X1_bring_j50_s).symm.trans hR
      refine lv_aload_n hx hb dX1_bring_50 rfl (lv_at hl 0 rfl) ?_
      refine gf hX hB cw3 rfl in1 0 (by decide) wm_1_95 rfl rfl dX1_bring_51 ?_
      refine lv_iload_n hx hb dX1_bring_54 rfl (lv_at hl 3 rfl) ?_
      refine lv_iload_n hx hb dX1_bring_55 rfl (lv_at hl 3 rfl) ?_
      obtain ⟨x12, hd11⟩ := ex1 (D_X3_get r q f_50 8 p2 p2)
      replace hR := bnd1_use hd11 hR
      refine call_V (n := 2) (As := [.int p2, .int p2]) (rest := []) hX hB (k_X3_get κ l a r q f_50 8 p2 p2 (by decide) x12 hd11) ⟨rfl, by decide, by decide, by decide +kernel⟩ wm_2_87 wm_1_187 wm_1_188 wm_1_2 wm_1_189 ⟨Nat.le_of_ble_eq_true rfl, Nat.le_of_ble_eq_true rfl⟩ ⟨Nat.le_of_ble_eq_true rfl, Nat.le_of_ble_eq_true rfl⟩ (cwG (i := 8) (by decide)) rfl rfl rfl hl.1 rfl (Nat.le_of_ble_eq_true rfl) dX1_bring_56 (fun o w' H locs hp hB => ?_)
      obtain ⟨rfl, rfl⟩ := hp
      refine W.eq (g2 := F0 m 59 ls [.long x12]) rfl ?_
      refine lv_lconst (v := 0) hx hb dX1_bring_59 (by decide) ?_
      refine W.lcmp hx hb dX1_bring_60 ?_
      refine lv_if_ge (tgt := 82) hx hb dX1_bring_61 (by decide) (fun c13 => ?_) (fun c13 => ?_)
      · replace hR := ifp c13 hR
        rw [← hQ]
        exact end_v hX hB hA3 rfl (by obtain rfl := hR; exact ⟨rfl, rfl⟩) (Nat.le_of_ble_eq_true rfl) (Nat.le_of_ble_eq_true rfl) dX1_bring_82
      · replace hR := ifn c13 hR
        refine lv_aload_n hx hb dX1_bring_64 rfl (lv_at hl 0 rfl) ?_
        refine gf hX hB cw3 rfl in1 0 (by decide) wm_1_95 rfl rfl dX1_bring_65 ?_
        refine lv_iconst (v := 0) hx hb dX1_bring_68 (by decide) ?_
        refine lv_iload_n hx hb dX1_bring_69 rfl (lv_at hl 3 rfl) ?_
        obtain ⟨f15, hd14⟩ := ex1 (D_X3_turnLine r q f_50 8 0 p2)
        replace hR := bnd1_use hd14 hR
        refine call_V (n := 2) (As := [.int 0, .int p2]) (rest := []) hX hB (k_X3_turnLine κ l a r q f_50 8 0 p2 (by decide) f15 hd14) ⟨rfl, by decide, by decide, by decide +kernel⟩ wm_2_94 wm_2_9 wm_2_10 wm_1_2 wm_2_11 ⟨Nat.le_of_ble_eq_true rfl, Nat.le_of_ble_eq_true rfl⟩ ⟨Nat.le_of_ble_eq_true rfl, Nat.le_of_ble_eq_true rfl⟩ (cwG (i := 8) (by decide)) rfl rfl rfl hl.1 rfl (Nat.le_of_ble_eq_true rfl) dX1_bring_70 (fun o w' H locs hp hB => ?_)
        obtain ⟨rfl, rfl⟩ := hp
        refine W.eq (g2 := F0 m 73 ls []) rfl ?_
        refine lv_aload_n hx hb dX1_bring_73 rfl (lv_at hl 0 rfl) ?_
        refine gf hX hB cw3 rfl in1 1 (by decide) wm_1_98 rfl rfl dX1_bring_74 ?_
        refine lv_iconst (v := 0) hx hb dX1_bring_77 (by decide) ?_
        refine lv_iload_n hx hb dX1_bring_78 rfl (lv_at hl 3 rfl) ?_
        obtain ⟨f17, hd16⟩ := ex1 (D_X3_turnLine r q f15 9 0 p2)
        replace hR := bnd1_use hd16 hR
        refine call_V (n := 2) (As := [.int 0, .int p2]) (rest := []) hX hB (k_X3_turnLine κ l a r q f15 9 0 p2 (by decide) f17 hd16) ⟨rfl, by decide, by decide, by decide +kernel⟩ wm_2_94 wm_2_9 wm_2_10 wm_1_2 wm_2_11 ⟨Nat.le_of_ble_eq_true rfl, Nat.le_of_ble_eq_true rfl⟩ ⟨Nat.le_of_ble_eq_true rfl, Nat.le_of_ble_eq_true rfl⟩ (cwG (i := 9) (by decide)) rfl rfl rfl hl.1 rfl (Nat.le_of_ble_eq_true rfl) dX1_bring_79 (fun o w' H locs hp hB => ?_)
        obtain ⟨rfl, rfl⟩ := hp
        refine W.eq (g2 := F0 m 82 ls []) rfl ?_
        rw [← hQ]
        exact end_v hX hB hA3 rfl (by obtain rfl := hR; exact ⟨rfl, rfl⟩) (Nat.le_of_ble_eq_true rfl) (Nat.le_of_ble_eq_true rfl) dX1_bring_82
    refine lv_icmp_eq (tgt := 50) hx hb dX1_bring_27 (by decide) (fun c18 => ?_) (fun c18 => ?_)
    · replace hR := ifp c18 hR
      exact jn50 f_25 _ _  hR hB _ hl
    · replace hR := ifn c18 hR
      refine lv_aload_n hx hb dX1_bring_30 rfl (lv_at hl 0 rfl) ?_
      refine gf hX hB cw3 rfl in1 0 (by decide) wm_1_95 rfl rfl dX1_bring_31 ?_
      refine lv_iconst (v := 1) hx hb dX1_bring_34 (by decide) ?_
      refine lv_iload_n hx hb dX1_bring_35 rfl (lv_at hl 2 rfl) ?_
      refine lv_iload_n hx hb dX1_bring_36 rfl (lv_at hl 3 rfl) ?_
      obtain ⟨f20, hd19⟩ := ex1 (D_X3_exchangeLines r q f_25 8 1 p1 p2)
      replace hR := bnd1_use hd19 hR
      refine call_V (n := 3) (As := [.int 1, .int p1, .int p2]) (rest := []) hX hB (k_X3_exchangeLines κ l a r q f_25 8 1 p1 p2 (by decide) f20 hd19) ⟨rfl, by decide, by decide, by decide +kernel⟩ wm_2_93 wm_2_4 wm_2_5 wm_1_2 wm_2_6 ⟨Nat.le_of_ble_eq_true rfl, Nat.le_of_ble_eq_true rfl⟩ ⟨Nat.le_of_ble_eq_true rfl, Nat.le_of_ble_eq_true rfl⟩ (cwG (i := 8) (by decide)) rfl rfl rfl hl.1 rfl (Nat.le_of_ble_eq_true rfl) dX1_bring_37 (fun o w' H locs hp hB => ?_)
      obtain ⟨rfl, rfl⟩ := hp
      refine W.eq (g2 := F0 m 40 ls []) rfl ?_
      refine lv_aload_n hx hb dX1_bring_40 rfl (lv_at hl 0 rfl) ?_
      refine gf hX hB cw3 rfl in1 2 (by decide) wm_1_101 rfl rfl dX1_bring_41 ?_
      refine lv_iconst (v := 1) hx hb dX1_bring_44 (by decide) ?_
      refine lv_iload_n hx hb dX1_bring_45 rfl (lv_at hl 2 rfl) ?_
      refine lv_iload_n hx hb dX1_bring_46 rfl (lv_at hl 3 rfl) ?_
      obtain ⟨f22, hd21⟩ := ex1 (D_X3_exchangeLines r q f20 10 1 p1 p2)
      replace hR := bnd1_use hd21 hR
      refine call_V (n := 3) (As := [.int 1, .int p1, .int p2]) (rest := []) hX hB (k_X3_exchangeLines κ l a r q f20 10 1 p1 p2 (by decide) f22 hd21) ⟨rfl, by decide, by decide, by decide +kernel⟩ wm_2_93 wm_2_4 wm_2_5 wm_1_2 wm_2_6 ⟨Nat.le_of_ble_eq_true rfl, Nat.le_of_ble_eq_true rfl⟩ ⟨Nat.le_of_ble_eq_true rfl, Nat.le_of_ble_eq_true rfl⟩ (cwG (i := 10) (by decide)) rfl rfl rfl hl.1 rfl (Nat.le_of_ble_eq_true rfl) dX1_bring_47 (fun o w' H locs hp hB => ?_)
      obtain ⟨rfl, rfl⟩ := hp
      refine W.eq (g2 := F0 m 50 ls []) rfl ?_
      exact jn50 f22 _ _  hR hB _ hl
  refine lv_icmp_eq (tgt := 25) hx hb dX1_bring_2 (by decide) (fun c23 => ?_) (fun c23 => ?_)
  · replace hR := ifp c23 hR
    exact jn25 f _ _  hR hB _ hl
  · replace hR := ifn c23 hR
    refine lv_aload_n hx hb dX1_bring_5 rfl (lv_at hl 0 rfl) ?_
    refine gf hX hB cw3 rfl in1 0 (by decide) wm_1_95 rfl rfl dX1_bring_6 ?_
    refine lv_iconst (v := 0) hx hb dX1_bring_9 (by decide) ?_
    refine lv_iload_n hx hb dX1_bring_10 rfl (lv_at hl 1 rfl) ?_
    refine lv_iload_n hx hb dX1_bring_11 rfl (lv_at hl 3 rfl) ?_
    obtain ⟨f25, hd24⟩ := ex1 (D_X3_exchangeLines r q f 8 0 p0 p2)
    replace hR := bnd1_use hd24 hR
    refine call_V (n := 3) (As := [.int 0, .int p0, .int p2]) (rest := []) hX hB (k_X3_exchangeLines κ l a r q f 8 0 p0 p2 (by decide) f25 hd24) ⟨rfl, by decide, by decide, by decide +kernel⟩ wm_2_93 wm_2_4 wm_2_5 wm_1_2 wm_2_6 ⟨Nat.le_of_ble_eq_true rfl, Nat.le_of_ble_eq_true rfl⟩ ⟨Nat.le_of_ble_eq_true rfl, Nat.le_of_ble_eq_true rfl⟩ (cwG (i := 8) (by decide)) rfl rfl rfl hl.1 rfl (Nat.le_of_ble_eq_true rfl) dX1_bring_12 (fun o w' H locs hp hB => ?_)
    obtain ⟨rfl, rfl⟩ := hp
    refine W.eq (g2 := F0 m 15 ls []) rfl ?_
    refine lv_aload_n hx hb dX1_bring_15 rfl (lv_at hl 0 rfl) ?_
    refine gf hX hB cw3 rfl in1 1 (by decide) wm_1_98 rfl rfl dX1_bring_16 ?_
    refine lv_iconst (v := 0) hx hb dX1_bring_19 (by decide) ?_
    refine lv_iload_n hx hb dX1_bring_20 rfl (lv_at hl 1 rfl) ?_
    refine lv_iload_n hx hb dX1_bring_21 rfl (lv_at hl 3 rfl) ?_
    obtain ⟨f27, hd26⟩ := ex1 (D_X3_exchangeLines r q f25 9 0 p0 p2)
    replace hR := bnd1_use hd26 hR
    refine call_V (n := 3) (As := [.int 0, .int p0, .int p2]) (rest := []) hX hB (k_X3_exchangeLines κ l a r q f25 9 0 p0 p2 (by decide) f27 hd26) ⟨rfl, by decide, by decide, by decide +kernel⟩ wm_2_93 wm_2_4 wm_2_5 wm_1_2 wm_2_6 ⟨Nat.le_of_ble_eq_true rfl, Nat.le_of_ble_eq_true rfl⟩ ⟨Nat.le_of_ble_eq_true rfl, Nat.le_of_ble_eq_true rfl⟩ (cwG (i := 9) (by decide)) rfl rfl rfl hl.1 rfl (Nat.le_of_ble_eq_true rfl) dX1_bring_22 (fun o w' H locs hp hB => ?_)
    obtain ⟨rfl, rfl⟩ := hp
    refine W.eq (g2 := F0 m 25 ls []) rfl ?_
    exact jn25 f27 _ _  hR hB _ hl
noncomputable def D_X1_addRow (r : Nat → Int32) (q : Nat → Int32) (f : Nat → Nat → Int64) (p0 : Int32) (p1 : Int32) (p2 : Int64) : (Nat → Int32) × (Nat → Nat → Int64) := bnd1 (D_X3_addLine r q f 8 0 p0 p1 p2) (fun (f2 : Nat → Nat → Int64) => bnd1 (D_X3_addLine r q f2 9 0 p0 p1 p2) (fun (f4 : Nat → Nat → Int64) => bnd1 (D_X3_isWithin r q f4 8 1000000000) (fun (x6 : Int32) => (if x6 = 0 then (va_up q 1 1, f4) else bnd1 (D_X3_isWithin r q f4 9 1000000000) (fun (x9 : Int32) => (if x9 = 0 then (va_up q 1 1, f4) else (va_up q 1 0, f4)))))))
theorem D_X1_addRow_s {r : Nat → Int32} {q : Nat → Int32} {f : Nat → Nat → Int64} {p0 : Int32} {p1 : Int32} {p2 : Int64} : D_X1_addRow r q f p0 p1 p2 = bnd1 (D_X3_addLine r q f 8 0 p0 p1 p2) (fun (f2 : Nat → Nat → Int64) => bnd1 (D_X3_addLine r q f2 9 0 p0 p1 p2) (fun (f4 : Nat → Nat → Int64) => bnd1 (D_X3_isWithin r q f4 8 1000000000) (fun (x6 : Int32) => (if x6 = 0 then (va_up q 1 1, f4) else bnd1 (D_X3_isWithin r q f4 9 1000000000) (fun (x9 : Int32) => (if x9 = 0 then (va_up q 1 1, f4) else (va_up q 1 0, f4))))))) := rfl
set_option maxHeartbeats 4000000 in
set_option maxRecDepth 100000 in
theorem k_X1_addRow (κ : Kt) (l : Launch) (a : Nat → Nat) (r q : Nat → Int32) (f : Nat → Nat → Int64) (p0 : Int32) (p1 : Int32) (p2 : Int64)  (o_q : Nat → Int32) (o_f : Nat → Nat → Int64) (hR : D_X1_addRow r q f p0 p1 p2 = (o_q, o_f)) : CM κ l yX1_addRow cX1_addRow 5 (none) 2 51 0 0 [.ref (a 3), .int p0, .int p1, .long p2] (cw κ a r q f) (fun o w' => o = none ∧ o_q 4 = q 4 ∧ w' = cw κ a r o_q o_f) := by
  refine CM_begin (plainFor_of_name (by decide)) (Nat.le_of_ble_eq_true rfl) ?_
  intro p e s m args below meth c A Q hX hnm hA3 hQ hB ls hl
  have hx := hX.1.1
  have hb := hX.1.2.1
  have hl : lv_has ls 5 [(0, .ref (a 3)), (1, .int p0), (2, .int p1), (3, .long p2)] := hl
  replace hR := (D_X1_addRow_s).symm.trans hR
  refine lv_aload_n hx hb dX1_addRow_0 rfl (lv_at hl 0 rfl) ?_
  refine gf hX hB cw3 rfl in1 0 (by decide) wm_1_95 rfl rfl dX1_addRow_1 ?_
  refine lv_iconst (v := 0) hx hb dX1_addRow_4 (by decide) ?_
  refine lv_iload_n hx hb dX1_addRow_5 rfl (lv_at hl 1 rfl) ?_
  refine lv_iload_n hx hb dX1_addRow_6 rfl (lv_at hl 2 rfl) ?_
  refine lv_lload_n hx hb dX1_addRow_7 rfl (lv_at hl 3 rfl) ?_
  obtain ⟨f2, hd1⟩ := ex1 (D_X3_addLine r q f 8 0 p0 p1 p2)
  replace hR := bnd1_use hd1 hR
  refine call_V (n := 4) (As := [.int 0, .int p0, .int p1, .long p2]) (rest := []) hX hB (k_X3_addLine κ l a r q f 8 0 p0 p1 p2 (by decide) f2 hd1) ⟨rfl, by decide, by decide, by decide +kernel⟩ wm_2_100 wm_2_23 wm_2_24 wm_1_2 wm_2_25 ⟨Nat.le_of_ble_eq_true rfl, Nat.le_of_ble_eq_true rfl⟩ ⟨Nat.le_of_ble_eq_true rfl, Nat.le_of_ble_eq_true rfl⟩ (cwG (i := 8) (by decide)) rfl rfl rfl hl.1 rfl (Nat.le_of_ble_eq_true rfl) dX1_addRow_8 (fun o w' H locs hp hB => ?_)
  obtain ⟨rfl, rfl⟩ := hp
  refine W.eq (g2 := F0 m 11 ls []) rfl ?_
  refine lv_aload_n hx hb dX1_addRow_11 rfl (lv_at hl 0 rfl) ?_
  refine gf hX hB cw3 rfl in1 1 (by decide) wm_1_98 rfl rfl dX1_addRow_12 ?_
  refine lv_iconst (v := 0) hx hb dX1_addRow_15 (by decide) ?_
  refine lv_iload_n hx hb dX1_addRow_16 rfl (lv_at hl 1 rfl) ?_
  refine lv_iload_n hx hb dX1_addRow_17 rfl (lv_at hl 2 rfl) ?_
  refine lv_lload_n hx hb dX1_addRow_18 rfl (lv_at hl 3 rfl) ?_
  obtain ⟨f4, hd3⟩ := ex1 (D_X3_addLine r q f2 9 0 p0 p1 p2)
  replace hR := bnd1_use hd3 hR
  refine call_V (n := 4) (As := [.int 0, .int p0, .int p1, .long p2]) (rest := []) hX hB (k_X3_addLine κ l a r q f2 9 0 p0 p1 p2 (by decide) f4 hd3) ⟨rfl, by decide, by decide, by decide +kernel⟩ wm_2_100 wm_2_23 wm_2_24 wm_1_2 wm_2_25 ⟨Nat.le_of_ble_eq_true rfl, Nat.le_of_ble_eq_true rfl⟩ ⟨Nat.le_of_ble_eq_true rfl, Nat.le_of_ble_eq_true rfl⟩ (cwG (i := 9) (by decide)) rfl rfl rfl hl.1 rfl (Nat.le_of_ble_eq_true rfl) dX1_addRow_19 (fun o w' H locs hp hB => ?_)
  obtain ⟨rfl, rfl⟩ := hp
  refine W.eq (g2 := F0 m 22 ls []) rfl ?_
  refine lv_aload_n hx hb dX1_addRow_22 rfl (lv_at hl 0 rfl) ?_
  refine lv_aload_n hx hb dX1_addRow_23 rfl (lv_at hl 0 rfl) ?_
  refine gf hX hB cw3 rfl in1 0 (by decide) wm_1_95 rfl rfl dX1_addRow_24 ?_
  refine lv_ldc2 (own := RX1) (v := 1000000000) hx hb hX.1.2.2.2.1 (hX.1.2.2.2.2 _ wm_2_101) dX1_addRow_27 ?_
  obtain ⟨x6, hd5⟩ := ex1 (D_X3_isWithin r q f4 8 1000000000)
  replace hR := bnd1_use hd5 hR
  refine call_V (n := 1) (As := [.long 1000000000]) (rest := [.ref (a 3)]) hX hB (k_X3_isWithin κ l a r q f4 8 1000000000 (by decide) x6 hd5) ⟨rfl, by decide, by decide, by decide +kernel⟩ wm_2_102 wm_2_28 wm_2_29 wm_1_2 wm_2_30 ⟨Nat.le_of_ble_eq_true rfl, Nat.le_of_ble_eq_true rfl⟩ ⟨Nat.le_of_ble_eq_true rfl, Nat.le_of_ble_eq_true rfl⟩ (cwG (i := 8) (by decide)) rfl rfl rfl hl.1 rfl (Nat.le_of_ble_eq_true rfl) dX1_addRow_30 (fun o w' H locs hp hB => ?_)
  obtain ⟨rfl, bx6, rfl⟩ := hp
  refine W.eq (g2 := F0 m 33 ls [.int x6, .ref (a 3)]) rfl ?_
  refine lv_if_eq (tgt := 49) hx hb dX1_addRow_33 (by decide) (fun c7 => ?_) (fun c7 => ?_)
  · replace hR := ifp c7 hR
    refine lv_iconst (v := 1) hx hb dX1_addRow_49 (by decide) ?_
    refine lv_goto (tgt := 54) hx hb dX1_addRow_50 (by decide) ?_
    refine pf (ty := .boolean) hX hB cw3 rfl in1 tyX1_ok nmX1 3 (by decide) wm_1_104 rfl rfl rfl rfl rfl (Nat.le_of_ble_eq_true rfl) (cwSQ1 _) dX1_addRow_54 (fun H locs hB => ?_)
    rw [← hQ]
    exact end_v hX hB hA3 rfl (by obtain ⟨rfl, rfl⟩ := pr2 hR; exact ⟨rfl, rfl, rfl⟩) (Nat.le_of_ble_eq_true rfl) (Nat.le_of_ble_eq_true rfl) dX1_addRow_57
  · replace hR := ifn c7 hR
    refine lv_aload_n hx hb dX1_addRow_36 rfl (lv_at hl 0 rfl) ?_
    refine gf hX hB cw3 rfl in1 1 (by decide) wm_1_98 rfl rfl dX1_addRow_37 ?_
    refine lv_ldc2 (own := RX1) (v := 1000000000) hx hb hX.1.2.2.2.1 (hX.1.2.2.2.2 _ wm_2_101) dX1_addRow_40 ?_
    obtain ⟨x9, hd8⟩ := ex1 (D_X3_isWithin r q f4 9 1000000000)
    replace hR := bnd1_use hd8 hR
    refine call_V (n := 1) (As := [.long 1000000000]) (rest := [.ref (a 3)]) hX hB (k_X3_isWithin κ l a r q f4 9 1000000000 (by decide) x9 hd8) ⟨rfl, by decide, by decide, by decide +kernel⟩ wm_2_102 wm_2_28 wm_2_29 wm_1_2 wm_2_30 ⟨Nat.le_of_ble_eq_true rfl, Nat.le_of_ble_eq_true rfl⟩ ⟨Nat.le_of_ble_eq_true rfl, Nat.le_of_ble_eq_true rfl⟩ (cwG (i := 9) (by decide)) rfl rfl rfl hl.1 rfl (Nat.le_of_ble_eq_true rfl) dX1_addRow_43 (fun o w' H locs hp hB => ?_)
    obtain ⟨rfl, bx9, rfl⟩ := hp
    refine W.eq (g2 := F0 m 46 ls [.int x9, .ref (a 3)]) rfl ?_
    refine lv_if_ne (tgt := 53) hx hb dX1_addRow_46 (by decide) (fun c10 => ?_) (fun c10 => ?_)
    · replace hR := ifn c10 hR
      refine lv_iconst (v := 0) hx hb dX1_addRow_53 (by decide) ?_
      refine pf (ty := .boolean) hX hB cw3 rfl in1 tyX1_ok nmX1 3 (by decide) wm_1_104 rfl rfl rfl rfl rfl (Nat.le_of_ble_eq_true rfl) (cwSQ1 _) dX1_addRow_54 (fun H locs hB => ?_)
      rw [← hQ]
      exact end_v hX hB hA3 rfl (by obtain ⟨rfl, rfl⟩ := pr2 hR; exact ⟨rfl, rfl, rfl⟩) (Nat.le_of_ble_eq_true rfl) (Nat.le_of_ble_eq_true rfl) dX1_addRow_57
    · replace hR := ifp c10 hR
      refine lv_iconst (v := 1) hx hb dX1_addRow_49 (by decide) ?_
      refine lv_goto (tgt := 54) hx hb dX1_addRow_50 (by decide) ?_
      refine pf (ty := .boolean) hX hB cw3 rfl in1 tyX1_ok nmX1 3 (by decide) wm_1_104 rfl rfl rfl rfl rfl (Nat.le_of_ble_eq_true rfl) (cwSQ1 _) dX1_addRow_54 (fun H locs hB => ?_)
      rw [← hQ]
      exact end_v hX hB hA3 rfl (by obtain ⟨rfl, rfl⟩ := pr2 hR; exact ⟨rfl, rfl, rfl⟩) (Nat.le_of_ble_eq_true rfl) (Nat.le_of_ble_eq_true rfl) dX1_addRow_57
noncomputable def D_X1_addColumn (r : Nat → Int32) (q : Nat → Int32) (f : Nat → Nat → Int64) (p0 : Int32) (p1 : Int32) (p2 : Int64) : (Nat → Int32) × (Nat → Nat → Int64) := bnd1 (D_X3_addLine r q f 8 1 p0 p1 p2) (fun (f2 : Nat → Nat → Int64) => bnd1 (D_X3_addLine r q f2 10 1 p0 p1 p2) (fun (f4 : Nat → Nat → Int64) => bnd1 (D_X3_isWithin r q f4 8 1000000000) (fun (x6 : Int32) => (if x6 = 0 then (va_up q 1 1, f4) else bnd1 (D_X3_isWithin r q f4 10 1000000000) (fun (x9 : Int32) => (if x9 = 0 then (va_up q 1 1, f4) else (va_up q 1 0, f4)))))))
theorem D_X1_addColumn_s {r : Nat → Int32} {q : Nat → Int32} {f : Nat → Nat → Int64} {p0 : Int32} {p1 : Int32} {p2 : Int64} : D_X1_addColumn r q f p0 p1 p2 = bnd1 (D_X3_addLine r q f 8 1 p0 p1 p2) (fun (f2 : Nat → Nat → Int64) => bnd1 (D_X3_addLine r q f2 10 1 p0 p1 p2) (fun (f4 : Nat → Nat → Int64) => bnd1 (D_X3_isWithin r q f4 8 1000000000) (fun (x6 : Int32) => (if x6 = 0 then (va_up q 1 1, f4) else bnd1 (D_X3_isWithin r q f4 10 1000000000) (fun (x9 : Int32) => (if x9 = 0 then (va_up q 1 1, f4) else (va_up q 1 0, f4))))))) := rfl
set_option maxHeartbeats 4000000 in
set_option maxRecDepth 100000 in
theorem k_X1_addColumn (κ : Kt) (l : Launch) (a : Nat → Nat) (r q : Nat → Int32) (f : Nat → Nat → Int64) (p0 : Int32) (p1 : Int32) (p2 : Int64)  (o_q : Nat → Int32) (o_f : Nat → Nat → Int64) (hR : D_X1_addColumn r q f p0 p1 p2 = (o_q, o_f)) : CM κ l yX1_addColumn cX1_addColumn 5 (none) 2 51 0 0 [.ref (a 3), .int p0, .int p1, .long p2] (cw κ a r q f) (fun o w' => o = none ∧ o_q 4 = q 4 ∧ w' = cw κ a r o_q o_f) := by
  refine CM_begin (plainFor_of_name (by decide)) (Nat.le_of_ble_eq_true rfl) ?_
  intro p e s m args below meth c A Q hX hnm hA3 hQ hB ls hl
  have hx := hX.1.1
  have hb := hX.1.2.1
  have hl : lv_has ls 5 [(0, .ref (a 3)), (1, .int p0), (2, .int p1), (3, .long p2)] := hl
  replace hR := (D_X1_addColumn_s).symm.trans hR
  refine lv_aload_n hx hb dX1_addColumn_0 rfl (lv_at hl 0 rfl) ?_
  refine gf hX hB cw3 rfl in1 0 (by decide) wm_1_95 rfl rfl dX1_addColumn_1 ?_
  refine lv_iconst (v := 1) hx hb dX1_addColumn_4 (by decide) ?_
  refine lv_iload_n hx hb dX1_addColumn_5 rfl (lv_at hl 1 rfl) ?_
  refine lv_iload_n hx hb dX1_addColumn_6 rfl (lv_at hl 2 rfl) ?_
  refine lv_lload_n hx hb dX1_addColumn_7 rfl (lv_at hl 3 rfl) ?_
  obtain ⟨f2, hd1⟩ := ex1 (D_X3_addLine r q f 8 1 p0 p1 p2)
  replace hR := bnd1_use hd1 hR
  refine call_V (n := 4) (As := [.int 1, .int p0, .int p1, .long p2]) (rest := []) hX hB (k_X3_addLine κ l a r q f 8 1 p0 p1 p2 (by decide) f2 hd1) ⟨rfl, by decide, by decide, by decide +kernel⟩ wm_2_100 wm_2_23 wm_2_24 wm_1_2 wm_2_25 ⟨Nat.le_of_ble_eq_true rfl, Nat.le_of_ble_eq_true rfl⟩ ⟨Nat.le_of_ble_eq_true rfl, Nat.le_of_ble_eq_true rfl⟩ (cwG (i := 8) (by decide)) rfl rfl rfl hl.1 rfl (Nat.le_of_ble_eq_true rfl) dX1_addColumn_8 (fun o w' H locs hp hB => ?_)
  obtain ⟨rfl, rfl⟩ := hp
  refine W.eq (g2 := F0 m 11 ls []) rfl ?_
  refine lv_aload_n hx hb dX1_addColumn_11 rfl (lv_at hl 0 rfl) ?_
  refine gf hX hB cw3 rfl in1 2 (by decide) wm_1_101 rfl rfl dX1_addColumn_12 ?_
  refine lv_iconst (v := 1) hx hb dX1_addColumn_15 (by decide) ?_
  refine lv_iload_n hx hb dX1_addColumn_16 rfl (lv_at hl 1 rfl) ?_
  refine lv_iload_n hx hb dX1_addColumn_17 rfl (lv_at hl 2 rfl) ?_
  refine lv_lload_n hx hb dX1_addColumn_18 rfl (lv_at hl 3 rfl) ?_
  obtain ⟨f4, hd3⟩ := ex1 (D_X3_addLine r q f2 10 1 p0 p1 p2)
  replace hR := bnd1_use hd3 hR
  refine call_V (n := 4) (As := [.int 1, .int p0, .int p1, .long p2]) (rest := []) hX hB (k_X3_addLine κ l a r q f2 10 1 p0 p1 p2 (by decide) f4 hd3) ⟨rfl, by decide, by decide, by decide +kernel⟩ wm_2_100 wm_2_23 wm_2_24 wm_1_2 wm_2_25 ⟨Nat.le_of_ble_eq_true rfl, Nat.le_of_ble_eq_true rfl⟩ ⟨Nat.le_of_ble_eq_true rfl, Nat.le_of_ble_eq_true rfl⟩ (cwG (i := 10) (by decide)) rfl rfl rfl hl.1 rfl (Nat.le_of_ble_eq_true rfl) dX1_addColumn_19 (fun o w' H locs hp hB => ?_)
  obtain ⟨rfl, rfl⟩ := hp
  refine W.eq (g2 := F0 m 22 ls []) rfl ?_
  refine lv_aload_n hx hb dX1_addColumn_22 rfl (lv_at hl 0 rfl) ?_
  refine lv_aload_n hx hb dX1_addColumn_23 rfl (lv_at hl 0 rfl) ?_
  refine gf hX hB cw3 rfl in1 0 (by decide) wm_1_95 rfl rfl dX1_addColumn_24 ?_
  refine lv_ldc2 (own := RX1) (v := 1000000000) hx hb hX.1.2.2.2.1 (hX.1.2.2.2.2 _ wm_2_101) dX1_addColumn_27 ?_
  obtain ⟨x6, hd5⟩ := ex1 (D_X3_isWithin r q f4 8 1000000000)
  replace hR := bnd1_use hd5 hR
  refine call_V (n := 1) (As := [.long 1000000000]) (rest := [.ref (a 3)]) hX hB (k_X3_isWithin κ l a r q f4 8 1000000000 (by decide) x6 hd5) ⟨rfl, by decide, by decide, by decide +kernel⟩ wm_2_102 wm_2_28 wm_2_29 wm_1_2 wm_2_30 ⟨Nat.le_of_ble_eq_true rfl, Nat.le_of_ble_eq_true rfl⟩ ⟨Nat.le_of_ble_eq_true rfl, Nat.le_of_ble_eq_true rfl⟩ (cwG (i := 8) (by decide)) rfl rfl rfl hl.1 rfl (Nat.le_of_ble_eq_true rfl) dX1_addColumn_30 (fun o w' H locs hp hB => ?_)
  obtain ⟨rfl, bx6, rfl⟩ := hp
  refine W.eq (g2 := F0 m 33 ls [.int x6, .ref (a 3)]) rfl ?_
  refine lv_if_eq (tgt := 49) hx hb dX1_addColumn_33 (by decide) (fun c7 => ?_) (fun c7 => ?_)
  · replace hR := ifp c7 hR
    refine lv_iconst (v := 1) hx hb dX1_addColumn_49 (by decide) ?_
    refine lv_goto (tgt := 54) hx hb dX1_addColumn_50 (by decide) ?_
    refine pf (ty := .boolean) hX hB cw3 rfl in1 tyX1_ok nmX1 3 (by decide) wm_1_104 rfl rfl rfl rfl rfl (Nat.le_of_ble_eq_true rfl) (cwSQ1 _) dX1_addColumn_54 (fun H locs hB => ?_)
    rw [← hQ]
    exact end_v hX hB hA3 rfl (by obtain ⟨rfl, rfl⟩ := pr2 hR; exact ⟨rfl, rfl, rfl⟩) (Nat.le_of_ble_eq_true rfl) (Nat.le_of_ble_eq_true rfl) dX1_addColumn_57
  · replace hR := ifn c7 hR
    refine lv_aload_n hx hb dX1_addColumn_36 rfl (lv_at hl 0 rfl) ?_
    refine gf hX hB cw3 rfl in1 2 (by decide) wm_1_101 rfl rfl dX1_addColumn_37 ?_
    refine lv_ldc2 (own := RX1) (v := 1000000000) hx hb hX.1.2.2.2.1 (hX.1.2.2.2.2 _ wm_2_101) dX1_addColumn_40 ?_
    obtain ⟨x9, hd8⟩ := ex1 (D_X3_isWithin r q f4 10 1000000000)
    replace hR := bnd1_use hd8 hR
    refine call_V (n := 1) (As := [.long 1000000000]) (rest := [.ref (a 3)]) hX hB (k_X3_isWithin κ l a r q f4 10 1000000000 (by decide) x9 hd8) ⟨rfl, by decide, by decide, by decide +kernel⟩ wm_2_102 wm_2_28 wm_2_29 wm_1_2 wm_2_30 ⟨Nat.le_of_ble_eq_true rfl, Nat.le_of_ble_eq_true rfl⟩ ⟨Nat.le_of_ble_eq_true rfl, Nat.le_of_ble_eq_true rfl⟩ (cwG (i := 10) (by decide)) rfl rfl rfl hl.1 rfl (Nat.le_of_ble_eq_true rfl) dX1_addColumn_43 (fun o w' H locs hp hB => ?_)
    obtain ⟨rfl, bx9, rfl⟩ := hp
    refine W.eq (g2 := F0 m 46 ls [.int x9, .ref (a 3)]) rfl ?_
    refine lv_if_ne (tgt := 53) hx hb dX1_addColumn_46 (by decide) (fun c10 => ?_) (fun c10 => ?_)
    · replace hR := ifn c10 hR
      refine lv_iconst (v := 0) hx hb dX1_addColumn_53 (by decide) ?_
      refine pf (ty := .boolean) hX hB cw3 rfl in1 tyX1_ok nmX1 3 (by decide) wm_1_104 rfl rfl rfl rfl rfl (Nat.le_of_ble_eq_true rfl) (cwSQ1 _) dX1_addColumn_54 (fun H locs hB => ?_)
      rw [← hQ]
      exact end_v hX hB hA3 rfl (by obtain ⟨rfl, rfl⟩ := pr2 hR; exact ⟨rfl, rfl, rfl⟩) (Nat.le_of_ble_eq_true rfl) (Nat.le_of_ble_eq_true rfl) dX1_addColumn_57
    · replace hR := ifp c10 hR
      refine lv_iconst (v := 1) hx hb dX1_addColumn_49 (by decide) ?_
      refine lv_goto (tgt := 54) hx hb dX1_addColumn_50 (by decide) ?_
      refine pf (ty := .boolean) hX hB cw3 rfl in1 tyX1_ok nmX1 3 (by decide) wm_1_104 rfl rfl rfl rfl rfl (Nat.le_of_ble_eq_true rfl) (cwSQ1 _) dX1_addColumn_54 (fun H locs hB => ?_)
      rw [← hQ]
      exact end_v hX hB hA3 rfl (by obtain ⟨rfl, rfl⟩ := pr2 hR; exact ⟨rfl, rfl, rfl⟩) (Nat.le_of_ble_eq_true rfl) (Nat.le_of_ble_eq_true rfl) dX1_addColumn_57
noncomputable def D_X1_isCrossClear_41 (r : Nat → Int32) (q : Nat → Int32) (f : Nat → Nat → Int64) (p0 : Int32) (nn : Nat) : Int32 → Int32 := @Nat.rec (fun _ => Int32 → Int32) (fun _ => default) (fun _ lb41 (y2_41 : Int32) => (if (r (2 * 8 + 1)) ≤ y2_41 then 1 else bnd1 (D_X3_get r q f 8 p0 y2_41) (fun (x44 : Int64) => (if (lg_cmp x44 0) = 0 then (lb41 (y2_41 + 1)) else 0)))) nn
theorem D_X1_isCrossClear_41_s {r : Nat → Int32} {q : Nat → Int32} {f : Nat → Nat → Int64} {p0 : Int32} {nn : Nat} {y2_41 : Int32} : D_X1_isCrossClear_41 r q f p0 (nn + 1) y2_41 = (if (r (2 * 8 + 1)) ≤ y2_41 then 1 else bnd1 (D_X3_get r q f 8 p0 y2_41) (fun (x44 : Int64) => (if (lg_cmp x44 0) = 0 then ((D_X1_isCrossClear_41 r q f p0 nn) (y2_41 + 1)) else 0))) := rfl
noncomputable def D_X1_isCrossClear_4 (r : Nat → Int32) (q : Nat → Int32) (f : Nat → Nat → Int64) (p0 : Int32) (nn : Nat) : Int32 → Int32 := @Nat.rec (fun _ => Int32 → Int32) (fun _ => default) (fun _ lb4 (y2_4 : Int32) => (if (r (2 * 8)) ≤ y2_4 then (D_X1_isCrossClear_41 r q f p0 (gap (r (2 * 8 + 1)) (p0 + 1) + 1) (p0 + 1)) else bnd1 (D_X3_get r q f 8 y2_4 p0) (fun (x47 : Int64) => (if (lg_cmp x47 0) = 0 then (lb4 (y2_4 + 1)) else 0)))) nn
theorem D_X1_isCrossClear_4_s {r : Nat → Int32} {q : Nat → Int32} {f : Nat → Nat → Int64} {p0 : Int32} {nn : Nat} {y2_4 : Int32} : D_X1_isCrossClear_4 r q f p0 (nn + 1) y2_4 = (if (r (2 * 8)) ≤ y2_4 then (D_X1_isCrossClear_41 r q f p0 (gap (r (2 * 8 + 1)) (p0 + 1) + 1) (p0 + 1)) else bnd1 (D_X3_get r q f 8 y2_4 p0) (fun (x47 : Int64) => (if (lg_cmp x47 0) = 0 then ((D_X1_isCrossClear_4 r q f p0 nn) (y2_4 + 1)) else 0))) := rfl
noncomputable def D_X1_isCrossClear (r : Nat → Int32) (q : Nat → Int32) (f : Nat → Nat → Int64) (p0 : Int32) : Int32 := (D_X1_isCrossClear_4 r q f p0 (gap (r (2 * 8)) (p0 + 1) + 1) (p0 + 1))
theorem D_X1_isCrossClear_s {r : Nat → Int32} {q : Nat → Int32} {f : Nat → Nat → Int64} {p0 : Int32} : D_X1_isCrossClear r q f p0 = (D_X1_isCrossClear_4 r q f p0 (gap (r (2 * 8)) (p0 + 1) + 1) (p0 + 1)) := rfl
set_option maxHeartbeats 4000000 in
set_option maxRecDepth 100000 in
theorem k_X1_isCrossClear (κ : Kt) (l : Launch) (a : Nat → Nat) (r q : Nat → Int32) (f : Nat → Nat → Int64) (p0 : Int32)  (o_x : Int32) (hR : D_X1_isCrossClear r q f p0 = o_x) : CM κ l yX1_isCrossClear cX1_isCrossClear 3 (some .boolean) 1 22 0 0 [.ref (a 3), .int p0] (cw κ a r q f) (fun o w' => o = some (.int o_x) ∧ (o_x = 0 ∨ o_x = 1) ∧ w' = cw κ a r q f) := by
  refine CM_begin (plainFor_of_name (by decide)) (Nat.le_of_ble_eq_true rfl) ?_
  intro p e s m args below meth c A Q hX hnm hA3 hQ hB ls hl
  have hx := hX.1.1
  have hb := hX.1.2.1
  have hl : lv_has ls 3 [(0, .ref (a 3)), (1, .int p0)] := hl
  replace hR := (D_X1_isCrossClear_s).symm.trans hR
  refine lv_iload_n hx hb dX1_isCrossClear_0 rfl (lv_at hl 1 rfl) ?_
  refine lv_iconst (v := 1) hx hb dX1_isCrossClear_1 (by decide) ?_
  refine lv_iadd hx hb dX1_isCrossClear_2 ?_
  refine lv_istore_n (lv' := [(2, .int (p0 + 1)), (0, .ref (a 3)), (1, .int p0)]) hx hb dX1_isCrossClear_3 rfl hl (by decide) rfl (fun ls hl => ?_)
  have lp4 : ∀ (nn4 : Nat) (y2_4 : Int32) (H : Heap) (locs : List Loc), gap (r (2 * 8)) y2_4 < nn4 → D_X1_isCrossClear_4 r q f p0 nn4 y2_4 = o_x → Bd κ A s (cw κ a r q f) H locs → ∀ ls : Array Slot, lv_has ls 3 [(2, .int y2_4), (0, .ref (a 3)), (1, .int p0)] → W p l e (Rm 1 22 0 0) s m args below meth c H locs 0 0 Q (F0 m 4 ls []) := by
    intro nn4
    induction nn4 with
    | zero => intro y2_4 H locs hμ; exact absurd hμ (Nat.not_lt_zero _)
    | succ nn4 ih4 =>
      intro y2_4 H locs hμ4 hR hB ls hl
      replace hR := (D_X1_isCrossClear_4_s).symm.trans hR
      refine lv_iload_n hx hb dX1_isCrossClear_4 rfl (lv_at hl 0 rfl) ?_
      refine lv_aload_n hx hb dX1_isCrossClear_5 rfl (lv_at hl 1 rfl) ?_
      refine gf hX hB cw3 rfl in1 0 (by decide) wm_1_95 rfl rfl dX1_isCrossClear_6 ?_
      refine gfN hX hB (cwG (i := 8) (by decide)) rfl in3 1 (by decide) wn_1_49 rfl rfl dX1_isCrossClear_9 ?_
      refine lv_icmp_ge (tgt := 37) hx hb dX1_isCrossClear_12 (by decide) (fun c33 => ?_) (fun c33 => ?_)
      · replace hR := ifp c33 hR
        refine lv_iload_n hx hb dX1_isCrossClear_37 rfl (lv_at hl 2 rfl) ?_
        refine lv_iconst (v := 1) hx hb dX1_isCrossClear_38 (by decide) ?_
        refine lv_iadd hx hb dX1_isCrossClear_39 ?_
        refine lv_istore_n (lv' := [(2, .int (p0 + 1)), (0, .ref (a 3)), (1, .int p0)]) hx hb dX1_isCrossClear_40 rfl hl (by decide) rfl (fun ls hl => ?_)
        have lp41 : ∀ (nn41 : Nat) (y2_41 : Int32) (H : Heap) (locs : List Loc), gap (r (2 * 8 + 1)) y2_41 < nn41 → D_X1_isCrossClear_41 r q f p0 nn41 y2_41 = o_x → Bd κ A s (cw κ a r q f) H locs → ∀ ls : Array Slot, lv_has ls 3 [(2, .int y2_41), (0, .ref (a 3)), (1, .int p0)] → W p l e (Rm 1 22 0 0) s m args below meth c H locs 0 0 Q (F0 m 41 ls []) := by
          intro nn41
          induction nn41 with
          | zero => intro y2_41 H locs hμ; exact absurd hμ (Nat.not_lt_zero _)
          | succ nn41 ih41 =>
            intro y2_41 H locs hμ41 hR hB ls hl
            replace hR := (D_X1_isCrossClear_41_s).symm.trans hR
            refine lv_iload_n hx hb dX1_isCrossClear_41 rfl (lv_at hl 0 rfl) ?_
            refine lv_aload_n hx hb dX1_isCrossClear_42 rfl (lv_at hl 1 rfl) ?_
            refine gf hX hB cw3 rfl in1 0 (by decide) wm_1_95 rfl rfl dX1_isCrossClear_43 ?_
            refine gfN hX hB (cwG (i := 8) (by decide)) rfl in3 2 (by decide) wn_1_54 rfl rfl dX1_isCrossClear_46 ?_
            refine lv_icmp_ge (tgt := 74) hx hb dX1_isCrossClear_49 (by decide) (fun c42 => ?_) (fun c42 => ?_)
            · replace hR := ifp c42 hR
              refine lv_iconst (v := 1) hx hb dX1_isCrossClear_74 (by decide) ?_
              rw [← hQ]
              exact end_i hX hB hA3 rfl rfl (by obtain rfl := hR; exact ⟨rfl, Or.inr rfl, rfl⟩) (Nat.le_of_ble_eq_true rfl) (Nat.le_of_ble_eq_true rfl) dX1_isCrossClear_75
            · replace hR := ifn c42 hR
              refine lv_aload_n hx hb dX1_isCrossClear_52 rfl (lv_at hl 1 rfl) ?_
              refine gf hX hB cw3 rfl in1 0 (by decide) wm_1_95 rfl rfl dX1_isCrossClear_53 ?_
              refine lv_iload_n hx hb dX1_isCrossClear_56 rfl (lv_at hl 2 rfl) ?_
              refine lv_iload_n hx hb dX1_isCrossClear_57 rfl (lv_at hl 0 rfl) ?_
              obtain ⟨x44, hd43⟩ := ex1 (D_X3_get r q f 8 p0 y2_41)
              replace hR := bnd1_use hd43 hR
              refine call_V (n := 2) (As := [.int p0, .int y2_41]) (rest := []) hX hB (k_X3_get κ l a r q f 8 p0 y2_41 (by decide) x44 hd43) ⟨rfl, by decide, by decide, by decide +kernel⟩ wm_2_87 wm_1_187 wm_1_188 wm_1_2 wm_1_189 ⟨Nat.le_of_ble_eq_true rfl, Nat.le_of_ble_eq_true rfl⟩ ⟨Nat.le_of_ble_eq_true rfl, Nat.le_of_ble_eq_true rfl⟩ (cwG (i := 8) (by decide)) rfl rfl rfl hl.1 rfl (Nat.le_of_ble_eq_true rfl) dX1_isCrossClear_58 (fun o w' H locs hp hB => ?_)
              obtain ⟨rfl, rfl⟩ := hp
              refine W.eq (g2 := F0 m 61 ls [.long x44]) rfl ?_
              refine lv_lconst (v := 0) hx hb dX1_isCrossClear_61 (by decide) ?_
              refine W.lcmp hx hb dX1_isCrossClear_62 ?_
              refine lv_if_eq (tgt := 68) hx hb dX1_isCrossClear_63 (by decide) (fun c45 => ?_) (fun c45 => ?_)
              · replace hR := ifp c45 hR
                refine lv_iinc (v := y2_41 + 1) (lv' := [(2, .int (y2_41 + 1)), (0, .ref (a 3)), (1, .int p0)]) hx hb dX1_isCrossClear_68 hl (k := 0) rfl rfl (by decide) rfl (fun ls hl => ?_)
                refine lv_goto (tgt := 41) hx hb dX1_isCrossClear_71 (by decide) ?_
                exact ih41 (y2_41 + 1) _ _  (gap_step c42 hμ41) hR hB _ hl
              · replace hR := ifn c45 hR
                refine lv_iconst (v := 0) hx hb dX1_isCrossClear_66 (by decide) ?_
                rw [← hQ]
                exact end_i hX hB hA3 rfl rfl (by obtain rfl := hR; exact ⟨rfl, Or.inl rfl, rfl⟩) (Nat.le_of_ble_eq_true rfl) (Nat.le_of_ble_eq_true rfl) dX1_isCrossClear_67
        exact lp41 _ (p0 + 1) _ _  (Nat.lt_succ_self _) hR hB _ hl
      · replace hR := ifn c33 hR
        refine lv_aload_n hx hb dX1_isCrossClear_15 rfl (lv_at hl 1 rfl) ?_
        refine gf hX hB cw3 rfl in1 0 (by decide) wm_1_95 rfl rfl dX1_isCrossClear_16 ?_
        refine lv_iload_n hx hb dX1_isCrossClear_19 rfl (lv_at hl 0 rfl) ?_
        refine lv_iload_n hx hb dX1_isCrossClear_20 rfl (lv_at hl 2 rfl) ?_
        obtain ⟨x47, hd46⟩ := ex1 (D_X3_get r q f 8 y2_4 p0)
        replace hR := bnd1_use hd46 hR
        refine call_V (n := 2) (As := [.int y2_4, .int p0]) (rest := []) hX hB (k_X3_get κ l a r q f 8 y2_4 p0 (by decide) x47 hd46) ⟨rfl, by decide, by decide, by decide +kernel⟩ wm_2_87 wm_1_187 wm_1_188 wm_1_2 wm_1_189 ⟨Nat.le_of_ble_eq_true rfl, Nat.le_of_ble_eq_true rfl⟩ ⟨Nat.le_of_ble_eq_true rfl, Nat.le_of_ble_eq_true rfl⟩ (cwG (i := 8) (by decide)) rfl rfl rfl hl.1 rfl (Nat.le_of_ble_eq_true rfl) dX1_isCrossClear_21 (fun o w' H locs hp hB => ?_)
        obtain ⟨rfl, rfl⟩ := hp
        refine W.eq (g2 := F0 m 24 ls [.long x47]) rfl ?_
        refine lv_lconst (v := 0) hx hb dX1_isCrossClear_24 (by decide) ?_
        refine W.lcmp hx hb dX1_isCrossClear_25 ?_
        refine lv_if_eq (tgt := 31) hx hb dX1_isCrossClear_26 (by decide) (fun c48 => ?_) (fun c48 => ?_)
        · replace hR := ifp c48 hR
          refine lv_iinc (v := y2_4 + 1) (lv' := [(2, .int (y2_4 + 1)), (0, .ref (a 3)), (1, .int p0)]) hx hb dX1_isCrossClear_31 hl (k := 0) rfl rfl (by decide) rfl (fun ls hl => ?_)
          refine lv_goto (tgt := 4) hx hb dX1_isCrossClear_34 (by decide) ?_
          exact ih4 (y2_4 + 1) _ _  (gap_step c33 hμ4) hR hB _ hl
        · replace hR := ifn c48 hR
          refine lv_iconst (v := 0) hx hb dX1_isCrossClear_29 (by decide) ?_
          rw [← hQ]
          exact end_i hX hB hA3 rfl rfl (by obtain rfl := hR; exact ⟨rfl, Or.inl rfl, rfl⟩) (Nat.le_of_ble_eq_true rfl) (Nat.le_of_ble_eq_true rfl) dX1_isCrossClear_30
  exact lp4 _ (p0 + 1) _ _  (Nat.lt_succ_self _) hR hB _ hl
noncomputable def D_X1_findUndividedRow_19 (r : Nat → Int32) (q : Nat → Int32) (f : Nat → Nat → Int64) (p0 : Int32) (lb4 : Int32 → Int32) (y2_4 : Int32) (nn : Nat) : Int32 → Int32 := @Nat.rec (fun _ => Int32 → Int32) (fun _ => default) (fun _ lb19 (y3_19 : Int32) => (if (r (2 * 8 + 1)) ≤ y3_19 then (lb4 (y2_4 + 1)) else bnd1 (D_X3_get r q f 8 p0 p0) (fun (x70 : Int64) => bnd1 (D_X3_get r q f 8 y2_4 y3_19) (fun (x72 : Int64) => bnd1 (D_X5_divides x70 x72) (fun (x73 : Int32) => (if x73 = 0 then y2_4 else (lb19 (y3_19 + 1)))))))) nn
theorem D_X1_findUndividedRow_19_s {r : Nat → Int32} {q : Nat → Int32} {f : Nat → Nat → Int64} {p0 : Int32} {lb4 : Int32 → Int32} {y2_4 : Int32} {nn : Nat} {y3_19 : Int32} : D_X1_findUndividedRow_19 r q f p0 lb4 y2_4 (nn + 1) y3_19 = (if (r (2 * 8 + 1)) ≤ y3_19 then (lb4 (y2_4 + 1)) else bnd1 (D_X3_get r q f 8 p0 p0) (fun (x70 : Int64) => bnd1 (D_X3_get r q f 8 y2_4 y3_19) (fun (x72 : Int64) => bnd1 (D_X5_divides x70 x72) (fun (x73 : Int32) => (if x73 = 0 then y2_4 else ((D_X1_findUndividedRow_19 r q f p0 lb4 y2_4 nn) (y3_19 + 1))))))) := rfl
noncomputable def D_X1_findUndividedRow_4 (r : Nat → Int32) (q : Nat → Int32) (f : Nat → Nat → Int64) (p0 : Int32) (nn : Nat) : Int32 → Int32 := @Nat.rec (fun _ => Int32 → Int32) (fun _ => default) (fun _ lb4 (y2_4 : Int32) => (if (r (2 * 8)) ≤ y2_4 then -1 else (D_X1_findUndividedRow_19 r q f p0 lb4 y2_4 (gap (r (2 * 8 + 1)) (p0 + 1) + 1) (p0 + 1)))) nn
theorem D_X1_findUndividedRow_4_s {r : Nat → Int32} {q : Nat → Int32} {f : Nat → Nat → Int64} {p0 : Int32} {nn : Nat} {y2_4 : Int32} : D_X1_findUndividedRow_4 r q f p0 (nn + 1) y2_4 = (if (r (2 * 8)) ≤ y2_4 then -1 else (D_X1_findUndividedRow_19 r q f p0 (D_X1_findUndividedRow_4 r q f p0 nn) y2_4 (gap (r (2 * 8 + 1)) (p0 + 1) + 1) (p0 + 1))) := rfl
noncomputable def D_X1_findUndividedRow (r : Nat → Int32) (q : Nat → Int32) (f : Nat → Nat → Int64) (p0 : Int32) : Int32 := (D_X1_findUndividedRow_4 r q f p0 (gap (r (2 * 8)) (p0 + 1) + 1) (p0 + 1))
theorem D_X1_findUndividedRow_s {r : Nat → Int32} {q : Nat → Int32} {f : Nat → Nat → Int64} {p0 : Int32} : D_X1_findUndividedRow r q f p0 = (D_X1_findUndividedRow_4 r q f p0 (gap (r (2 * 8)) (p0 + 1) + 1) (p0 + 1)) := rfl
set_option maxHeartbeats 4000000 in
set_option maxRecDepth 100000 in
theorem k_X1_findUndividedRow (κ : Kt) (l : Launch) (a : Nat → Nat) (r q : Nat → Int32) (f : Nat → Nat → Int64) (p0 : Int32)  (o_x : Int32) (hR : D_X1_findUndividedRow r q f p0 = o_x) : CM κ l yX1_findUndividedRow cX1_findUndividedRow 4 (some .int) 1 23 0 0 [.ref (a 3), .int p0] (cw κ a r q f) (fun o w' => o = some (.int o_x) ∧ w' = cw κ a r q f) := by
  refine CM_begin (plainFor_of_name (by decide)) (Nat.le_of_ble_eq_true rfl) ?_
  intro p e s m args below meth c A Q hX hnm hA3 hQ hB ls hl
  have hx := hX.1.1
  have hb := hX.1.2.1
  have hl : lv_has ls 4 [(0, .ref (a 3)), (1, .int p0)] := hl
  replace hR := (D_X1_findUndividedRow_s).symm.trans hR
  refine lv_iload_n hx hb dX1_findUndividedRow_0 rfl (lv_at hl 1 rfl) ?_
  refine lv_iconst (v := 1) hx hb dX1_findUndividedRow_1 (by decide) ?_
  refine lv_iadd hx hb dX1_findUndividedRow_2 ?_
  refine lv_istore_n (lv' := [(2, .int (p0 + 1)), (0, .ref (a 3)), (1, .int p0)]) hx hb dX1_findUndividedRow_3 rfl hl (by decide) rfl (fun ls hl => ?_)
  have lp4 : ∀ (nn4 : Nat) (y2_4 : Int32) (H : Heap) (locs : List Loc), gap (r (2 * 8)) y2_4 < nn4 → D_X1_findUndividedRow_4 r q f p0 nn4 y2_4 = o_x → Bd κ A s (cw κ a r q f) H locs → ∀ ls : Array Slot, lv_has ls 4 [(2, .int y2_4), (0, .ref (a 3)), (1, .int p0)] → W p l e (Rm 1 23 0 0) s m args below meth c H locs 0 0 Q (F0 m 4 ls []) := by
    intro nn4
    induction nn4 with
    | zero => intro y2_4 H locs hμ; exact absurd hμ (Nat.not_lt_zero _)
    | succ nn4 ih4 =>
      intro y2_4 H locs hμ4 hR hB ls hl
      replace hR := (D_X1_findUndividedRow_4_s).symm.trans hR
      refine lv_iload_n hx hb dX1_findUndividedRow_4 rfl (lv_at hl 0 rfl) ?_
      refine lv_aload_n hx hb dX1_findUndividedRow_5 rfl (lv_at hl 1 rfl) ?_
      refine gf hX hB cw3 rfl in1 0 (by decide) wm_1_95 rfl rfl dX1_findUndividedRow_6 ?_
      refine gfN hX hB (cwG (i := 8) (by decide)) rfl in3 1 (by decide) wn_1_49 rfl rfl dX1_findUndividedRow_9 ?_
      refine lv_icmp_ge (tgt := 68) hx hb dX1_findUndividedRow_12 (by decide) (fun c51 => ?_) (fun c51 => ?_)
      · replace hR := ifp c51 hR
        refine lv_iconst (v := (-1)) hx hb dX1_findUndividedRow_68 (by decide) ?_
        rw [← hQ]
        exact end_i hX hB hA3 rfl rfl (by obtain rfl := hR; exact ⟨rfl, rfl⟩) (Nat.le_of_ble_eq_true rfl) (Nat.le_of_ble_eq_true rfl) dX1_findUndividedRow_69
      · replace hR := ifn c51 hR
        refine lv_iload_n hx hb dX1_findUndividedRow_15 rfl (lv_at hl 2 rfl) ?_
        refine lv_iconst (v := 1) hx hb dX1_findUndividedRow_16 (by decide) ?_
        refine lv_iadd hx hb dX1_findUndividedRow_17 ?_
        refine lv_istore_n (lv' := [(3, .int (p0 + 1)), (2, .int y2_4), (0, .ref (a 3)), (1, .int p0)]) hx hb dX1_findUndividedRow_18 rfl hl (by decide) rfl (fun ls hl => ?_)
        have lp19 : ∀ (nn19 : Nat) (y3_19 : Int32) (H : Heap) (locs : List Loc), gap (r (2 * 8 + 1)) y3_19 < nn19 → D_X1_findUndividedRow_19 r q f p0 (D_X1_findUndividedRow_4 r q f p0 nn4) y2_4 nn19 y3_19 = o_x → Bd κ A s (cw κ a r q f) H locs → ∀ ls : Array Slot, lv_has ls 4 [(3, .int y3_19), (2, .int y2_4), (0, .ref (a 3)), (1, .int p0)] → W p l e (Rm 1 23 0 0) s m args below meth c H locs 0 0 Q (F0 m 19 ls []) := by
          intro nn19
          induction nn19 with
          | zero => intro y3_19 H locs hμ; exact absurd hμ (Nat.not_lt_zero _)
          | succ nn19 ih19 =>
            intro y3_19 H locs hμ19 hR hB ls hl
            replace hR := (D_X1_findUndividedRow_19_s).symm.trans hR
            refine lv_iload_n hx hb dX1_findUndividedRow_19 rfl (lv_at hl 0 rfl) ?_
            refine lv_aload_n hx hb dX1_findUndividedRow_20 rfl (lv_at hl 2 rfl) ?_
            refine gf hX hB cw3 rfl in1 0 (by decide) wm_1_95 rfl rfl dX1_findUndividedRow_21 ?_
            refine gfN hX hB (cwG (i := 8) (by decide)) rfl in3 2 (by decide) wn_1_54 rfl rfl dX1_findUndividedRow_24 ?_
            refine lv_icmp_ge (tgt := 62) hx hb dX1_findUndividedRow_27 (by decide) (fun c68 => ?_) (fun c68 => ?_)
            · replace hR := ifp c68 hR
              refine lv_iinc (v := y2_4 + 1) (lv' := [(2, .int (y2_4 + 1)), (3, .int y3_19), (0, .ref (a 3)), (1, .int p0)]) hx hb dX1_findUndividedRow_62 hl (k := 1) rfl rfl (by decide) rfl (fun ls hl => ?_)
              refine lv_goto (tgt := 4) hx hb dX1_findUndividedRow_65 (by decide) ?_
              exact ih4 (y2_4 + 1) _ _  (gap_step c51 hμ4) hR hB _ (lv_sub hl [0, 2, 3] rfl)
            · replace hR := ifn c68 hR
              refine lv_aload_n hx hb dX1_findUndividedRow_30 rfl (lv_at hl 2 rfl) ?_
              refine gf hX hB cw3 rfl in1 0 (by decide) wm_1_95 rfl rfl dX1_findUndividedRow_31 ?_
              refine lv_iload_n hx hb dX1_findUndividedRow_34 rfl (lv_at hl 3 rfl) ?_
              refine lv_iload_n hx hb dX1_findUndividedRow_35 rfl (lv_at hl 3 rfl) ?_
              obtain ⟨x70, hd69⟩ := ex1 (D_X3_get r q f 8 p0 p0)
              replace hR := bnd1_use hd69 hR
              refine call_V (n := 2) (As := [.int p0, .int p0]) (rest := []) hX hB (k_X3_get κ l a r q f 8 p0 p0 (by decide) x70 hd69) ⟨rfl, by decide, by decide, by decide +kernel⟩ wm_2_87 wm_1_187 wm_1_188 wm_1_2 wm_1_189 ⟨Nat.le_of_ble_eq_true rfl, Nat.le_of_ble_eq_true rfl⟩ ⟨Nat.le_of_ble_eq_true rfl, Nat.le_of_ble_eq_true rfl⟩ (cwG (i := 8) (by decide)) rfl rfl rfl hl.1 rfl (Nat.le_of_ble_eq_true rfl) dX1_findUndividedRow_36 (fun o w' H locs hp hB => ?_)
              obtain ⟨rfl, rfl⟩ := hp
              refine W.eq (g2 := F0 m 39 ls [.long x70]) rfl ?_
              refine lv_aload_n hx hb dX1_findUndividedRow_39 rfl (lv_at hl 2 rfl) ?_
              refine gf hX hB cw3 rfl in1 0 (by decide) wm_1_95 rfl rfl dX1_findUndividedRow_40 ?_
              refine lv_iload_n hx hb dX1_findUndividedRow_43 rfl (lv_at hl 1 rfl) ?_
              refine lv_iload_n hx hb dX1_findUndividedRow_44 rfl (lv_at hl 0 rfl) ?_
              obtain ⟨x72, hd71⟩ := ex1 (D_X3_get r q f 8 y2_4 y3_19)
              replace hR := bnd1_use hd71 hR
              refine call_V (n := 2) (As := [.int y2_4, .int y3_19]) (rest := [.long x70]) hX hB (k_X3_get κ l a r q f 8 y2_4 y3_19 (by decide) x72 hd71) ⟨rfl, by decide, by decide, by decide +kernel⟩ wm_2_87 wm_1_187 wm_1_188 wm_1_2 wm_1_189 ⟨Nat.le_of_ble_eq_true rfl, Nat.le_of_ble_eq_true rfl⟩ ⟨Nat.le_of_ble_eq_true rfl, Nat.le_of_ble_eq_true rfl⟩ (cwG (i := 8) (by decide)) rfl rfl rfl hl.1 rfl (Nat.le_of_ble_eq_true rfl) dX1_findUndividedRow_45 (fun o w' H locs hp hB => ?_)
              obtain ⟨rfl, rfl⟩ := hp
              refine W.eq (g2 := F0 m 48 ls [.long x72, .long x70]) rfl ?_
              obtain ⟨x73, hd74⟩ := ex1 (D_X5_divides x70 x72)
              replace hR := bnd1_use hd74 hR
              refine call_SN (n := 2) (As := [.long x70, .long x72]) (rest := []) hX hB (k_X5_divides κ l (cw κ a r q f) x70 x72  x73 hd74) ⟨by decide, by decide, by decide +kernel⟩ wn_2_115 wm_2_116 wm_1_1 wm_2_117 ⟨Nat.le_of_ble_eq_true rfl, Nat.le_of_ble_eq_true rfl⟩ ⟨Nat.le_of_ble_eq_true rfl, Nat.le_of_ble_eq_true rfl⟩ rfl hl.1 rfl (Nat.le_of_ble_eq_true rfl) dX1_findUndividedRow_48 (fun o w' H locs hp hB => ?_)
              obtain ⟨rfl, bx73, hw9⟩ := hp
              rw [hw9] at hB
              refine W.eq (g2 := F0 m 51 ls [.int x73]) rfl ?_
              refine lv_if_ne (tgt := 56) hx hb dX1_findUndividedRow_51 (by decide) (fun c75 => ?_) (fun c75 => ?_)
              · replace hR := ifn c75 hR
                refine lv_iinc (v := y3_19 + 1) (lv' := [(3, .int (y3_19 + 1)), (2, .int y2_4), (0, .ref (a 3)), (1, .int p0)]) hx hb dX1_findUndividedRow_56 hl (k := 0) rfl rfl (by decide) rfl (fun ls hl => ?_)
                refine lv_goto (tgt := 19) hx hb dX1_findUndividedRow_59 (by decide) ?_
                exact ih19 (y3_19 + 1) _ _  (gap_step c68 hμ19) hR hB _ hl
              · replace hR := ifp c75 hR
                refine lv_iload_n hx hb dX1_findUndividedRow_54 rfl (lv_at hl 1 rfl) ?_
                rw [← hQ]
                exact end_i hX hB hA3 rfl rfl (by obtain rfl := hR; exact ⟨rfl, rfl⟩) (Nat.le_of_ble_eq_true rfl) (Nat.le_of_ble_eq_true rfl) dX1_findUndividedRow_55
        exact lp19 _ (p0 + 1) _ _  (Nat.lt_succ_self _) hR hB _ hl
  exact lp4 _ (p0 + 1) _ _  (Nat.lt_succ_self _) hR hB _ hl
noncomputable def D_X1_clearCross_j158 (r : Nat → Int32) (p0 : Int32) (lb2 : Int32 → (Nat → Int32) → (Nat → Nat → Int64) → Int32 × (Nat → Int32) × (Nat → Nat → Int64)) (y2_2 : Int32) (q_103 : Nat → Int32) (f_103 : Nat → Nat → Int64) : Int32 × (Nat → Int32) × (Nat → Nat → Int64) := (if (q_103 1) = 0 then bnd1 (D_X1_isCrossClear r q_103 f_103 p0) (fun (x1883 : Int32) => (if x1883 = 0 then (lb2 (y2_2 + 1) q_103 f_103) else bnd1 (D_X1_findUndividedRow r q_103 f_103 p0) (fun (x1886 : Int32) => (if 0 ≤ x1886 then bnd2 (D_X1_addRow r q_103 f_103 p0 x1886 1) (fun (q1889 : Nat → Int32) (f1891 : Nat → Nat → Int64) => (lb2 (y2_2 + 1) q1889 f1891)) else (1, q_103, f_103))))) else (lb2 (y2_2 + 1) q_103 f_103))
theorem D_X1_clearCross_j158_s {r : Nat → Int32} {p0 : Int32} {lb2 : Int32 → (Nat → Int32) → (Nat → Nat → Int64) → Int32 × (Nat → Int32) × (Nat → Nat → Int64)} {y2_2 : Int32} {q_103 : Nat → Int32} {f_103 : Nat → Nat → Int64} : D_X1_clearCross_j158 r p0 lb2 y2_2 q_103 f_103 = (if (q_103 1) = 0 then bnd1 (D_X1_isCrossClear r q_103 f_103 p0) (fun (x1883 : Int32) => (if x1883 = 0 then (lb2 (y2_2 + 1) q_103 f_103) else bnd1 (D_X1_findUndividedRow r q_103 f_103 p0) (fun (x1886 : Int32) => (if 0 ≤ x1886 then bnd2 (D_X1_addRow r q_103 f_103 p0 x1886 1) (fun (q1889 : Nat → Int32) (f1891 : Nat → Nat → Int64) => (lb2 (y2_2 + 1) q1889 f1891)) else (1, q_103, f_103))))) else (lb2 (y2_2 + 1) q_103 f_103)) := rfl
noncomputable def D_X1_clearCross_103 (r : Nat → Int32) (p0 : Int32) (lb2 : Int32 → (Nat → Int32) → (Nat → Nat → Int64) → Int32 × (Nat → Int32) × (Nat → Nat → Int64)) (y2_2 : Int32) (nn : Nat) : Int32 → (Nat → Int32) → (Nat → Nat → Int64) → Int32 × (Nat → Int32) × (Nat → Nat → Int64) := @Nat.rec (fun _ => Int32 → (Nat → Int32) → (Nat → Nat → Int64) → Int32 × (Nat → Int32) × (Nat → Nat → Int64)) (fun _ _ _ => default) (fun _ lb103 (y4_103 : Int32) (q_103 : Nat → Int32) (f_103 : Nat → Nat → Int64) => (if (r (2 * 8 + 1)) ≤ y4_103 then (D_X1_clearCross_j158 r p0 lb2 y2_2 q_103 f_103) else (if (q_103 1) = 0 then bnd1 (D_X3_get r q_103 f_103 8 p0 y4_103) (fun (x1895 : Int64) => bnd1 (D_X3_get r q_103 f_103 8 p0 p0) (fun (x1897 : Int64) => bnd1 (D_X5_divideDown x1895 x1897) (fun (x1898 : Int64) => bnd2 (D_X1_addColumn r q_103 f_103 y4_103 p0 (-x1898)) (fun (q1901 : Nat → Int32) (f1903 : Nat → Nat → Int64) => (lb103 (y4_103 + 1) q1901 f1903))))) else (D_X1_clearCross_j158 r p0 lb2 y2_2 q_103 f_103)))) nn
theorem D_X1_clearCross_103_s {r : Nat → Int32} {p0 : Int32} {lb2 : Int32 → (Nat → Int32) → (Nat → Nat → Int64) → Int32 × (Nat → Int32) × (Nat → Nat → Int64)} {y2_2 : Int32} {nn : Nat} {y4_103 : Int32} {q_103 : Nat → Int32} {f_103 : Nat → Nat → Int64} : D_X1_clearCross_103 r p0 lb2 y2_2 (nn + 1) y4_103 q_103 f_103 = (if (r (2 * 8 + 1)) ≤ y4_103 then (D_X1_clearCross_j158 r p0 lb2 y2_2 q_103 f_103) else (if (q_103 1) = 0 then bnd1 (D_X3_get r q_103 f_103 8 p0 y4_103) (fun (x1895 : Int64) => bnd1 (D_X3_get r q_103 f_103 8 p0 p0) (fun (x1897 : Int64) => bnd1 (D_X5_divideDown x1895 x1897) (fun (x1898 : Int64) => bnd2 (D_X1_addColumn r q_103 f_103 y4_103 p0 (-x1898)) (fun (q1901 : Nat → Int32) (f1903 : Nat → Nat → Int64) => ((D_X1_clearCross_103 r p0 lb2 y2_2 nn) (y4_103 + 1) q1901 f1903))))) else (D_X1_clearCross_j158 r p0 lb2 y2_2 q_103 f_103))) := rfl
noncomputable def D_X1_clearCross_j158_1 (r : Nat → Int32) (p0 : Int32) (lb2 : Int32 → (Nat → Int32) → (Nat → Nat → Int64) → Int32 × (Nat → Int32) × (Nat → Nat → Int64)) (y2_2 : Int32) (q_103 : Nat → Int32) (f_103 : Nat → Nat → Int64) : Int32 × (Nat → Int32) × (Nat → Nat → Int64) := (if (q_103 1) = 0 then bnd1 (D_X1_isCrossClear r q_103 f_103 p0) (fun (x1989 : Int32) => (if x1989 = 0 then (lb2 (y2_2 + 1) q_103 f_103) else bnd1 (D_X1_findUndividedRow r q_103 f_103 p0) (fun (x1992 : Int32) => (if 0 ≤ x1992 then bnd2 (D_X1_addRow r q_103 f_103 p0 x1992 1) (fun (q1995 : Nat → Int32) (f1997 : Nat → Nat → Int64) => (lb2 (y2_2 + 1) q1995 f1997)) else (1, q_103, f_103))))) else (lb2 (y2_2 + 1) q_103 f_103))
theorem D_X1_clearCross_j158_1_s {r : Nat → Int32} {p0 : Int32} {lb2 : Int32 → (Nat → Int32) → (Nat → Nat → Int64) → Int32 × (Nat → Int32) × (Nat → Nat → Int64)} {y2_2 : Int32} {q_103 : Nat → Int32} {f_103 : Nat → Nat → Int64} : D_X1_clearCross_j158_1 r p0 lb2 y2_2 q_103 f_103 = (if (q_103 1) = 0 then bnd1 (D_X1_isCrossClear r q_103 f_103 p0) (fun (x1989 : Int32) => (if x1989 = 0 then (lb2 (y2_2 + 1) q_103 f_103) else bnd1 (D_X1_findUndividedRow r q_103 f_103 p0) (fun (x1992 : Int32) => (if 0 ≤ x1992 then bnd2 (D_X1_addRow r q_103 f_103 p0 x1992 1) (fun (q1995 : Nat → Int32) (f1997 : Nat → Nat → Int64) => (lb2 (y2_2 + 1) q1995 f1997)) else (1, q_103, f_103))))) else (lb2 (y2_2 + 1) q_103 f_103)) := rfl
noncomputable def D_X1_clearCross_103_1 (r : Nat → Int32) (p0 : Int32) (lb2 : Int32 → (Nat → Int32) → (Nat → Nat → Int64) → Int32 × (Nat → Int32) × (Nat → Nat → Int64)) (y2_2 : Int32) (nn : Nat) : Int32 → (Nat → Int32) → (Nat → Nat → Int64) → Int32 × (Nat → Int32) × (Nat → Nat → Int64) := @Nat.rec (fun _ => Int32 → (Nat → Int32) → (Nat → Nat → Int64) → Int32 × (Nat → Int32) × (Nat → Nat → Int64)) (fun _ _ _ => default) (fun _ lb103 (y4_103 : Int32) (q_103 : Nat → Int32) (f_103 : Nat → Nat → Int64) => (if (r (2 * 8 + 1)) ≤ y4_103 then (D_X1_clearCross_j158_1 r p0 lb2 y2_2 q_103 f_103) else (if (q_103 1) = 0 then bnd1 (D_X3_get r q_103 f_103 8 p0 y4_103) (fun (x2001 : Int64) => bnd1 (D_X3_get r q_103 f_103 8 p0 p0) (fun (x2003 : Int64) => bnd1 (D_X5_divideDown x2001 x2003) (fun (x2004 : Int64) => bnd2 (D_X1_addColumn r q_103 f_103 y4_103 p0 (-x2004)) (fun (q2007 : Nat → Int32) (f2009 : Nat → Nat → Int64) => (lb103 (y4_103 + 1) q2007 f2009))))) else (D_X1_clearCross_j158_1 r p0 lb2 y2_2 q_103 f_103)))) nn
theorem D_X1_clearCross_103_1_s {r : Nat → Int32} {p0 : Int32} {lb2 : Int32 → (Nat → Int32) → (Nat → Nat → Int64) → Int32 × (Nat → Int32) × (Nat → Nat → Int64)} {y2_2 : Int32} {nn : Nat} {y4_103 : Int32} {q_103 : Nat → Int32} {f_103 : Nat → Nat → Int64} : D_X1_clearCross_103_1 r p0 lb2 y2_2 (nn + 1) y4_103 q_103 f_103 = (if (r (2 * 8 + 1)) ≤ y4_103 then (D_X1_clearCross_j158_1 r p0 lb2 y2_2 q_103 f_103) else (if (q_103 1) = 0 then bnd1 (D_X3_get r q_103 f_103 8 p0 y4_103) (fun (x2001 : Int64) => bnd1 (D_X3_get r q_103 f_103 8 p0 p0) (fun (x2003 : Int64) => bnd1 (D_X5_divideDown x2001 x2003) (fun (x2004 : Int64) => bnd2 (D_X1_addColumn r q_103 f_103 y4_103 p0 (-x2004)) (fun (q2007 : Nat → Int32) (f2009 : Nat → Nat → Int64) => ((D_X1_clearCross_103_1 r p0 lb2 y2_2 nn) (y4_103 + 1) q2007 f2009))))) else (D_X1_clearCross_j158_1 r p0 lb2 y2_2 q_103 f_103))) := rfl
noncomputable def D_X1_clearCross_43 (r : Nat → Int32) (p0 : Int32) (lb2 : Int32 → (Nat → Int32) → (Nat → Nat → Int64) → Int32 × (Nat → Int32) × (Nat → Nat → Int64)) (y2_2 : Int32) (nn : Nat) : Int32 → (Nat → Int32) → (Nat → Nat → Int64) → Int32 × (Nat → Int32) × (Nat → Nat → Int64) := @Nat.rec (fun _ => Int32 → (Nat → Int32) → (Nat → Nat → Int64) → Int32 × (Nat → Int32) × (Nat → Nat → Int64)) (fun _ _ _ => default) (fun _ lb43 (y4_43 : Int32) (q_43 : Nat → Int32) (f_43 : Nat → Nat → Int64) => (if (r (2 * 8)) ≤ y4_43 then (D_X1_clearCross_103 r p0 lb2 y2_2 (gap (r (2 * 8 + 1)) (p0 + 1) + 1) (p0 + 1) q_43 f_43) else (if (q_43 1) = 0 then bnd1 (D_X3_get r q_43 f_43 8 y4_43 p0) (fun (x2011 : Int64) => bnd1 (D_X3_get r q_43 f_43 8 p0 p0) (fun (x2013 : Int64) => bnd1 (D_X5_divideDown x2011 x2013) (fun (x2014 : Int64) => bnd2 (D_X1_addRow r q_43 f_43 y4_43 p0 (-x2014)) (fun (q2017 : Nat → Int32) (f2019 : Nat → Nat → Int64) => (lb43 (y4_43 + 1) q2017 f2019))))) else (D_X1_clearCross_103_1 r p0 lb2 y2_2 (gap (r (2 * 8 + 1)) (p0 + 1) + 1) (p0 + 1) q_43 f_43)))) nn
theorem D_X1_clearCross_43_s {r : Nat → Int32} {p0 : Int32} {lb2 : Int32 → (Nat → Int32) → (Nat → Nat → Int64) → Int32 × (Nat → Int32) × (Nat → Nat → Int64)} {y2_2 : Int32} {nn : Nat} {y4_43 : Int32} {q_43 : Nat → Int32} {f_43 : Nat → Nat → Int64} : D_X1_clearCross_43 r p0 lb2 y2_2 (nn + 1) y4_43 q_43 f_43 = (if (r (2 * 8)) ≤ y4_43 then (D_X1_clearCross_103 r p0 lb2 y2_2 (gap (r (2 * 8 + 1)) (p0 + 1) + 1) (p0 + 1) q_43 f_43) else (if (q_43 1) = 0 then bnd1 (D_X3_get r q_43 f_43 8 y4_43 p0) (fun (x2011 : Int64) => bnd1 (D_X3_get r q_43 f_43 8 p0 p0) (fun (x2013 : Int64) => bnd1 (D_X5_divideDown x2011 x2013) (fun (x2014 : Int64) => bnd2 (D_X1_addRow r q_43 f_43 y4_43 p0 (-x2014)) (fun (q2017 : Nat → Int32) (f2019 : Nat → Nat → Int64) => ((D_X1_clearCross_43 r p0 lb2 y2_2 nn) (y4_43 + 1) q2017 f2019))))) else (D_X1_clearCross_103_1 r p0 lb2 y2_2 (gap (r (2 * 8 + 1)) (p0 + 1) + 1) (p0 + 1) q_43 f_43))) := rfl
noncomputable def D_X1_clearCross_2 (r : Nat → Int32) (p0 : Int32) (nn : Nat) : Int32 → (Nat → Int32) → (Nat → Nat → Int64) → Int32 × (Nat → Int32) × (Nat → Nat → Int64) := @Nat.rec (fun _ => Int32 → (Nat → Int32) → (Nat → Nat → Int64) → Int32 × (Nat → Int32) × (Nat → Nat → Int64)) (fun _ _ _ => default) (fun _ lb2 (y2_2 : Int32) (q_2 : Nat → Int32) (f_2 : Nat → Nat → Int64) => (if 1000000 ≤ y2_2 then (0, q_2, f_2) else (if (q_2 1) = 0 then bnd1 (D_X1_findLeastPlace r q_2 f_2 p0) (fun (x1350 : Int32) => (if 0 ≤ x1350 then bnd1 (D_X1_bring r q_2 f_2 (x1350 / 5) (x1350 - x1350 / 5 * 5) p0) (fun (f1353 : Nat → Nat → Int64) => (D_X1_clearCross_43 r p0 lb2 y2_2 (gap (r (2 * 8)) (p0 + 1) + 1) (p0 + 1) q_2 f1353)) else (0, q_2, f_2))) else (0, q_2, f_2)))) nn
theorem D_X1_clearCross_2_s {r : Nat → Int32} {p0 : Int32} {nn : Nat} {y2_2 : Int32} {q_2 : Nat → Int32} {f_2 : Nat → Nat → Int64} : D_X1_clearCross_2 r p0 (nn + 1) y2_2 q_2 f_2 = (if 1000000 ≤ y2_2 then (0, q_2, f_2) else (if (q_2 1) = 0 then bnd1 (D_X1_findLeastPlace r q_2 f_2 p0) (fun (x1350 : Int32) => (if 0 ≤ x1350 then bnd1 (D_X1_bring r q_2 f_2 (x1350 / 5) (x1350 - x1350 / 5 * 5) p0) (fun (f1353 : Nat → Nat → Int64) => (D_X1_clearCross_43 r p0 (D_X1_clearCross_2 r p0 nn) y2_2 (gap (r (2 * 8)) (p0 + 1) + 1) (p0 + 1) q_2 f1353)) else (0, q_2, f_2))) else (0, q_2, f_2))) := rfl
noncomputable def D_X1_clearCross (r : Nat → Int32) (q : Nat → Int32) (f : Nat → Nat → Int64) (p0 : Int32) : Int32 × (Nat → Int32) × (Nat → Nat → Int64) := (D_X1_clearCross_2 r p0 (gap 1000000 0 + 1) 0 q f)
theorem D_X1_clearCross_s {r : Nat → Int32} {q : Nat → Int32} {f : Nat → Nat → Int64} {p0 : Int32} : D_X1_clearCross r q f p0 = (D_X1_clearCross_2 r p0 (gap 1000000 0 + 1) 0 q f) := rfl
set_option maxHeartbeats 4000000 in
set_option maxRecDepth 100000 in
theorem k_X1_clearCross (κ : Kt) (l : Launch) (a : Nat → Nat) (r q : Nat → Int32) (f : Nat → Nat → Int64) (p0 : Int32)  (o_x : Int32) (o_q : Nat → Int32) (o_f : Nat → Nat → Int64) (hR : D_X1_clearCross r q f p0 = (o_x, o_q, o_f)) : CM κ l yX1_clearCross cX1_clearCross 5 (some .boolean) 3 75 0 0 [.ref (a 3), .int p0] (cw κ a r q f) (fun o w' => o = some (.int o_x) ∧ (o_x = 0 ∨ o_x = 1) ∧ o_q 4 = q 4 ∧ w' = cw κ a r o_q o_f) := by
  refine CM_begin (plainFor_of_name (by decide)) (Nat.le_of_ble_eq_true rfl) ?_
  intro p e s m args below meth c A Q hX hnm hA3 hQ hB ls hl
  have hx := hX.1.1
  have hb := hX.1.2.1
  have hl : lv_has ls 5 [(0, .ref (a 3)), (1, .int p0)] := hl
  replace hR := (D_X1_clearCross_s).symm.trans hR
  refine lv_iconst (v := 0) hx hb dX1_clearCross_0 (by decide) ?_
  refine lv_istore_n (lv' := [(2, .int 0), (0, .ref (a 3)), (1, .int p0)]) hx hb dX1_clearCross_1 rfl hl (by decide) rfl (fun ls hl => ?_)
  have lp2 : ∀ (nn2 : Nat) (y2_2 : Int32) (q_2 : Nat → Int32) (f_2 : Nat → Nat → Int64) (H : Heap) (locs : List Loc), q_2 4 = q 4 → gap 1000000 y2_2 < nn2 → D_X1_clearCross_2 r p0 nn2 y2_2 q_2 f_2 = (o_x, o_q, o_f) → Bd κ A s (cw κ a r q_2 f_2) H locs → ∀ ls : Array Slot, lv_has ls 5 [(2, .int y2_2), (0, .ref (a 3)), (1, .int p0)] → W p l e (Rm 3 75 0 0) s m args below meth c H locs 0 0 Q (F0 m 2 ls []) := by
    intro nn2
    induction nn2 with
    | zero => intro y2_2 q_2 f_2 H locs hwq_2 hμ; exact absurd hμ (Nat.not_lt_zero _)
    | succ nn2 ih2 =>
      intro y2_2 q_2 f_2 H locs hwq_2 hμ2 hR hB ls hl
      replace hR := (D_X1_clearCross_2_s).symm.trans hR
      refine lv_iload_n hx hb dX1_clearCross_2 rfl (lv_at hl 0 rfl) ?_
      refine lv_ldc (own := RX1) (v := 1000000) hx hb hX.1.2.2.2.1 (hX.1.2.2.2.2 _ wm_2_82) dX1_clearCross_3 ?_
      refine lv_icmp_ge (tgt := 201) hx hb dX1_clearCross_5 (by decide) (fun c1347 => ?_) (fun c1347 => ?_)
      · replace hR := ifp c1347 hR
        refine lv_iconst (v := 0) hx hb dX1_clearCross_201 (by decide) ?_
        rw [← hQ]
        exact end_i hX hB hA3 rfl rfl (by obtain ⟨rfl, rfl, rfl⟩ := pr3 hR; exact ⟨rfl, Or.inl rfl, hwq_2, rfl⟩) (Nat.le_of_ble_eq_true rfl) (Nat.le_of_ble_eq_true rfl) dX1_clearCross_202
      · replace hR := ifn c1347 hR
        refine lv_aload_n hx hb dX1_clearCross_8 rfl (lv_at hl 1 rfl) ?_
        refine gf hX hB cw3 rfl in1 3 (by decide) wm_1_104 rfl rfl dX1_clearCross_9 ?_
        refine lv_if_ne (tgt := 201) hx hb dX1_clearCross_12 (by decide) (fun c1348 => ?_) (fun c1348 => ?_)
        · replace hR := ifn c1348 hR
          refine lv_iconst (v := 0) hx hb dX1_clearCross_201 (by decide) ?_
          rw [← hQ]
          exact end_i hX hB hA3 rfl rfl (by obtain ⟨rfl, rfl, rfl⟩ := pr3 hR; exact ⟨rfl, Or.inl rfl, hwq_2, rfl⟩) (Nat.le_of_ble_eq_true rfl) (Nat.le_of_ble_eq_true rfl) dX1_clearCross_202
        · replace hR := ifp c1348 hR
          refine lv_aload_n hx hb dX1_clearCross_15 rfl (lv_at hl 1 rfl) ?_
          refine lv_iload_n hx hb dX1_clearCross_16 rfl (lv_at hl 2 rfl) ?_
          obtain ⟨x1350, hd1349⟩ := ex1 (D_X1_findLeastPlace r q_2 f_2 p0)
          replace hR := bnd1_use hd1349 hR
          refine call_V (n := 1) (As := [.int p0]) (rest := []) hX hB (k_X1_findLeastPlace κ l a r q_2 f_2 p0 x1350 hd1349) ⟨rfl, by decide, by decide, by decide +kernel⟩ wm_2_83 wm_2_85 wp_8 wm_1_4 wm_2_86 ⟨Nat.le_of_ble_eq_true rfl, Nat.le_of_ble_eq_true rfl⟩ ⟨Nat.le_of_ble_eq_true rfl, Nat.le_of_ble_eq_true rfl⟩ cw3 rfl rfl rfl hl.1 rfl (Nat.le_of_ble_eq_true rfl) dX1_clearCross_17 (fun o w' H locs hp hB => ?_)
          obtain ⟨rfl, rfl⟩ := hp
          refine W.eq (g2 := F0 m 20 ls [.int x1350]) rfl ?_
          refine lv_istore_n (lv' := [(3, .int x1350), (2, .int y2_2), (0, .ref (a 3)), (1, .int p0)]) hx hb dX1_clearCross_20 rfl hl (by decide) rfl (fun ls hl => ?_)
          refine lv_iload_n hx hb dX1_clearCross_21 rfl (lv_at hl 0 rfl) ?_
          refine lv_if_ge (tgt := 27) hx hb dX1_clearCross_22 (by decide) (fun c1351 => ?_) (fun c1351 => ?_)
          · replace hR := ifp c1351 hR
            refine lv_aload_n hx hb dX1_clearCross_27 rfl (lv_at hl 2 rfl) ?_
            refine lv_iload_n hx hb dX1_clearCross_28 rfl (lv_at hl 0 rfl) ?_
            refine lv_iconst (v := 5) hx hb dX1_clearCross_29 (by decide) ?_
            refine lv_idiv hx hb dX1_clearCross_30 (by decide) ?_
            refine lv_iload_n hx hb dX1_clearCross_31 rfl (lv_at hl 0 rfl) ?_
            refine lv_iconst (v := 5) hx hb dX1_clearCross_32 (by decide) ?_
            refine lv_irem hx hb dX1_clearCross_33 (by decide) ?_
            refine lv_iload_n hx hb dX1_clearCross_34 rfl (lv_at hl 3 rfl) ?_
            obtain ⟨f1353, hd1352⟩ := ex1 (D_X1_bring r q_2 f_2 (x1350 / 5) (x1350 - x1350 / 5 * 5) p0)
            replace hR := bnd1_use hd1352 hR
            refine call_V (n := 3) (As := [.int (x1350 / 5), .int (x1350 - x1350 / 5 * 5), .int p0]) (rest := []) hX hB (k_X1_bring κ l a r q_2 f_2 (x1350 / 5) (x1350 - x1350 / 5 * 5) p0 f1353 hd1352) ⟨rfl, by decide, by decide, by decide +kernel⟩ wm_2_89 wm_2_91 wp_9 wm_1_4 wm_2_92 ⟨Nat.le_of_ble_eq_true rfl, Nat.le_of_ble_eq_true rfl⟩ ⟨Nat.le_of_ble_eq_true rfl, Nat.le_of_ble_eq_true rfl⟩ cw3 rfl rfl rfl hl.1 rfl (Nat.le_of_ble_eq_true rfl) dX1_clearCross_35 (fun o w' H locs hp hB => ?_)
            obtain ⟨rfl, rfl⟩ := hp
            refine W.eq (g2 := F0 m 38 ls []) rfl ?_
            refine lv_iload_n hx hb dX1_clearCross_38 rfl (lv_at hl 3 rfl) ?_
            refine lv_iconst (v := 1) hx hb dX1_clearCross_39 (by decide) ?_
            refine lv_iadd hx hb dX1_clearCross_40 ?_
            refine lv_istore (lv' := [(4, .int (p0 + 1)), (3, .int x1350), (2, .int y2_2), (0, .ref (a 3)), (1, .int p0)]) hx hb dX1_clearCross_41 hl (by decide) rfl (fun ls hl => ?_)
            have lp43 : ∀ (nn43 : Nat) (y4_43 : Int32) (q_43 : Nat → Int32) (f_43 : Nat → Nat → Int64) (H : Heap) (locs : List Loc), q_43 4 = q 4 → gap (r (2 * 8)) y4_43 < nn43 → D_X1_clearCross_43 r p0 (D_X1_clearCross_2 r p0 nn2) y2_2 nn43 y4_43 q_43 f_43 = (o_x, o_q, o_f) → Bd κ A s (cw κ a r q_43 f_43) H locs → ∀ ls : Array Slot, lv_has ls 5 [(4, .int y4_43), (3, .int x1350), (2, .int y2_2), (0, .ref (a 3)), (1, .int p0)] → W p l e (Rm 3 75 0 0) s m args below meth c H locs 0 0 Q (F0 m 43 ls []) := by
              intro nn43
              induction nn43 with
              | zero => intro y4_43 q_43 f_43 H locs hwq_43 hμ; exact absurd hμ (Nat.not_lt_zero _)
              | succ nn43 ih43 =>
                intro y4_43 q_43 f_43 H locs hwq_43 hμ43 hR hB ls hl
                replace hR := (D_X1_clearCross_43_s).symm.trans hR
                refine lv_iload hx hb dX1_clearCross_43 (lv_at hl 0 rfl) ?_
                refine lv_aload_n hx hb dX1_clearCross_45 rfl (lv_at hl 3 rfl) ?_
                refine gf hX hB cw3 rfl in1 0 (by decide) wm_1_95 rfl rfl dX1_clearCross_46 ?_
                refine gfN hX hB (cwG (i := 8) (by decide)) rfl in3 1 (by decide) wn_1_49 rfl rfl dX1_clearCross_49 ?_
                refine lv_icmp_ge (tgt := 98) hx hb dX1_clearCross_52 (by decide) (fun c1798 => ?_) (fun c1798 => ?_)
                · replace hR := ifp c1798 hR
                  refine lv_iload_n hx hb dX1_clearCross_98 rfl (lv_at hl 4 rfl) ?_
                  refine lv_iconst (v := 1) hx hb dX1_clearCross_99 (by decide) ?_
                  refine lv_iadd hx hb dX1_clearCross_100 ?_
                  refine lv_istore (lv' := [(4, .int (p0 + 1)), (3, .int x1350), (2, .int y2_2), (0, .ref (a 3)), (1, .int p0)]) hx hb dX1_clearCross_101 hl (by decide) rfl (fun ls hl => ?_)
                  have lp103 : ∀ (nn103 : Nat) (y4_103 : Int32) (q_103 : Nat → Int32) (f_103 : Nat → Nat → Int64) (H : Heap) (locs : List Loc), q_103 4 = q 4 → gap (r (2 * 8 + 1)) y4_103 < nn103 → D_X1_clearCross_103 r p0 (D_X1_clearCross_2 r p0 nn2) y2_2 nn103 y4_103 q_103 f_103 = (o_x, o_q, o_f) → Bd κ A s (cw κ a r q_103 f_103) H locs → ∀ ls : Array Slot, lv_has ls 5 [(4, .int y4_103), (3, .int x1350), (2, .int y2_2), (0, .ref (a 3)), (1, .int p0)] → W p l e (Rm 3 75 0 0) s m args below meth c H locs 0 0 Q (F0 m 103 ls []) := by
                    intro nn103
                    induction nn103 with
                    | zero => intro y4_103 q_103 f_103 H locs hwq_103 hμ; exact absurd hμ (Nat.not_lt_zero _)
                    | succ nn103 ih103 =>
                      intro y4_103 q_103 f_103 H locs hwq_103 hμ103 hR hB ls hl
                      replace hR := (D_X1_clearCross_103_s).symm.trans hR
                      refine lv_iload hx hb dX1_clearCross_103 (lv_at hl 0 rfl) ?_
                      refine lv_aload_n hx hb dX1_clearCross_105 rfl (lv_at hl 3 rfl) ?_
                      refine gf hX hB cw3 rfl in1 0 (by decide) wm_1_95 rfl rfl dX1_clearCross_106 ?_
                      refine gfN hX hB (cwG (i := 8) (by decide)) rfl in3 2 (by decide) wn_1_54 rfl rfl dX1_clearCross_109 ?_
                      have jn158 : ∀ (H : Heap) (locs : List Loc), D_X1_clearCross_j158 r p0 (D_X1_clearCross_2 r p0 nn2) y2_2 q_103 f_103 = (o_x, o_q, o_f) → Bd κ A s (cw κ a r q_103 f_103) H locs → ∀ ls : Array Slot, lv_has ls 5 [(4, .int y4_103), (3, .int x1350), (2, .int y2_2), (0, .ref (a 3)), (1, .int p0)] → W p l e (Rm 3 75 0 0) s m args below meth c H locs 0 0 Q (F0 m 158 ls []) := by
                        intro H locs hR hB ls hl
                        replace hR := (D_X1_clearCross_j158_s).symm.trans hR
                        refine lv_aload_n hx hb dX1_clearCross_158 rfl (lv_at hl 3 rfl) ?_
                        refine gf hX hB cw3 rfl in1 3 (by decide) wm_1_104 rfl rfl dX1_clearCross_159 ?_
                        refine lv_if_ne (tgt := 195) hx hb dX1_clearCross_162 (by decide) (fun c1881 => ?_) (fun c1881 => ?_)
                        · replace hR := ifn c1881 hR
                          refine lv_iinc (v := y2_2 + 1) (lv' := [(2, .int (y2_2 + 1)), (4, .int y4_103), (3, .int x1350), (0, .ref (a 3)), (1, .int p0)]) hx hb dX1_clearCross_195 hl (k := 2) rfl rfl (by decide) rfl (fun ls hl => ?_)
                          refine lv_goto (tgt := 2) hx hb dX1_clearCross_198 (by decide) ?_
                          exact ih2 (y2_2 + 1) q_103 f_103 _ _ hwq_103 (gap_step c1347 hμ2) hR hB _ (lv_sub hl [0, 3, 4] rfl)
                        · replace hR := ifp c1881 hR
                          refine lv_aload_n hx hb dX1_clearCross_165 rfl (lv_at hl 3 rfl) ?_
                          refine lv_iload_n hx hb dX1_clearCross_166 rfl (lv_at hl 4 rfl) ?_
                          obtain ⟨x1883, hd1882⟩ := ex1 (D_X1_isCrossClear r q_103 f_103 p0)
                          replace hR := bnd1_use hd1882 hR
                          refine call_V (n := 1) (As := [.int p0]) (rest := []) hX hB (k_X1_isCrossClear κ l a r q_103 f_103 p0 x1883 hd1882) ⟨rfl, by decide, by decide, by decide +kernel⟩ wm_2_107 wm_2_109 wp_12 wm_1_4 wm_2_110 ⟨Nat.le_of_ble_eq_true rfl, Nat.le_of_ble_eq_true rfl⟩ ⟨Nat.le_of_ble_eq_true rfl, Nat.le_of_ble_eq_true rfl⟩ cw3 rfl rfl rfl hl.1 rfl (Nat.le_of_ble_eq_true rfl) dX1_clearCross_167 (fun o w' H locs hp hB => ?_)
                          obtain ⟨rfl, bx1883, rfl⟩ := hp
                          refine W.eq (g2 := F0 m 170 ls [.int x1883]) rfl ?_
                          refine lv_if_eq (tgt := 195) hx hb dX1_clearCross_170 (by decide) (fun c1884 => ?_) (fun c1884 => ?_)
                          · replace hR := ifp c1884 hR
                            refine lv_iinc (v := y2_2 + 1) (lv' := [(2, .int (y2_2 + 1)), (4, .int y4_103), (3, .int x1350), (0, .ref (a 3)), (1, .int p0)]) hx hb dX1_clearCross_195 hl (k := 2) rfl rfl (by decide) rfl (fun ls hl => ?_)
                            refine lv_goto (tgt := 2) hx hb dX1_clearCross_198 (by decide) ?_
                            exact ih2 (y2_2 + 1) q_103 f_103 _ _ hwq_103 (gap_step c1347 hμ2) hR hB _ (lv_sub hl [0, 3, 4] rfl)
                          · replace hR := ifn c1884 hR
                            refine lv_aload_n hx hb dX1_clearCross_173 rfl (lv_at hl 3 rfl) ?_
                            refine lv_iload_n hx hb dX1_clearCross_174 rfl (lv_at hl 4 rfl) ?_
                            obtain ⟨x1886, hd1885⟩ := ex1 (D_X1_findUndividedRow r q_103 f_103 p0)
                            replace hR := bnd1_use hd1885 hR
                            refine call_V (n := 1) (As := [.int p0]) (rest := []) hX hB (k_X1_findUndividedRow κ l a r q_103 f_103 p0 x1886 hd1885) ⟨rfl, by decide, by decide, by decide +kernel⟩ wm_2_111 wm_2_113 wp_13 wm_1_4 wm_2_114 ⟨Nat.le_of_ble_eq_true rfl, Nat.le_of_ble_eq_true rfl⟩ ⟨Nat.le_of_ble_eq_true rfl, Nat.le_of_ble_eq_true rfl⟩ cw3 rfl rfl rfl hl.1 rfl (Nat.le_of_ble_eq_true rfl) dX1_clearCross_175 (fun o w' H locs hp hB => ?_)
                            obtain ⟨rfl, rfl⟩ := hp
                            refine W.eq (g2 := F0 m 178 ls [.int x1886]) rfl ?_
                            refine lv_istore (lv' := [(4, .int x1886), (3, .int x1350), (2, .int y2_2), (0, .ref (a 3)), (1, .int p0)]) hx hb dX1_clearCross_178 hl (by decide) rfl (fun ls hl => ?_)
                            refine lv_iload hx hb dX1_clearCross_180 (lv_at hl 0 rfl) ?_
                            refine lv_if_ge (tgt := 187) hx hb dX1_clearCross_182 (by decide) (fun c1887 => ?_) (fun c1887 => ?_)
                            · replace hR := ifp c1887 hR
                              refine lv_aload_n hx hb dX1_clearCross_187 rfl (lv_at hl 3 rfl) ?_
                              refine lv_iload_n hx hb dX1_clearCross_188 rfl (lv_at hl 4 rfl) ?_
                              refine lv_iload hx hb dX1_clearCross_189 (lv_at hl 0 rfl) ?_
                              refine lv_lconst (v := 1) hx hb dX1_clearCross_191 (by decide) ?_
                              obtain ⟨q1889, f1891, hd1888⟩ := ex2 (D_X1_addRow r q_103 f_103 p0 x1886 1)
                              replace hR := bnd2_use hd1888 hR
                              refine call_V (n := 3) (As := [.int p0, .int x1886, .long 1]) (rest := []) hX hB (k_X1_addRow κ l a r q_103 f_103 p0 x1886 1 q1889 f1891 hd1888) ⟨rfl, by decide, by decide, by decide +kernel⟩ wm_2_96 wm_2_98 wp_10 wm_1_4 wm_2_99 ⟨Nat.le_of_ble_eq_true rfl, Nat.le_of_ble_eq_true rfl⟩ ⟨Nat.le_of_ble_eq_true rfl, Nat.le_of_ble_eq_true rfl⟩ cw3 rfl rfl rfl hl.1 rfl (Nat.le_of_ble_eq_true rfl) dX1_clearCross_192 (fun o w' H locs hp hB => ?_)
                              obtain ⟨rfl, hq1890, rfl⟩ := hp
                              refine W.eq (g2 := F0 m 195 ls []) rfl ?_
                              refine lv_iinc (v := y2_2 + 1) (lv' := [(2, .int (y2_2 + 1)), (4, .int x1886), (3, .int x1350), (0, .ref (a 3)), (1, .int p0)]) hx hb dX1_clearCross_195 hl (k := 2) rfl rfl (by decide) rfl (fun ls hl => ?_)
                              refine lv_goto (tgt := 2) hx hb dX1_clearCross_198 (by decide) ?_
                              exact ih2 (y2_2 + 1) q1889 f1891 _ _ (hq1890.trans hwq_103) (gap_step c1347 hμ2) hR hB _ (lv_sub hl [0, 3, 4] rfl)
                            · replace hR := ifn c1887 hR
                              refine lv_iconst (v := 1) hx hb dX1_clearCross_185 (by decide) ?_
                              rw [← hQ]
                              exact end_i hX hB hA3 rfl rfl (by obtain ⟨rfl, rfl, rfl⟩ := pr3 hR; exact ⟨rfl, Or.inr rfl, hwq_103, rfl⟩) (Nat.le_of_ble_eq_true rfl) (Nat.le_of_ble_eq_true rfl) dX1_clearCross_186
                      refine lv_icmp_ge (tgt := 158) hx hb dX1_clearCross_112 (by decide) (fun c1892 => ?_) (fun c1892 => ?_)
                      · replace hR := ifp c1892 hR
                        exact jn158  _ _  hR hB _ hl
                      · replace hR := ifn c1892 hR
                        refine lv_aload_n hx hb dX1_clearCross_115 rfl (lv_at hl 3 rfl) ?_
                        refine gf hX hB cw3 rfl in1 3 (by decide) wm_1_104 rfl rfl dX1_clearCross_116 ?_
                        refine lv_if_ne (tgt := 158) hx hb dX1_clearCross_119 (by decide) (fun c1893 => ?_) (fun c1893 => ?_)
                        · replace hR := ifn c1893 hR
                          exact jn158  _ _  hR hB _ hl
                        · replace hR := ifp c1893 hR
                          refine lv_aload_n hx hb dX1_clearCross_122 rfl (lv_at hl 3 rfl) ?_
                          refine lv_iload hx hb dX1_clearCross_123 (lv_at hl 0 rfl) ?_
                          refine lv_iload_n hx hb dX1_clearCross_125 rfl (lv_at hl 4 rfl) ?_
                          refine lv_aload_n hx hb dX1_clearCross_126 rfl (lv_at hl 3 rfl) ?_
                          refine gf hX hB cw3 rfl in1 0 (by decide) wm_1_95 rfl rfl dX1_clearCross_127 ?_
                          refine lv_iload_n hx hb dX1_clearCross_130 rfl (lv_at hl 4 rfl) ?_
                          refine lv_iload hx hb dX1_clearCross_131 (lv_at hl 0 rfl) ?_
                          obtain ⟨x1895, hd1894⟩ := ex1 (D_X3_get r q_103 f_103 8 p0 y4_103)
                          replace hR := bnd1_use hd1894 hR
                          refine call_V (n := 2) (As := [.int p0, .int y4_103]) (rest := [.int p0, .int y4_103, .ref (a 3)]) hX hB (k_X3_get κ l a r q_103 f_103 8 p0 y4_103 (by decide) x1895 hd1894) ⟨rfl, by decide, by decide, by decide +kernel⟩ wm_2_87 wm_1_187 wm_1_188 wm_1_2 wm_1_189 ⟨Nat.le_of_ble_eq_true rfl, Nat.le_of_ble_eq_true rfl⟩ ⟨Nat.le_of_ble_eq_true rfl, Nat.le_of_ble_eq_true rfl⟩ (cwG (i := 8) (by decide)) rfl rfl rfl hl.1 rfl (Nat.le_of_ble_eq_true rfl) dX1_clearCross_133 (fun o w' H locs hp hB => ?_)
                          obtain ⟨rfl, rfl⟩ := hp
                          refine W.eq (g2 := F0 m 136 ls [.long x1895, .int p0, .int y4_103, .ref (a 3)]) rfl ?_
                          refine lv_aload_n hx hb dX1_clearCross_136 rfl (lv_at hl 3 rfl) ?_
                          refine gf hX hB cw3 rfl in1 0 (by decide) wm_1_95 rfl rfl dX1_clearCross_137 ?_
                          refine lv_iload_n hx hb dX1_clearCross_140 rfl (lv_at hl 4 rfl) ?_
                          refine lv_iload_n hx hb dX1_clearCross_141 rfl (lv_at hl 4 rfl) ?_
                          obtain ⟨x1897, hd1896⟩ := ex1 (D_X3_get r q_103 f_103 8 p0 p0)
                          replace hR := bnd1_use hd1896 hR
                          refine call_V (n := 2) (As := [.int p0, .int p0]) (rest := [.long x1895, .int p0, .int y4_103, .ref (a 3)]) hX hB (k_X3_get κ l a r q_103 f_103 8 p0 p0 (by decide) x1897 hd1896) ⟨rfl, by decide, by decide, by decide +kernel⟩ wm_2_87 wm_1_187 wm_1_188 wm_1_2 wm_1_189 ⟨Nat.le_of_ble_eq_true rfl, Nat.le_of_ble_eq_true rfl⟩ ⟨Nat.le_of_ble_eq_true rfl, Nat.le_of_ble_eq_true rfl⟩ (cwG (i := 8) (by decide)) rfl rfl rfl hl.1 rfl (Nat.le_of_ble_eq_true rfl) dX1_clearCross_142 (fun o w' H locs hp hB => ?_)
                          obtain ⟨rfl, rfl⟩ := hp
                          refine W.eq (g2 := F0 m 145 ls [.long x1897, .long x1895, .int p0, .int y4_103, .ref (a 3)]) rfl ?_
                          obtain ⟨x1898, hd1899⟩ := ex1 (D_X5_divideDown x1895 x1897)
                          replace hR := bnd1_use hd1899 hR
                          refine call_SN (n := 2) (As := [.long x1895, .long x1897]) (rest := [.int p0, .int y4_103, .ref (a 3)]) hX hB (k_X5_divideDown κ l (cw κ a r q_103 f_103) x1895 x1897  x1898 hd1899) ⟨by decide, by decide, by decide +kernel⟩ wn_2_95 wm_2_17 wm_1_1 wm_2_18 ⟨Nat.le_of_ble_eq_true rfl, Nat.le_of_ble_eq_true rfl⟩ ⟨Nat.le_of_ble_eq_true rfl, Nat.le_of_ble_eq_true rfl⟩ rfl hl.1 rfl (Nat.le_of_ble_eq_true rfl) dX1_clearCross_145 (fun o w' H locs hp hB => ?_)
                          obtain ⟨rfl, hw9⟩ := hp
                          rw [hw9] at hB
                          refine W.eq (g2 := F0 m 148 ls [.long x1898, .int p0, .int y4_103, .ref (a 3)]) rfl ?_
                          refine lv_lneg hx hb dX1_clearCross_148 ?_
                          obtain ⟨q1901, f1903, hd1900⟩ := ex2 (D_X1_addColumn r q_103 f_103 y4_103 p0 (-x1898))
                          replace hR := bnd2_use hd1900 hR
                          refine call_V (n := 3) (As := [.int y4_103, .int p0, .long (-x1898)]) (rest := []) hX hB (k_X1_addColumn κ l a r q_103 f_103 y4_103 p0 (-x1898) q1901 f1903 hd1900) ⟨rfl, by decide, by decide, by decide +kernel⟩ wm_2_103 wm_2_105 wp_11 wm_1_4 wm_2_106 ⟨Nat.le_of_ble_eq_true rfl, Nat.le_of_ble_eq_true rfl⟩ ⟨Nat.le_of_ble_eq_true rfl, Nat.le_of_ble_eq_true rfl⟩ cw3 rfl rfl rfl hl.1 rfl (Nat.le_of_ble_eq_true rfl) dX1_clearCross_149 (fun o w' H locs hp hB => ?_)
                          obtain ⟨rfl, hq1902, rfl⟩ := hp
                          refine W.eq (g2 := F0 m 152 ls []) rfl ?_
                          refine lv_iinc (v := y4_103 + 1) (lv' := [(4, .int (y4_103 + 1)), (3, .int x1350), (2, .int y2_2), (0, .ref (a 3)), (1, .int p0)]) hx hb dX1_clearCross_152 hl (k := 0) rfl rfl (by decide) rfl (fun ls hl => ?_)
                          refine lv_goto (tgt := 103) hx hb dX1_clearCross_155 (by decide) ?_
                          exact ih103 (y4_103 + 1) q1901 f1903 _ _ (hq1902.trans hwq_103) (gap_step c1892 hμ103) hR hB _ hl
                  exact lp103 _ (p0 + 1) q_43 f_43 _ _ hwq_43 (Nat.lt_succ_self _) hR hB _ hl
                · replace hR := ifn c1798 hR
                  refine lv_aload_n hx hb dX1_clearCross_55 rfl (lv_at hl 3 rfl) ?_
                  refine gf hX hB cw3 rfl in1 3 (by decide) wm_1_104 rfl rfl dX1_clearCross_56 ?_
                  refine lv_if_ne (tgt := 98) hx hb dX1_clearCross_59 (by decide) (fun c1904 => ?_) (fun c1904 => ?_)
                  · replace hR := ifn c1904 hR
                    refine lv_iload_n hx hb dX1_clearCross_98 rfl (lv_at hl 4 rfl) ?_
                    refine lv_iconst (v := 1) hx hb dX1_clearCross_99 (by decide) ?_
                    refine lv_iadd hx hb dX1_clearCross_100 ?_
                    refine lv_istore (lv' := [(4, .int (p0 + 1)), (3, .int x1350), (2, .int y2_2), (0, .ref (a 3)), (1, .int p0)]) hx hb dX1_clearCross_101 hl (by decide) rfl (fun ls hl => ?_)
                    have lp103 : ∀ (nn103 : Nat) (y4_103 : Int32) (q_103 : Nat → Int32) (f_103 : Nat → Nat → Int64) (H : Heap) (locs : List Loc), q_103 4 = q 4 → gap (r (2 * 8 + 1)) y4_103 < nn103 → D_X1_clearCross_103_1 r p0 (D_X1_clearCross_2 r p0 nn2) y2_2 nn103 y4_103 q_103 f_103 = (o_x, o_q, o_f) → Bd κ A s (cw κ a r q_103 f_103) H locs → ∀ ls : Array Slot, lv_has ls 5 [(4, .int y4_103), (3, .int x1350), (2, .int y2_2), (0, .ref (a 3)), (1, .int p0)] → W p l e (Rm 3 75 0 0) s m args below meth c H locs 0 0 Q (F0 m 103 ls []) := by
                      intro nn103
                      induction nn103 with
                      | zero => intro y4_103 q_103 f_103 H locs hwq_103 hμ; exact absurd hμ (Nat.not_lt_zero _)
                      | succ nn103 ih103 =>
                        intro y4_103 q_103 f_103 H locs hwq_103 hμ103 hR hB ls hl
                        replace hR := (D_X1_clearCross_103_1_s).symm.trans hR
                        refine lv_iload hx hb dX1_clearCross_103 (lv_at hl 0 rfl) ?_
                        refine lv_aload_n hx hb dX1_clearCross_105 rfl (lv_at hl 3 rfl) ?_
                        refine gf hX hB cw3 rfl in1 0 (by decide) wm_1_95 rfl rfl dX1_clearCross_106 ?_
                        refine gfN hX hB (cwG (i := 8) (by decide)) rfl in3 2 (by decide) wn_1_54 rfl rfl dX1_clearCross_109 ?_
                        have jn158 : ∀ (H : Heap) (locs : List Loc), D_X1_clearCross_j158_1 r p0 (D_X1_clearCross_2 r p0 nn2) y2_2 q_103 f_103 = (o_x, o_q, o_f) → Bd κ A s (cw κ a r q_103 f_103) H locs → ∀ ls : Array Slot, lv_has ls 5 [(4, .int y4_103), (3, .int x1350), (2, .int y2_2), (0, .ref (a 3)), (1, .int p0)] → W p l e (Rm 3 75 0 0) s m args below meth c H locs 0 0 Q (F0 m 158 ls []) := by
                          intro H locs hR hB ls hl
                          replace hR := (D_X1_clearCross_j158_1_s).symm.trans hR
                          refine lv_aload_n hx hb dX1_clearCross_158 rfl (lv_at hl 3 rfl) ?_
                          refine gf hX hB cw3 rfl in1 3 (by decide) wm_1_104 rfl rfl dX1_clearCross_159 ?_
                          refine lv_if_ne (tgt := 195) hx hb dX1_clearCross_162 (by decide) (fun c1987 => ?_) (fun c1987 => ?_)
                          · replace hR := ifn c1987 hR
                            refine lv_iinc (v := y2_2 + 1) (lv' := [(2, .int (y2_2 + 1)), (4, .int y4_103), (3, .int x1350), (0, .ref (a 3)), (1, .int p0)]) hx hb dX1_clearCross_195 hl (k := 2) rfl rfl (by decide) rfl (fun ls hl => ?_)
                            refine lv_goto (tgt := 2) hx hb dX1_clearCross_198 (by decide) ?_
                            exact ih2 (y2_2 + 1) q_103 f_103 _ _ hwq_103 (gap_step c1347 hμ2) hR hB _ (lv_sub hl [0, 3, 4] rfl)
                          · replace hR := ifp c1987 hR
                            refine lv_aload_n hx hb dX1_clearCross_165 rfl (lv_at hl 3 rfl) ?_
                            refine lv_iload_n hx hb dX1_clearCross_166 rfl (lv_at hl 4 rfl) ?_
                            obtain ⟨x1989, hd1988⟩ := ex1 (D_X1_isCrossClear r q_103 f_103 p0)
                            replace hR := bnd1_use hd1988 hR
                            refine call_V (n := 1) (As := [.int p0]) (rest := []) hX hB (k_X1_isCrossClear κ l a r q_103 f_103 p0 x1989 hd1988) ⟨rfl, by decide, by decide, by decide +kernel⟩ wm_2_107 wm_2_109 wp_12 wm_1_4 wm_2_110 ⟨Nat.le_of_ble_eq_true rfl, Nat.le_of_ble_eq_true rfl⟩ ⟨Nat.le_of_ble_eq_true rfl, Nat.le_of_ble_eq_true rfl⟩ cw3 rfl rfl rfl hl.1 rfl (Nat.le_of_ble_eq_true rfl) dX1_clearCross_167 (fun o w' H locs hp hB => ?_)
                            obtain ⟨rfl, bx1989, rfl⟩ := hp
                            refine W.eq (g2 := F0 m 170 ls [.int x1989]) rfl ?_
                            refine lv_if_eq (tgt := 195) hx hb dX1_clearCross_170 (by decide) (fun c1990 => ?_) (fun c1990 => ?_)
                            · replace hR := ifp c1990 hR
                              refine lv_iinc (v := y2_2 + 1) (lv' := [(2, .int (y2_2 + 1)), (4, .int y4_103), (3, .int x1350), (0, .ref (a 3)), (1, .int p0)]) hx hb dX1_clearCross_195 hl (k := 2) rfl rfl (by decide) rfl (fun ls hl => ?_)
                              refine lv_goto (tgt := 2) hx hb dX1_clearCross_198 (by decide) ?_
                              exact ih2 (y2_2 + 1) q_103 f_103 _ _ hwq_103 (gap_step c1347 hμ2) hR hB _ (lv_sub hl [0, 3, 4] rfl)
                            · replace hR := ifn c1990 hR
                              refine lv_aload_n hx hb dX1_clearCross_173 rfl (lv_at hl 3 rfl) ?_
                              refine lv_iload_n hx hb dX1_clearCross_174 rfl (lv_at hl 4 rfl) ?_
                              obtain ⟨x1992, hd1991⟩ := ex1 (D_X1_findUndividedRow r q_103 f_103 p0)
                              replace hR := bnd1_use hd1991 hR
                              refine call_V (n := 1) (As := [.int p0]) (rest := []) hX hB (k_X1_findUndividedRow κ l a r q_103 f_103 p0 x1992 hd1991) ⟨rfl, by decide, by decide, by decide +kernel⟩ wm_2_111 wm_2_113 wp_13 wm_1_4 wm_2_114 ⟨Nat.le_of_ble_eq_true rfl, Nat.le_of_ble_eq_true rfl⟩ ⟨Nat.le_of_ble_eq_true rfl, Nat.le_of_ble_eq_true rfl⟩ cw3 rfl rfl rfl hl.1 rfl (Nat.le_of_ble_eq_true rfl) dX1_clearCross_175 (fun o w' H locs hp hB => ?_)
                              obtain ⟨rfl, rfl⟩ := hp
                              refine W.eq (g2 := F0 m 178 ls [.int x1992]) rfl ?_
                              refine lv_istore (lv' := [(4, .int x1992), (3, .int x1350), (2, .int y2_2), (0, .ref (a 3)), (1, .int p0)]) hx hb dX1_clearCross_178 hl (by decide) rfl (fun ls hl => ?_)
                              refine lv_iload hx hb dX1_clearCross_180 (lv_at hl 0 rfl) ?_
                              refine lv_if_ge (tgt := 187) hx hb dX1_clearCross_182 (by decide) (fun c1993 => ?_) (fun c1993 => ?_)
                              · replace hR := ifp c1993 hR
                                refine lv_aload_n hx hb dX1_clearCross_187 rfl (lv_at hl 3 rfl) ?_
                                refine lv_iload_n hx hb dX1_clearCross_188 rfl (lv_at hl 4 rfl) ?_
                                refine lv_iload hx hb dX1_clearCross_189 (lv_at hl 0 rfl) ?_
                                refine lv_lconst (v := 1) hx hb dX1_clearCross_191 (by decide) ?_
                                obtain ⟨q1995, f1997, hd1994⟩ := ex2 (D_X1_addRow r q_103 f_103 p0 x1992 1)
                                replace hR := bnd2_use hd1994 hR
                                refine call_V (n := 3) (As := [.int p0, .int x1992, .long 1]) (rest := []) hX hB (k_X1_addRow κ l a r q_103 f_103 p0 x1992 1 q1995 f1997 hd1994) ⟨rfl, by decide, by decide, by decide +kernel⟩ wm_2_96 wm_2_98 wp_10 wm_1_4 wm_2_99 ⟨Nat.le_of_ble_eq_true rfl, Nat.le_of_ble_eq_true rfl⟩ ⟨Nat.le_of_ble_eq_true rfl, Nat.le_of_ble_eq_true rfl⟩ cw3 rfl rfl rfl hl.1 rfl (Nat.le_of_ble_eq_true rfl) dX1_clearCross_192 (fun o w' H locs hp hB => ?_)
                                obtain ⟨rfl, hq1996, rfl⟩ := hp
                                refine W.eq (g2 := F0 m 195 ls []) rfl ?_
                                refine lv_iinc (v := y2_2 + 1) (lv' := [(2, .int (y2_2 + 1)), (4, .int x1992), (3, .int x1350), (0, .ref (a 3)), (1, .int p0)]) hx hb dX1_clearCross_195 hl (k := 2) rfl rfl (by decide) rfl (fun ls hl => ?_)
                                refine lv_goto (tgt := 2) hx hb dX1_clearCross_198 (by decide) ?_
                                exact ih2 (y2_2 + 1) q1995 f1997 _ _ (hq1996.trans hwq_103) (gap_step c1347 hμ2) hR hB _ (lv_sub hl [0, 3, 4] rfl)
                              · replace hR := ifn c1993 hR
                                refine lv_iconst (v := 1) hx hb dX1_clearCross_185 (by decide) ?_
                                rw [← hQ]
                                exact end_i hX hB hA3 rfl rfl (by obtain ⟨rfl, rfl, rfl⟩ := pr3 hR; exact ⟨rfl, Or.inr rfl, hwq_103, rfl⟩) (Nat.le_of_ble_eq_true rfl) (Nat.le_of_ble_eq_true rfl) dX1_clearCross_186
                        refine lv_icmp_ge (tgt := 158) hx hb dX1_clearCross_112 (by decide) (fun c1998 => ?_) (fun c1998 => ?_)
                        · replace hR := ifp c1998 hR
                          exact jn158  _ _  hR hB _ hl
                        · replace hR := ifn c1998 hR
                          refine lv_aload_n hx hb dX1_clearCross_115 rfl (lv_at hl 3 rfl) ?_
                          refine gf hX hB cw3 rfl in1 3 (by decide) wm_1_104 rfl rfl dX1_clearCross_116 ?_
                          refine lv_if_ne (tgt := 158) hx hb dX1_clearCross_119 (by decide) (fun c1999 => ?_) (fun c1999 => ?_)
                          · replace hR := ifn c1999 hR
                            exact jn158  _ _  hR hB _ hl
                          · replace hR := ifp c1999 hR
                            refine lv_aload_n hx hb dX1_clearCross_122 rfl (lv_at hl 3 rfl) ?_
                            refine lv_iload hx hb dX1_clearCross_123 (lv_at hl 0 rfl) ?_
                            refine lv_iload_n hx hb dX1_clearCross_125 rfl (lv_at hl 4 rfl) ?_
                            refine lv_aload_n hx hb dX1_clearCross_126 rfl (lv_at hl 3 rfl) ?_
                            refine gf hX hB cw3 rfl in1 0 (by decide) wm_1_95 rfl rfl dX1_clearCross_127 ?_
                            refine lv_iload_n hx hb dX1_clearCross_130 rfl (lv_at hl 4 rfl) ?_
                            refine lv_iload hx hb dX1_clearCross_131 (lv_at hl 0 rfl) ?_
                            obtain ⟨x2001, hd2000⟩ := ex1 (D_X3_get r q_103 f_103 8 p0 y4_103)
                            replace hR := bnd1_use hd2000 hR
                            refine call_V (n := 2) (As := [.int p0, .int y4_103]) (rest := [.int p0, .int y4_103, .ref (a 3)]) hX hB (k_X3_get κ l a r q_103 f_103 8 p0 y4_103 (by decide) x2001 hd2000) ⟨rfl, by decide, by decide, by decide +kernel⟩ wm_2_87 wm_1_187 wm_1_188 wm_1_2 wm_1_189 ⟨Nat.le_of_ble_eq_true rfl, Nat.le_of_ble_eq_true rfl⟩ ⟨Nat.le_of_ble_eq_true rfl, Nat.le_of_ble_eq_true rfl⟩ (cwG (i := 8) (by decide)) rfl rfl rfl hl.1 rfl (Nat.le_of_ble_eq_true rfl) dX1_clearCross_133 (fun o w' H locs hp hB => ?_)
                            obtain ⟨rfl, rfl⟩ := hp
                            refine W.eq (g2 := F0 m 136 ls [.long x2001, .int p0, .int y4_103, .ref (a 3)]) rfl ?_
                            refine lv_aload_n hx hb dX1_clearCross_136 rfl (lv_at hl 3 rfl) ?_
                            refine gf hX hB cw3 rfl in1 0 (by decide) wm_1_95 rfl rfl dX1_clearCross_137 ?_
                            refine lv_iload_n hx hb dX1_clearCross_140 rfl (lv_at hl 4 rfl) ?_
                            refine lv_iload_n hx hb dX1_clearCross_141 rfl (lv_at hl 4 rfl) ?_
                            obtain ⟨x2003, hd2002⟩ := ex1 (D_X3_get r q_103 f_103 8 p0 p0)
                            replace hR := bnd1_use hd2002 hR
                            refine call_V (n := 2) (As := [.int p0, .int p0]) (rest := [.long x2001, .int p0, .int y4_103, .ref (a 3)]) hX hB (k_X3_get κ l a r q_103 f_103 8 p0 p0 (by decide) x2003 hd2002) ⟨rfl, by decide, by decide, by decide +kernel⟩ wm_2_87 wm_1_187 wm_1_188 wm_1_2 wm_1_189 ⟨Nat.le_of_ble_eq_true rfl, Nat.le_of_ble_eq_true rfl⟩ ⟨Nat.le_of_ble_eq_true rfl, Nat.le_of_ble_eq_true rfl⟩ (cwG (i := 8) (by decide)) rfl rfl rfl hl.1 rfl (Nat.le_of_ble_eq_true rfl) dX1_clearCross_142 (fun o w' H locs hp hB => ?_)
                            obtain ⟨rfl, rfl⟩ := hp
                            refine W.eq (g2 := F0 m 145 ls [.long x2003, .long x2001, .int p0, .int y4_103, .ref (a 3)]) rfl ?_
                            obtain ⟨x2004, hd2005⟩ := ex1 (D_X5_divideDown x2001 x2003)
                            replace hR := bnd1_use hd2005 hR
                            refine call_SN (n := 2) (As := [.long x2001, .long x2003]) (rest := [.int p0, .int y4_103, .ref (a 3)]) hX hB (k_X5_divideDown κ l (cw κ a r q_103 f_103) x2001 x2003  x2004 hd2005) ⟨by decide, by decide, by decide +kernel⟩ wn_2_95 wm_2_17 wm_1_1 wm_2_18 ⟨Nat.le_of_ble_eq_true rfl, Nat.le_of_ble_eq_true rfl⟩ ⟨Nat.le_of_ble_eq_true rfl, Nat.le_of_ble_eq_true rfl⟩ rfl hl.1 rfl (Nat.le_of_ble_eq_true rfl) dX1_clearCross_145 (fun o w' H locs hp hB => ?_)
                            obtain ⟨rfl, hw9⟩ := hp
                            rw [hw9] at hB
                            refine W.eq (g2 := F0 m 148 ls [.long x2004, .int p0, .int y4_103, .ref (a 3)]) rfl ?_
                            refine lv_lneg hx hb dX1_clearCross_148 ?_
                            obtain ⟨q2007, f2009, hd2006⟩ := ex2 (D_X1_addColumn r q_103 f_103 y4_103 p0 (-x2004))
                            replace hR := bnd2_use hd2006 hR
                            refine call_V (n := 3) (As := [.int y4_103, .int p0, .long (-x2004)]) (rest := []) hX hB (k_X1_addColumn κ l a r q_103 f_103 y4_103 p0 (-x2004) q2007 f2009 hd2006) ⟨rfl, by decide, by decide, by decide +kernel⟩ wm_2_103 wm_2_105 wp_11 wm_1_4 wm_2_106 ⟨Nat.le_of_ble_eq_true rfl, Nat.le_of_ble_eq_true rfl⟩ ⟨Nat.le_of_ble_eq_true rfl, Nat.le_of_ble_eq_true rfl⟩ cw3 rfl rfl rfl hl.1 rfl (Nat.le_of_ble_eq_true rfl) dX1_clearCross_149 (fun o w' H locs hp hB => ?_)
                            obtain ⟨rfl, hq2008, rfl⟩ := hp
                            refine W.eq (g2 := F0 m 152 ls []) rfl ?_
                            refine lv_iinc (v := y4_103 + 1) (lv' := [(4, .int (y4_103 + 1)), (3, .int x1350), (2, .int y2_2), (0, .ref (a 3)), (1, .int p0)]) hx hb dX1_clearCross_152 hl (k := 0) rfl rfl (by decide) rfl (fun ls hl => ?_)
                            refine lv_goto (tgt := 103) hx hb dX1_clearCross_155 (by decide) ?_
                            exact ih103 (y4_103 + 1) q2007 f2009 _ _ (hq2008.trans hwq_103) (gap_step c1998 hμ103) hR hB _ hl
                    exact lp103 _ (p0 + 1) q_43 f_43 _ _ hwq_43 (Nat.lt_succ_self _) hR hB _ hl
                  · replace hR := ifp c1904 hR
                    refine lv_aload_n hx hb dX1_clearCross_62 rfl (lv_at hl 3 rfl) ?_
                    refine lv_iload hx hb dX1_clearCross_63 (lv_at hl 0 rfl) ?_
                    refine lv_iload_n hx hb dX1_clearCross_65 rfl (lv_at hl 4 rfl) ?_
                    refine lv_aload_n hx hb dX1_clearCross_66 rfl (lv_at hl 3 rfl) ?_
                    refine gf hX hB cw3 rfl in1 0 (by decide) wm_1_95 rfl rfl dX1_clearCross_67 ?_
                    refine lv_iload hx hb dX1_clearCross_70 (lv_at hl 0 rfl) ?_
                    refine lv_iload_n hx hb dX1_clearCross_72 rfl (lv_at hl 4 rfl) ?_
                    obtain ⟨x2011, hd2010⟩ := ex1 (D_X3_get r q_43 f_43 8 y4_43 p0)
                    replace hR := bnd1_use hd2010 hR
                    refine call_V (n := 2) (As := [.int y4_43, .int p0]) (rest := [.int p0, .int y4_43, .ref (a 3)]) hX hB (k_X3_get κ l a r q_43 f_43 8 y4_43 p0 (by decide) x2011 hd2010) ⟨rfl, by decide, by decide, by decide +kernel⟩ wm_2_87 wm_1_187 wm_1_188 wm_1_2 wm_1_189 ⟨Nat.le_of_ble_eq_true rfl, Nat.le_of_ble_eq_true rfl⟩ ⟨Nat.le_of_ble_eq_true rfl, Nat.le_of_ble_eq_true rfl⟩ (cwG (i := 8) (by decide)) rfl rfl rfl hl.1 rfl (Nat.le_of_ble_eq_true rfl) dX1_clearCross_73 (fun o w' H locs hp hB => ?_)
                    obtain ⟨rfl, rfl⟩ := hp
                    refine W.eq (g2 := F0 m 76 ls [.long x2011, .int p0, .int y4_43, .ref (a 3)]) rfl ?_
                    refine lv_aload_n hx hb dX1_clearCross_76 rfl (lv_at hl 3 rfl) ?_
                    refine gf hX hB cw3 rfl in1 0 (by decide) wm_1_95 rfl rfl dX1_clearCross_77 ?_
                    refine lv_iload_n hx hb dX1_clearCross_80 rfl (lv_at hl 4 rfl) ?_
                    refine lv_iload_n hx hb dX1_clearCross_81 rfl (lv_at hl 4 rfl) ?_
                    obtain ⟨x2013, hd2012⟩ := ex1 (D_X3_get r q_43 f_43 8 p0 p0)
                    replace hR := bnd1_use hd2012 hR
                    refine call_V (n := 2) (As := [.int p0, .int p0]) (rest := [.long x2011, .int p0, .int y4_43, .ref (a 3)]) hX hB (k_X3_get κ l a r q_43 f_43 8 p0 p0 (by decide) x2013 hd2012) ⟨rfl, by decide, by decide, by decide +kernel⟩ wm_2_87 wm_1_187 wm_1_188 wm_1_2 wm_1_189 ⟨Nat.le_of_ble_eq_true rfl, Nat.le_of_ble_eq_true rfl⟩ ⟨Nat.le_of_ble_eq_true rfl, Nat.le_of_ble_eq_true rfl⟩ (cwG (i := 8) (by decide)) rfl rfl rfl hl.1 rfl (Nat.le_of_ble_eq_true rfl) dX1_clearCross_82 (fun o w' H locs hp hB => ?_)
                    obtain ⟨rfl, rfl⟩ := hp
                    refine W.eq (g2 := F0 m 85 ls [.long x2013, .long x2011, .int p0, .int y4_43, .ref (a 3)]) rfl ?_
                    obtain ⟨x2014, hd2015⟩ := ex1 (D_X5_divideDown x2011 x2013)
                    replace hR := bnd1_use hd2015 hR
                    refine call_SN (n := 2) (As := [.long x2011, .long x2013]) (rest := [.int p0, .int y4_43, .ref (a 3)]) hX hB (k_X5_divideDown κ l (cw κ a r q_43 f_43) x2011 x2013  x2014 hd2015) ⟨by decide, by decide, by decide +kernel⟩ wn_2_95 wm_2_17 wm_1_1 wm_2_18 ⟨Nat.le_of_ble_eq_true rfl, Nat.le_of_ble_eq_true rfl⟩ ⟨Nat.le_of_ble_eq_true rfl, Nat.le_of_ble_eq_true rfl⟩ rfl hl.1 rfl (Nat.le_of_ble_eq_true rfl) dX1_clearCross_85 (fun o w' H locs hp hB => ?_)
                    obtain ⟨rfl, hw9⟩ := hp
                    rw [hw9] at hB
                    refine W.eq (g2 := F0 m 88 ls [.long x2014, .int p0, .int y4_43, .ref (a 3)]) rfl ?_
                    refine lv_lneg hx hb dX1_clearCross_88 ?_
                    obtain ⟨q2017, f2019, hd2016⟩ := ex2 (D_X1_addRow r q_43 f_43 y4_43 p0 (-x2014))
                    replace hR := bnd2_use hd2016 hR
                    refine call_V (n := 3) (As := [.int y4_43, .int p0, .long (-x2014)]) (rest := []) hX hB (k_X1_addRow κ l a r q_43 f_43 y4_43 p0 (-x2014) q2017 f2019 hd2016) ⟨rfl, by decide, by decide, by decide +kernel⟩ wm_2_96 wm_2_98 wp_10 wm_1_4 wm_2_99 ⟨Nat.le_of_ble_eq_true rfl, Nat.le_of_ble_eq_true rfl⟩ ⟨Nat.le_of_ble_eq_true rfl, Nat.le_of_ble_eq_true rfl⟩ cw3 rfl rfl rfl hl.1 rfl (Nat.le_of_ble_eq_true rfl) dX1_clearCross_89 (fun o w' H locs hp hB => ?_)
                    obtain ⟨rfl, hq2018, rfl⟩ := hp
                    refine W.eq (g2 := F0 m 92 ls []) rfl ?_
                    refine lv_iinc (v := y4_43 + 1) (lv' := [(4, .int (y4_43 + 1)), (3, .int x1350), (2, .int y2_2), (0, .ref (a 3)), (1, .int p0)]) hx hb dX1_clearCross_92 hl (k := 0) rfl rfl (by decide) rfl (fun ls hl => ?_)
                    refine lv_goto (tgt := 43) hx hb dX1_clearCross_95 (by decide) ?_
                    exact ih43 (y4_43 + 1) q2017 f2019 _ _ (hq2018.trans hwq_43) (gap_step c1798 hμ43) hR hB _ hl
            exact lp43 _ (p0 + 1) q_2 f1353 _ _ hwq_2 (Nat.lt_succ_self _) hR hB _ hl
          · replace hR := ifn c1351 hR
            refine lv_iconst (v := 0) hx hb dX1_clearCross_25 (by decide) ?_
            rw [← hQ]
            exact end_i hX hB hA3 rfl rfl (by obtain ⟨rfl, rfl, rfl⟩ := pr3 hR; exact ⟨rfl, Or.inl rfl, hwq_2, rfl⟩) (Nat.le_of_ble_eq_true rfl) (Nat.le_of_ble_eq_true rfl) dX1_clearCross_26
  exact lp2 _ 0 q f _ _ rfl (Nat.lt_succ_self _) hR hB _ hl
noncomputable def D_X1_walk_39 (r14 : Nat → Int32) (nn : Nat) : Int32 → Int32 → (Nat → Int32) → (Nat → Nat → Int64) → (Nat → Int32) × (Nat → Int32) × (Nat → Nat → Int64) := @Nat.rec (fun _ => Int32 → Int32 → (Nat → Int32) → (Nat → Nat → Int64) → (Nat → Int32) × (Nat → Int32) × (Nat → Nat → Int64)) (fun _ _ _ _ => default) (fun _ lb39 (y3_39 : Int32) (y2_39 : Int32) (q_39 : Nat → Int32) (f_39 : Nat → Nat → Int64) => (if (r14 (2 * 8)) ≤ y3_39 then (r14, q_39, f_39) else (if (r14 (2 * 8 + 1)) ≤ y3_39 then (r14, q_39, f_39) else (if y2_39 = 0 then (r14, q_39, f_39) else (if (q_39 1) = 0 then bnd3 (D_X1_clearCross r14 q_39 f_39 y3_39) (fun (x42 : Int32) (q43 : Nat → Int32) (f45 : Nat → Nat → Int64) => (lb39 (y3_39 + 1) x42 q43 f45)) else (r14, q_39, f_39)))))) nn
theorem D_X1_walk_39_s {r14 : Nat → Int32} {nn : Nat} {y3_39 : Int32} {y2_39 : Int32} {q_39 : Nat → Int32} {f_39 : Nat → Nat → Int64} : D_X1_walk_39 r14 (nn + 1) y3_39 y2_39 q_39 f_39 = (if (r14 (2 * 8)) ≤ y3_39 then (r14, q_39, f_39) else (if (r14 (2 * 8 + 1)) ≤ y3_39 then (r14, q_39, f_39) else (if y2_39 = 0 then (r14, q_39, f_39) else (if (q_39 1) = 0 then bnd3 (D_X1_clearCross r14 q_39 f_39 y3_39) (fun (x42 : Int32) (q43 : Nat → Int32) (f45 : Nat → Nat → Int64) => ((D_X1_walk_39 r14 nn) (y3_39 + 1) x42 q43 f45)) else (r14, q_39, f_39))))) := rfl
noncomputable def D_X1_walk (r : Nat → Int32) (q : Nat → Int32) (f : Nat → Nat → Int64) (i : Nat) : (Nat → Int32) × (Nat → Int32) × (Nat → Nat → Int64) := bnd3 (D_X3_becomeLike r q f 8 i) (fun (r2 : Nat → Int32) (q4 : Nat → Int32) (f6 : Nat → Nat → Int64) => bnd3 (D_X3_becomeUnit r2 q4 f6 9 (r2 (2 * i))) (fun (r8 : Nat → Int32) (q10 : Nat → Int32) (f12 : Nat → Nat → Int64) => bnd3 (D_X3_becomeUnit r8 q10 f12 10 (r8 (2 * i + 1))) (fun (r14 : Nat → Int32) (q16 : Nat → Int32) (f18 : Nat → Nat → Int64) => (D_X1_walk_39 r14 (gap (r14 (2 * 8)) 0 + 1) 0 1 (va_up q16 1 0) f18))))
theorem D_X1_walk_s {r : Nat → Int32} {q : Nat → Int32} {f : Nat → Nat → Int64} {i : Nat} : D_X1_walk r q f i = bnd3 (D_X3_becomeLike r q f 8 i) (fun (r2 : Nat → Int32) (q4 : Nat → Int32) (f6 : Nat → Nat → Int64) => bnd3 (D_X3_becomeUnit r2 q4 f6 9 (r2 (2 * i))) (fun (r8 : Nat → Int32) (q10 : Nat → Int32) (f12 : Nat → Nat → Int64) => bnd3 (D_X3_becomeUnit r8 q10 f12 10 (r8 (2 * i + 1))) (fun (r14 : Nat → Int32) (q16 : Nat → Int32) (f18 : Nat → Nat → Int64) => (D_X1_walk_39 r14 (gap (r14 (2 * 8)) 0 + 1) 0 1 (va_up q16 1 0) f18)))) := rfl
set_option maxHeartbeats 4000000 in
set_option maxRecDepth 100000 in
theorem k_X1_walk (κ : Kt) (l : Launch) (a : Nat → Nat) (r q : Nat → Int32) (f : Nat → Nat → Int64) (i : Nat) (hi : i < 15) (o_r : Nat → Int32) (o_q : Nat → Int32) (o_f : Nat → Nat → Int64) (hR : D_X1_walk r q f i = (o_r, o_q, o_f)) : CM κ l yX1_walk cX1_walk 4 (none) 4 99 0 0 [.ref (a 3), .ref (a (6 + 2 * i))] (cw κ a r q f) (fun o w' => o = none ∧ (okr r → okr o_r) ∧ o_q 4 = q 4 ∧ w' = cw κ a o_r o_q o_f) := by
  refine CM_begin (plainFor_of_name (by decide)) (Nat.le_of_ble_eq_true rfl) ?_
  intro p e s m args below meth c A Q hX hnm hA3 hQ hB ls hl
  have hx := hX.1.1
  have hb := hX.1.2.1
  have hl : lv_has ls 4 [(0, .ref (a 3)), (1, .ref (a (6 + 2 * i)))] := hl
  replace hR := (D_X1_walk_s).symm.trans hR
  refine lv_aload_n hx hb dX1_walk_0 rfl (lv_at hl 0 rfl) ?_
  refine gf hX hB cw3 rfl in1 0 (by decide) wm_1_95 rfl rfl dX1_walk_1 ?_
  refine lv_aload_n hx hb dX1_walk_4 rfl (lv_at hl 1 rfl) ?_
  obtain ⟨r2, q4, f6, hd1⟩ := ex3 (D_X3_becomeLike r q f 8 i)
  replace hR := bnd3_use hd1 hR
  refine call_V (n := 1) (As := [.ref (a (6 + 2 * i))]) (rest := []) hX hB (k_X3_becomeLike κ l a r q f 8 i (by decide) hi r2 q4 f6 hd1) ⟨rfl, by decide, by decide, by decide +kernel⟩ wm_2_76 wm_1_205 wm_1_206 wm_1_2 wm_1_207 ⟨Nat.le_of_ble_eq_true rfl, Nat.le_of_ble_eq_true rfl⟩ ⟨Nat.le_of_ble_eq_true rfl, Nat.le_of_ble_eq_true rfl⟩ (cwG (i := 8) (by decide)) rfl rfl rfl hl.1 rfl (Nat.le_of_ble_eq_true rfl) dX1_walk_5 (fun o w' H locs hp hB => ?_)
  obtain ⟨rfl, ho3, hq5, rfl⟩ := hp
  refine W.eq (g2 := F0 m 8 ls []) rfl ?_
  refine lv_aload_n hx hb dX1_walk_8 rfl (lv_at hl 0 rfl) ?_
  refine gf hX hB cw3 rfl in1 1 (by decide) wm_1_98 rfl rfl dX1_walk_9 ?_
  refine lv_aload_n hx hb dX1_walk_12 rfl (lv_at hl 1 rfl) ?_
  refine gfN hX hB (cwG (i := i) hi) rfl in3 1 (by decide) wn_1_49 rfl rfl dX1_walk_13 ?_
  obtain ⟨r8, q10, f12, hd7⟩ := ex3 (D_X3_becomeUnit r2 q4 f6 9 (r2 (2 * i)))
  replace hR := bnd3_use hd7 hR
  refine call_V (n := 1) (As := [.int (r2 (2 * i))]) (rest := []) hX hB (k_X3_becomeUnit κ l a r2 q4 f6 9 (r2 (2 * i)) (by decide) r8 q10 f12 hd7) ⟨rfl, by decide, by decide, by decide +kernel⟩ wm_2_77 wm_1_209 wm_1_210 wm_1_2 wm_1_211 ⟨Nat.le_of_ble_eq_true rfl, Nat.le_of_ble_eq_true rfl⟩ ⟨Nat.le_of_ble_eq_true rfl, Nat.le_of_ble_eq_true rfl⟩ (cwG (i := 9) (by decide)) rfl rfl rfl hl.1 rfl (Nat.le_of_ble_eq_true rfl) dX1_walk_16 (fun o w' H locs hp hB => ?_)
  obtain ⟨rfl, ho9, hq11, rfl⟩ := hp
  refine W.eq (g2 := F0 m 19 ls []) rfl ?_
  refine lv_aload_n hx hb dX1_walk_19 rfl (lv_at hl 0 rfl) ?_
  refine gf hX hB cw3 rfl in1 2 (by decide) wm_1_101 rfl rfl dX1_walk_20 ?_
  refine lv_aload_n hx hb dX1_walk_23 rfl (lv_at hl 1 rfl) ?_
  refine gfN hX hB (cwG (i := i) hi) rfl in3 2 (by decide) wn_1_54 rfl rfl dX1_walk_24 ?_
  obtain ⟨r14, q16, f18, hd13⟩ := ex3 (D_X3_becomeUnit r8 q10 f12 10 (r8 (2 * i + 1)))
  replace hR := bnd3_use hd13 hR
  refine call_V (n := 1) (As := [.int (r8 (2 * i + 1))]) (rest := []) hX hB (k_X3_becomeUnit κ l a r8 q10 f12 10 (r8 (2 * i + 1)) (by decide) r14 q16 f18 hd13) ⟨rfl, by decide, by decide, by decide +kernel⟩ wm_2_77 wm_1_209 wm_1_210 wm_1_2 wm_1_211 ⟨Nat.le_of_ble_eq_true rfl, Nat.le_of_ble_eq_true rfl⟩ ⟨Nat.le_of_ble_eq_true rfl, Nat.le_of_ble_eq_true rfl⟩ (cwG (i := 10) (by decide)) rfl rfl rfl hl.1 rfl (Nat.le_of_ble_eq_true rfl) dX1_walk_27 (fun o w' H locs hp hB => ?_)
  obtain ⟨rfl, ho15, hq17, rfl⟩ := hp
  refine W.eq (g2 := F0 m 30 ls []) rfl ?_
  refine lv_aload_n hx hb dX1_walk_30 rfl (lv_at hl 0 rfl) ?_
  refine lv_iconst (v := 0) hx hb dX1_walk_31 (by decide) ?_
  refine pf (ty := .boolean) hX hB cw3 rfl in1 tyX1_ok nmX1 3 (by decide) wm_1_104 rfl rfl rfl rfl rfl (Nat.le_of_ble_eq_true rfl) (cwSQ1 _) dX1_walk_32 (fun H locs hB => ?_)
  refine lv_iconst (v := 1) hx hb dX1_walk_35 (by decide) ?_
  refine lv_istore_n (lv' := [(2, .int 1), (0, .ref (a 3)), (1, .ref (a (6 + 2 * i)))]) hx hb dX1_walk_36 rfl hl (by decide) rfl (fun ls hl => ?_)
  refine lv_iconst (v := 0) hx hb dX1_walk_37 (by decide) ?_
  refine lv_istore_n (lv' := [(3, .int 0), (2, .int 1), (0, .ref (a 3)), (1, .ref (a (6 + 2 * i)))]) hx hb dX1_walk_38 rfl hl (by decide) rfl (fun ls hl => ?_)
  have lp39 : ∀ (nn39 : Nat) (y3_39 : Int32) (y2_39 : Int32) (q_39 : Nat → Int32) (f_39 : Nat → Nat → Int64) (H : Heap) (locs : List Loc), q_39 4 = q 4 → gap (r14 (2 * 8)) y3_39 < nn39 → D_X1_walk_39 r14 nn39 y3_39 y2_39 q_39 f_39 = (o_r, o_q, o_f) → Bd κ A s (cw κ a r14 q_39 f_39) H locs → ∀ ls : Array Slot, lv_has ls 4 [(3, .int y3_39), (2, .int y2_39), (0, .ref (a 3)), (1, .ref (a (6 + 2 * i)))] → W p l e (Rm 4 99 0 0) s m args below meth c H locs 0 0 Q (F0 m 39 ls []) := by
    intro nn39
    induction nn39 with
    | zero => intro y3_39 y2_39 q_39 f_39 H locs hwq_39 hμ; exact absurd hμ (Nat.not_lt_zero _)
    | succ nn39 ih39 =>
      intro y3_39 y2_39 q_39 f_39 H locs hwq_39 hμ39 hR hB ls hl
      replace hR := (D_X1_walk_39_s).symm.trans hR
      refine lv_iload_n hx hb dX1_walk_39 rfl (lv_at hl 0 rfl) ?_
      refine lv_aload_n hx hb dX1_walk_40 rfl (lv_at hl 2 rfl) ?_
      refine gf hX hB cw3 rfl in1 0 (by decide) wm_1_95 rfl rfl dX1_walk_41 ?_
      refine gfN hX hB (cwG (i := 8) (by decide)) rfl in3 1 (by decide) wn_1_49 rfl rfl dX1_walk_44 ?_
      refine lv_icmp_ge (tgt := 84) hx hb dX1_walk_47 (by decide) (fun c37 => ?_) (fun c37 => ?_)
      · replace hR := ifp c37 hR
        rw [← hQ]
        exact end_v hX hB hA3 rfl (by obtain ⟨rfl, rfl, rfl⟩ := pr3 hR; exact ⟨rfl, (fun h => ho15 ((fun h => ho9 ((fun h => ho3 ((fun h => h) h)) h)) h)), hwq_39, rfl⟩) (Nat.le_of_ble_eq_true rfl) (Nat.le_of_ble_eq_true rfl) dX1_walk_84
      · replace hR := ifn c37 hR
        refine lv_iload_n hx hb dX1_walk_50 rfl (lv_at hl 0 rfl) ?_
        refine lv_aload_n hx hb dX1_walk_51 rfl (lv_at hl 2 rfl) ?_
        refine gf hX hB cw3 rfl in1 0 (by decide) wm_1_95 rfl rfl dX1_walk_52 ?_
        refine gfN hX hB (cwG (i := 8) (by decide)) rfl in3 2 (by decide) wn_1_54 rfl rfl dX1_walk_55 ?_
        refine lv_icmp_ge (tgt := 84) hx hb dX1_walk_58 (by decide) (fun c38 => ?_) (fun c38 => ?_)
        · replace hR := ifp c38 hR
          rw [← hQ]
          exact end_v hX hB hA3 rfl (by obtain ⟨rfl, rfl, rfl⟩ := pr3 hR; exact ⟨rfl, (fun h => ho15 ((fun h => ho9 ((fun h => ho3 ((fun h => h) h)) h)) h)), hwq_39, rfl⟩) (Nat.le_of_ble_eq_true rfl) (Nat.le_of_ble_eq_true rfl) dX1_walk_84
        · replace hR := ifn c38 hR
          refine lv_iload_n hx hb dX1_walk_61 rfl (lv_at hl 1 rfl) ?_
          refine lv_if_eq (tgt := 84) hx hb dX1_walk_62 (by decide) (fun c39 => ?_) (fun c39 => ?_)
          · replace hR := ifp c39 hR
            rw [← hQ]
            exact end_v hX hB hA3 rfl (by obtain ⟨rfl, rfl, rfl⟩ := pr3 hR; exact ⟨rfl, (fun h => ho15 ((fun h => ho9 ((fun h => ho3 ((fun h => h) h)) h)) h)), hwq_39, rfl⟩) (Nat.le_of_ble_eq_true rfl) (Nat.le_of_ble_eq_true rfl) dX1_walk_84
          · replace hR := ifn c39 hR
            refine lv_aload_n hx hb dX1_walk_65 rfl (lv_at hl 2 rfl) ?_
            refine gf hX hB cw3 rfl in1 3 (by decide) wm_1_104 rfl rfl dX1_walk_66 ?_
            refine lv_if_ne (tgt := 84) hx hb dX1_walk_69 (by decide) (fun c40 => ?_) (fun c40 => ?_)
            · replace hR := ifn c40 hR
              rw [← hQ]
              exact end_v hX hB hA3 rfl (by obtain ⟨rfl, rfl, rfl⟩ := pr3 hR; exact ⟨rfl, (fun h => ho15 ((fun h => ho9 ((fun h => ho3 ((fun h => h) h)) h)) h)), hwq_39, rfl⟩) (Nat.le_of_ble_eq_true rfl) (Nat.le_of_ble_eq_true rfl) dX1_walk_84
            · replace hR := ifp c40 hR
              refine lv_aload_n hx hb dX1_walk_72 rfl (lv_at hl 2 rfl) ?_
              refine lv_iload_n hx hb dX1_walk_73 rfl (lv_at hl 0 rfl) ?_
              obtain ⟨x42, q43, f45, hd41⟩ := ex3 (D_X1_clearCross r14 q_39 f_39 y3_39)
              replace hR := bnd3_use hd41 hR
              refine call_V (n := 1) (As := [.int y3_39]) (rest := []) hX hB (k_X1_clearCross κ l a r14 q_39 f_39 y3_39 x42 q43 f45 hd41) ⟨rfl, by decide, by decide, by decide +kernel⟩ wm_2_78 wm_2_80 wp_7 wm_1_4 wm_2_81 ⟨Nat.le_of_ble_eq_true rfl, Nat.le_of_ble_eq_true rfl⟩ ⟨Nat.le_of_ble_eq_true rfl, Nat.le_of_ble_eq_true rfl⟩ cw3 rfl rfl rfl hl.1 rfl (Nat.le_of_ble_eq_true rfl) dX1_walk_74 (fun o w' H locs hp hB => ?_)
              obtain ⟨rfl, bx42, hq44, rfl⟩ := hp
              refine W.eq (g2 := F0 m 77 ls [.int x42]) rfl ?_
              refine lv_istore_n (lv' := [(2, .int x42), (3, .int y3_39), (0, .ref (a 3)), (1, .ref (a (6 + 2 * i)))]) hx hb dX1_walk_77 rfl hl (by decide) rfl (fun ls hl => ?_)
              refine lv_iinc (v := y3_39 + 1) (lv' := [(3, .int (y3_39 + 1)), (2, .int x42), (0, .ref (a 3)), (1, .ref (a (6 + 2 * i)))]) hx hb dX1_walk_78 hl (k := 1) rfl rfl (by decide) rfl (fun ls hl => ?_)
              refine lv_goto (tgt := 39) hx hb dX1_walk_81 (by decide) ?_
              exact ih39 (y3_39 + 1) x42 q43 f45 _ _ (hq44.trans hwq_39) (gap_step c37 hμ39) hR hB _ hl
  exact lp39 _ 0 1 (va_up q16 1 0) f18 _ _ (hq17.trans (hq11.trans (hq5.trans rfl))) (Nat.lt_succ_self _) hR hB _ hl
noncomputable def D_X1_countRank_4 (r : Nat → Int32) (q : Nat → Int32) (f : Nat → Nat → Int64) (nn : Nat) : Int32 → Int32 → Int32 := @Nat.rec (fun _ => Int32 → Int32 → Int32) (fun _ _ => default) (fun _ lb4 (y2_4 : Int32) (y1_4 : Int32) => (if (r (2 * 8)) ≤ y2_4 then y1_4 else (if (r (2 * 8 + 1)) ≤ y2_4 then y1_4 else bnd1 (D_X3_get r q f 8 y2_4 y2_4) (fun (x14 : Int64) => (if (lg_cmp x14 0) = 0 then (lb4 (y2_4 + 1) y1_4) else (lb4 (y2_4 + 1) (y1_4 + 1))))))) nn
theorem D_X1_countRank_4_s {r : Nat → Int32} {q : Nat → Int32} {f : Nat → Nat → Int64} {nn : Nat} {y2_4 : Int32} {y1_4 : Int32} : D_X1_countRank_4 r q f (nn + 1) y2_4 y1_4 = (if (r (2 * 8)) ≤ y2_4 then y1_4 else (if (r (2 * 8 + 1)) ≤ y2_4 then y1_4 else bnd1 (D_X3_get r q f 8 y2_4 y2_4) (fun (x14 : Int64) => (if (lg_cmp x14 0) = 0 then ((D_X1_countRank_4 r q f nn) (y2_4 + 1) y1_4) else ((D_X1_countRank_4 r q f nn) (y2_4 + 1) (y1_4 + 1)))))) := rfl
noncomputable def D_X1_countRank (r : Nat → Int32) (q : Nat → Int32) (f : Nat → Nat → Int64) : Int32 := (D_X1_countRank_4 r q f (gap (r (2 * 8)) 0 + 1) 0 0)
theorem D_X1_countRank_s {r : Nat → Int32} {q : Nat → Int32} {f : Nat → Nat → Int64} : D_X1_countRank r q f = (D_X1_countRank_4 r q f (gap (r (2 * 8)) 0 + 1) 0 0) := rfl
set_option maxHeartbeats 4000000 in
set_option maxRecDepth 100000 in
theorem k_X1_countRank (κ : Kt) (l : Launch) (a : Nat → Nat) (r q : Nat → Int32) (f : Nat → Nat → Int64)  (o_x : Int32) (hR : D_X1_countRank r q f = o_x) : CM κ l yX1_countRank cX1_countRank 3 (some .int) 1 22 0 0 [.ref (a 3)] (cw κ a r q f) (fun o w' => o = some (.int o_x) ∧ w' = cw κ a r q f) := by
  refine CM_begin (plainFor_of_name (by decide)) (Nat.le_of_ble_eq_true rfl) ?_
  intro p e s m args below meth c A Q hX hnm hA3 hQ hB ls hl
  have hx := hX.1.1
  have hb := hX.1.2.1
  have hl : lv_has ls 3 [(0, .ref (a 3))] := hl
  replace hR := (D_X1_countRank_s).symm.trans hR
  refine lv_iconst (v := 0) hx hb dX1_countRank_0 (by decide) ?_
  refine lv_istore_n (lv' := [(1, .int 0), (0, .ref (a 3))]) hx hb dX1_countRank_1 rfl hl (by decide) rfl (fun ls hl => ?_)
  refine lv_iconst (v := 0) hx hb dX1_countRank_2 (by decide) ?_
  refine lv_istore_n (lv' := [(2, .int 0), (1, .int 0), (0, .ref (a 3))]) hx hb dX1_countRank_3 rfl hl (by decide) rfl (fun ls hl => ?_)
  have lp4 : ∀ (nn4 : Nat) (y2_4 : Int32) (y1_4 : Int32) (H : Heap) (locs : List Loc), gap (r (2 * 8)) y2_4 < nn4 → D_X1_countRank_4 r q f nn4 y2_4 y1_4 = o_x → Bd κ A s (cw κ a r q f) H locs → ∀ ls : Array Slot, lv_has ls 3 [(2, .int y2_4), (1, .int y1_4), (0, .ref (a 3))] → W p l e (Rm 1 22 0 0) s m args below meth c H locs 0 0 Q (F0 m 4 ls []) := by
    intro nn4
    induction nn4 with
    | zero => intro y2_4 y1_4 H locs hμ; exact absurd hμ (Nat.not_lt_zero _)
    | succ nn4 ih4 =>
      intro y2_4 y1_4 H locs hμ4 hR hB ls hl
      replace hR := (D_X1_countRank_4_s).symm.trans hR
      refine lv_iload_n hx hb dX1_countRank_4 rfl (lv_at hl 0 rfl) ?_
      refine lv_aload_n hx hb dX1_countRank_5 rfl (lv_at hl 2 rfl) ?_
      refine gf hX hB cw3 rfl in1 0 (by decide) wm_1_95 rfl rfl dX1_countRank_6 ?_
      refine gfN hX hB (cwG (i := 8) (by decide)) rfl in3 1 (by decide) wn_1_49 rfl rfl dX1_countRank_9 ?_
      refine lv_icmp_ge (tgt := 49) hx hb dX1_countRank_12 (by decide) (fun c11 => ?_) (fun c11 => ?_)
      · replace hR := ifp c11 hR
        refine lv_iload_n hx hb dX1_countRank_49 rfl (lv_at hl 1 rfl) ?_
        rw [← hQ]
        exact end_i hX hB hA3 rfl rfl (by obtain rfl := hR; exact ⟨rfl, rfl⟩) (Nat.le_of_ble_eq_true rfl) (Nat.le_of_ble_eq_true rfl) dX1_countRank_50
      · replace hR := ifn c11 hR
        refine lv_iload_n hx hb dX1_countRank_15 rfl (lv_at hl 0 rfl) ?_
        refine lv_aload_n hx hb dX1_countRank_16 rfl (lv_at hl 2 rfl) ?_
        refine gf hX hB cw3 rfl in1 0 (by decide) wm_1_95 rfl rfl dX1_countRank_17 ?_
        refine gfN hX hB (cwG (i := 8) (by decide)) rfl in3 2 (by decide) wn_1_54 rfl rfl dX1_countRank_20 ?_
        refine lv_icmp_ge (tgt := 49) hx hb dX1_countRank_23 (by decide) (fun c12 => ?_) (fun c12 => ?_)
        · replace hR := ifp c12 hR
          refine lv_iload_n hx hb dX1_countRank_49 rfl (lv_at hl 1 rfl) ?_
          rw [← hQ]
          exact end_i hX hB hA3 rfl rfl (by obtain rfl := hR; exact ⟨rfl, rfl⟩) (Nat.le_of_ble_eq_true rfl) (Nat.le_of_ble_eq_true rfl) dX1_countRank_50
        · replace hR := ifn c12 hR
          refine lv_aload_n hx hb dX1_countRank_26 rfl (lv_at hl 2 rfl) ?_
          refine gf hX hB cw3 rfl in1 0 (by decide) wm_1_95 rfl rfl dX1_countRank_27 ?_
          refine lv_iload_n hx hb dX1_countRank_30 rfl (lv_at hl 0 rfl) ?_
          refine lv_iload_n hx hb dX1_countRank_31 rfl (lv_at hl 0 rfl) ?_
          obtain ⟨x14, hd13⟩ := ex1 (D_X3_get r q f 8 y2_4 y2_4)
          replace hR := bnd1_use hd13 hR
          refine call_V (n := 2) (As := [.int y2_4, .int y2_4]) (rest := []) hX hB (k_X3_get κ l a r q f 8 y2_4 y2_4 (by decide) x14 hd13) ⟨rfl, by decide, by decide, by decide +kernel⟩ wm_2_87 wm_1_187 wm_1_188 wm_1_2 wm_1_189 ⟨Nat.le_of_ble_eq_true rfl, Nat.le_of_ble_eq_true rfl⟩ ⟨Nat.le_of_ble_eq_true rfl, Nat.le_of_ble_eq_true rfl⟩ (cwG (i := 8) (by decide)) rfl rfl rfl hl.1 rfl (Nat.le_of_ble_eq_true rfl) dX1_countRank_32 (fun o w' H locs hp hB => ?_)
          obtain ⟨rfl, rfl⟩ := hp
          refine W.eq (g2 := F0 m 35 ls [.long x14]) rfl ?_
          refine lv_lconst (v := 0) hx hb dX1_countRank_35 (by decide) ?_
          refine W.lcmp hx hb dX1_countRank_36 ?_
          refine lv_if_eq (tgt := 43) hx hb dX1_countRank_37 (by decide) (fun c15 => ?_) (fun c15 => ?_)
          · replace hR := ifp c15 hR
            refine lv_iinc (v := y2_4 + 1) (lv' := [(2, .int (y2_4 + 1)), (1, .int y1_4), (0, .ref (a 3))]) hx hb dX1_countRank_43 hl (k := 0) rfl rfl (by decide) rfl (fun ls hl => ?_)
            refine lv_goto (tgt := 4) hx hb dX1_countRank_46 (by decide) ?_
            exact ih4 (y2_4 + 1) y1_4 _ _  (gap_step c11 hμ4) hR hB _ hl
          · replace hR := ifn c15 hR
            refine lv_iinc (v := y1_4 + 1) (lv' := [(1, .int (y1_4 + 1)), (2, .int y2_4), (0, .ref (a 3))]) hx hb dX1_countRank_40 hl (k := 1) rfl rfl (by decide) rfl (fun ls hl => ?_)
            refine lv_iinc (v := y2_4 + 1) (lv' := [(2, .int (y2_4 + 1)), (1, .int (y1_4 + 1)), (0, .ref (a 3))]) hx hb dX1_countRank_43 hl (k := 1) rfl rfl (by decide) rfl (fun ls hl => ?_)
            refine lv_goto (tgt := 4) hx hb dX1_countRank_46 (by decide) ?_
            exact ih4 (y2_4 + 1) (y1_4 + 1) _ _  (gap_step c11 hμ4) hR hB _ hl
  exact lp4 _ 0 0 _ _  (Nat.lt_succ_self _) hR hB _ hl
noncomputable def D_X2_divide_j82 (r14 : Nat → Int32) (q16 : Nat → Int32) (x20 : Int32) (lb48 : Int32 → (Nat → Nat → Int64) → Int32 × (Nat → Int32) × (Nat → Int32) × (Nat → Nat → Int64)) (y5_48 : Int32) (f_48 : Nat → Nat → Int64) (z0_82 : Int64) : Int32 × (Nat → Int32) × (Nat → Int32) × (Nat → Nat → Int64) := bnd1 (D_X3_get r14 q16 f_48 12 y5_48 0) (fun (x64 : Int64) => bnd1 (D_X5_divides z0_82 x64) (fun (x65 : Int32) => (if x65 = 0 then (0, r14, q16, f_48) else (if x20 ≤ y5_48 then (lb48 (y5_48 + 1) f_48) else bnd1 (D_X3_get r14 q16 f_48 12 y5_48 0) (fun (x70 : Int64) => bnd1 (D_X5_divideDown x70 z0_82) (fun (x71 : Int64) => bnd1 (D_X3_set r14 q16 f_48 13 y5_48 0 x71) (fun (f74 : Nat → Nat → Int64) => (lb48 (y5_48 + 1) f74))))))))
theorem D_X2_divide_j82_s {r14 : Nat → Int32} {q16 : Nat → Int32} {x20 : Int32} {lb48 : Int32 → (Nat → Nat → Int64) → Int32 × (Nat → Int32) × (Nat → Int32) × (Nat → Nat → Int64)} {y5_48 : Int32} {f_48 : Nat → Nat → Int64} {z0_82 : Int64} : D_X2_divide_j82 r14 q16 x20 lb48 y5_48 f_48 z0_82 = bnd1 (D_X3_get r14 q16 f_48 12 y5_48 0) (fun (x64 : Int64) => bnd1 (D_X5_divides z0_82 x64) (fun (x65 : Int32) => (if x65 = 0 then (0, r14, q16, f_48) else (if x20 ≤ y5_48 then (lb48 (y5_48 + 1) f_48) else bnd1 (D_X3_get r14 q16 f_48 12 y5_48 0) (fun (x70 : Int64) => bnd1 (D_X5_divideDown x70 z0_82) (fun (x71 : Int64) => bnd1 (D_X3_set r14 q16 f_48 13 y5_48 0 x71) (fun (f74 : Nat → Nat → Int64) => (lb48 (y5_48 + 1) f74)))))))) := rfl
noncomputable def D_X2_divide_48 (r14 : Nat → Int32) (q16 : Nat → Int32) (x20 : Int32) (nn : Nat) : Int32 → (Nat → Nat → Int64) → Int32 × (Nat → Int32) × (Nat → Int32) × (Nat → Nat → Int64) := @Nat.rec (fun _ => Int32 → (Nat → Nat → Int64) → Int32 × (Nat → Int32) × (Nat → Int32) × (Nat → Nat → Int64)) (fun _ _ => default) (fun _ lb48 (y5_48 : Int32) (f_48 : Nat → Nat → Int64) => (if (r14 (2 * 12)) ≤ y5_48 then (1, r14, q16, f_48) else (if x20 ≤ y5_48 then (D_X2_divide_j82 r14 q16 x20 lb48 y5_48 f_48 0) else bnd1 (D_X3_get r14 q16 f_48 8 y5_48 y5_48) (fun (x77 : Int64) => (D_X2_divide_j82 r14 q16 x20 lb48 y5_48 f_48 x77))))) nn
theorem D_X2_divide_48_s {r14 : Nat → Int32} {q16 : Nat → Int32} {x20 : Int32} {nn : Nat} {y5_48 : Int32} {f_48 : Nat → Nat → Int64} : D_X2_divide_48 r14 q16 x20 (nn + 1) y5_48 f_48 = (if (r14 (2 * 12)) ≤ y5_48 then (1, r14, q16, f_48) else (if x20 ≤ y5_48 then (D_X2_divide_j82 r14 q16 x20 (D_X2_divide_48 r14 q16 x20 nn) y5_48 f_48 0) else bnd1 (D_X3_get r14 q16 f_48 8 y5_48 y5_48) (fun (x77 : Int64) => (D_X2_divide_j82 r14 q16 x20 (D_X2_divide_48 r14 q16 x20 nn) y5_48 f_48 x77)))) := rfl
noncomputable def D_X2_divide (r : Nat → Int32) (q : Nat → Int32) (f : Nat → Nat → Int64) (j : Nat) (p0 : Int32) : Int32 × (Nat → Int32) × (Nat → Int32) × (Nat → Nat → Int64) := bnd3 (D_X3_becomeColumn r q f 11 j p0) (fun (r2 : Nat → Int32) (q4 : Nat → Int32) (f6 : Nat → Nat → Int64) => bnd3 (D_X3_becomeProduct r2 q4 f6 12 9 11) (fun (r8 : Nat → Int32) (q10 : Nat → Int32) (f12 : Nat → Nat → Int64) => bnd3 (D_X3_reshape r8 q10 f12 13 (r8 (2 * 8 + 1)) 1) (fun (r14 : Nat → Int32) (q16 : Nat → Int32) (f18 : Nat → Nat → Int64) => bnd1 (D_X1_countRank r14 q16 f18) (fun (x20 : Int32) => (D_X2_divide_48 r14 q16 x20 (gap (r14 (2 * 12)) 0 + 1) 0 f18)))))
theorem D_X2_divide_s {r : Nat → Int32} {q : Nat → Int32} {f : Nat → Nat → Int64} {j : Nat} {p0 : Int32} : D_X2_divide r q f j p0 = bnd3 (D_X3_becomeColumn r q f 11 j p0) (fun (r2 : Nat → Int32) (q4 : Nat → Int32) (f6 : Nat → Nat → Int64) => bnd3 (D_X3_becomeProduct r2 q4 f6 12 9 11) (fun (r8 : Nat → Int32) (q10 : Nat → Int32) (f12 : Nat → Nat → Int64) => bnd3 (D_X3_reshape r8 q10 f12 13 (r8 (2 * 8 + 1)) 1) (fun (r14 : Nat → Int32) (q16 : Nat → Int32) (f18 : Nat → Nat → Int64) => bnd1 (D_X1_countRank r14 q16 f18) (fun (x20 : Int32) => (D_X2_divide_48 r14 q16 x20 (gap (r14 (2 * 12)) 0 + 1) 0 f18))))) := rfl
set_option maxHeartbeats 4000000 in
set_option maxRecDepth 100000 in
theorem k_X2_divide (κ : Kt) (l : Launch) (a : Nat → Nat) (r q : Nat → Int32) (f : Nat → Nat → Int64) (j : Nat) (p0 : Int32) (hj : j < 15) (o_x : Int32) (o_r : Nat → Int32) (o_q : Nat → Int32) (o_f : Nat → Nat → Int64) (hR : D_X2_divide r q f j p0 = (o_x, o_r, o_q, o_f)) : CM κ l yX2_divide cX2_divide 8 (some .boolean) 3 71 0 0 [.ref (a 4), .ref (a 3), .ref (a (6 + 2 * j)), .int p0] (cw κ a r q f) (fun o w' => o = some (.int o_x) ∧ (o_x = 0 ∨ o_x = 1) ∧ (okr r → okr o_r) ∧ o_q 4 = q 4 ∧ w' = cw κ a o_r o_q o_f) := by
  refine CM_begin (plainFor_of_name (by decide)) (Nat.le_of_ble_eq_true rfl) ?_
  intro p e s m args below meth c A Q hX hnm hA3 hQ hB ls hl
  have hx := hX.1.1
  have hb := hX.1.2.1
  have hl : lv_has ls 8 [(0, .ref (a 4)), (1, .ref (a 3)), (2, .ref (a (6 + 2 * j))), (3, .int p0)] := hl
  replace hR := (D_X2_divide_s).symm.trans hR
  refine lv_aload_n hx hb dX2_divide_0 rfl (lv_at hl 0 rfl) ?_
  refine gf hX hB cw4 rfl in2 0 (by decide) wm_1_123 rfl rfl dX2_divide_1 ?_
  refine lv_aload_n hx hb dX2_divide_4 rfl (lv_at hl 2 rfl) ?_
  refine lv_iload_n hx hb dX2_divide_5 rfl (lv_at hl 3 rfl) ?_
  obtain ⟨r2, q4, f6, hd1⟩ := ex3 (D_X3_becomeColumn r q f 11 j p0)
  replace hR := bnd3_use hd1 hR
  refine call_V (n := 2) (As := [.ref (a (6 + 2 * j)), .int p0]) (rest := []) hX hB (k_X3_becomeColumn κ l a r q f 11 j p0 (by decide) hj r2 q4 f6 hd1) ⟨rfl, by decide, by decide, by decide +kernel⟩ wm_3_189 wm_3_190 wm_3_191 wm_1_2 wm_3_192 ⟨Nat.le_of_ble_eq_true rfl, Nat.le_of_ble_eq_true rfl⟩ ⟨Nat.le_of_ble_eq_true rfl, Nat.le_of_ble_eq_true rfl⟩ (cwG (i := 11) (by decide)) rfl rfl rfl hl.1 rfl (Nat.le_of_ble_eq_true rfl) dX2_divide_6 (fun o w' H locs hp hB => ?_)
  obtain ⟨rfl, ho3, hq5, rfl⟩ := hp
  refine W.eq (g2 := F0 m 9 ls []) rfl ?_
  refine lv_aload_n hx hb dX2_divide_9 rfl (lv_at hl 0 rfl) ?_
  refine gf hX hB cw4 rfl in2 1 (by decide) wm_1_124 rfl rfl dX2_divide_10 ?_
  refine lv_aload_n hx hb dX2_divide_13 rfl (lv_at hl 1 rfl) ?_
  refine gfN hX hB cw3 rfl in1 1 (by decide) wn_1_99 rfl rfl dX2_divide_14 ?_
  refine lv_aload_n hx hb dX2_divide_17 rfl (lv_at hl 0 rfl) ?_
  refine gf hX hB cw4 rfl in2 0 (by decide) wm_1_123 rfl rfl dX2_divide_18 ?_
  obtain ⟨r8, q10, f12, hd7⟩ := ex3 (D_X3_becomeProduct r2 q4 f6 12 9 11)
  replace hR := bnd3_use hd7 hR
  refine call_V (n := 2) (As := [.ref (a 24), .ref (a 28)]) (rest := []) hX hB (k_X3_becomeProduct κ l a r2 q4 f6 12 9 11 (by decide) (by decide) (by decide) r8 q10 f12 hd7) ⟨rfl, by decide, by decide, by decide +kernel⟩ wm_3_193 wm_2_41 wm_2_42 wm_1_2 wm_2_43 ⟨Nat.le_of_ble_eq_true rfl, Nat.le_of_ble_eq_true rfl⟩ ⟨Nat.le_of_ble_eq_true rfl, Nat.le_of_ble_eq_true rfl⟩ (cwG (i := 12) (by decide)) rfl rfl rfl hl.1 rfl (Nat.le_of_ble_eq_true rfl) dX2_divide_21 (fun o w' H locs hp hB => ?_)
  obtain ⟨rfl, ho9, hq11, rfl⟩ := hp
  refine W.eq (g2 := F0 m 24 ls []) rfl ?_
  refine lv_aload_n hx hb dX2_divide_24 rfl (lv_at hl 0 rfl) ?_
  refine gf hX hB cw4 rfl in2 2 (by decide) wm_1_125 rfl rfl dX2_divide_25 ?_
  refine lv_aload_n hx hb dX2_divide_28 rfl (lv_at hl 1 rfl) ?_
  refine gfN hX hB cw3 rfl in1 0 (by decide) wn_1_96 rfl rfl dX2_divide_29 ?_
  refine gfN hX hB (cwG (i := 8) (by decide)) rfl in3 2 (by decide) wn_1_55 rfl rfl dX2_divide_32 ?_
  refine lv_iconst (v := 1) hx hb dX2_divide_35 (by decide) ?_
  obtain ⟨r14, q16, f18, hd13⟩ := ex3 (D_X3_reshape r8 q10 f12 13 (r8 (2 * 8 + 1)) 1)
  replace hR := bnd3_use hd13 hR
  refine call_V (n := 2) (As := [.int (r8 (2 * 8 + 1)), .int 1]) (rest := []) hX hB (k_X3_reshape κ l a r8 q10 f12 13 (r8 (2 * 8 + 1)) 1 (by decide) r14 q16 f18 hd13) ⟨rfl, by decide, by decide, by decide +kernel⟩ wm_3_194 wm_1_213 wm_1_214 wm_1_2 wm_1_215 ⟨Nat.le_of_ble_eq_true rfl, Nat.le_of_ble_eq_true rfl⟩ ⟨Nat.le_of_ble_eq_true rfl, Nat.le_of_ble_eq_true rfl⟩ (cwG (i := 13) (by decide)) rfl rfl rfl hl.1 rfl (Nat.le_of_ble_eq_true rfl) dX2_divide_36 (fun o w' H locs hp hB => ?_)
  obtain ⟨rfl, ho15, hq17, rfl⟩ := hp
  refine W.eq (g2 := F0 m 39 ls []) rfl ?_
  refine lv_aload_n hx hb dX2_divide_39 rfl (lv_at hl 1 rfl) ?_
  obtain ⟨x20, hd19⟩ := ex1 (D_X1_countRank r14 q16 f18)
  replace hR := bnd1_use hd19 hR
  refine call_V (n := 0) (As := []) (rest := []) hX hB (k_X1_countRank κ l a r14 q16 f18 x20 hd19) ⟨rfl, by decide, by decide, by decide +kernel⟩ wm_3_195 wm_3_196 wm_3_197 wm_1_4 wm_3_198 ⟨Nat.le_of_ble_eq_true rfl, Nat.le_of_ble_eq_true rfl⟩ ⟨Nat.le_of_ble_eq_true rfl, Nat.le_of_ble_eq_true rfl⟩ cw3 rfl rfl rfl hl.1 rfl (Nat.le_of_ble_eq_true rfl) dX2_divide_40 (fun o w' H locs hp hB => ?_)
  obtain ⟨rfl, rfl⟩ := hp
  refine W.eq (g2 := F0 m 43 ls [.int x20]) rfl ?_
  refine lv_istore (lv' := [(4, .int x20), (0, .ref (a 4)), (1, .ref (a 3)), (2, .ref (a (6 + 2 * j))), (3, .int p0)]) hx hb dX2_divide_43 hl (by decide) rfl (fun ls hl => ?_)
  refine lv_iconst (v := 0) hx hb dX2_divide_45 (by decide) ?_
  refine lv_istore (lv' := [(5, .int 0), (4, .int x20), (0, .ref (a 4)), (1, .ref (a 3)), (2, .ref (a (6 + 2 * j))), (3, .int p0)]) hx hb dX2_divide_46 hl (by decide) rfl (fun ls hl => ?_)
  have lp48 : ∀ (nn48 : Nat) (y5_48 : Int32) (f_48 : Nat → Nat → Int64) (H : Heap) (locs : List Loc), gap (r14 (2 * 12)) y5_48 < nn48 → D_X2_divide_48 r14 q16 x20 nn48 y5_48 f_48 = (o_x, o_r, o_q, o_f) → Bd κ A s (cw κ a r14 q16 f_48) H locs → ∀ ls : Array Slot, lv_has ls 8 [(5, .int y5_48), (4, .int x20), (0, .ref (a 4)), (1, .ref (a 3)), (2, .ref (a (6 + 2 * j))), (3, .int p0)] → W p l e (Rm 3 71 0 0) s m args below meth c H locs 0 0 Q (F0 m 48 ls []) := by
    intro nn48
    induction nn48 with
    | zero => intro y5_48 f_48 H locs hμ; exact absurd hμ (Nat.not_lt_zero _)
    | succ nn48 ih48 =>
      intro y5_48 f_48 H locs hμ48 hR hB ls hl
      replace hR := (D_X2_divide_48_s).symm.trans hR
      refine lv_iload hx hb dX2_divide_48 (lv_at hl 0 rfl) ?_
      refine lv_aload_n hx hb dX2_divide_50 rfl (lv_at hl 2 rfl) ?_
      refine gf hX hB cw4 rfl in2 1 (by decide) wm_1_124 rfl rfl dX2_divide_51 ?_
      refine gfN hX hB (cwG (i := 12) (by decide)) rfl in3 1 (by decide) wn_1_50 rfl rfl dX2_divide_54 ?_
      refine lv_icmp_ge (tgt := 142) hx hb dX2_divide_57 (by decide) (fun c59 => ?_) (fun c59 => ?_)
      · replace hR := ifp c59 hR
        refine lv_iconst (v := 1) hx hb dX2_divide_142 (by decide) ?_
        rw [← hQ]
        exact end_i hX hB hA3 rfl rfl (by obtain ⟨rfl, rfl, rfl, rfl⟩ := pr4 hR; exact ⟨rfl, Or.inr rfl, (fun h => ho15 ((fun h => ho9 ((fun h => ho3 ((fun h => h) h)) h)) h)), (hq17.trans (hq11.trans (hq5.trans rfl))), rfl⟩) (Nat.le_of_ble_eq_true rfl) (Nat.le_of_ble_eq_true rfl) dX2_divide_143
      · replace hR := ifn c59 hR
        refine lv_iload hx hb dX2_divide_60 (lv_at hl 0 rfl) ?_
        refine lv_iload hx hb dX2_divide_62 (lv_at hl 1 rfl) ?_
        have jn82 : ∀ (z0_82 : Int64) (H : Heap) (locs : List Loc), D_X2_divide_j82 r14 q16 x20 (D_X2_divide_48 r14 q16 x20 nn48) y5_48 f_48 z0_82 = (o_x, o_r, o_q, o_f) → Bd κ A s (cw κ a r14 q16 f_48) H locs → ∀ ls : Array Slot, lv_has ls 8 [(5, .int y5_48), (4, .int x20), (0, .ref (a 4)), (1, .ref (a 3)), (2, .ref (a (6 + 2 * j))), (3, .int p0)] → W p l e (Rm 3 71 0 0) s m args below meth c H locs 0 0 Q (F0 m 82 ls [.long z0_82]) := by
          intro z0_82 H locs hR hB ls hl
          replace hR := (D_X2_divide_j82_s).symm.trans hR
          refine lv_lstore (lv' := [(6, .long z0_82), (5, .int y5_48), (4, .int x20), (0, .ref (a 4)), (1, .ref (a 3)), (2, .ref (a (6 + 2 * j))), (3, .int p0)]) hx hb dX2_divide_82 hl (by decide) rfl (fun ls hl => ?_)
          refine lv_lload hx hb dX2_divide_84 (lv_at hl 0 rfl) ?_
          refine lv_aload_n hx hb dX2_divide_86 rfl (lv_at hl 3 rfl) ?_
          refine gf hX hB cw4 rfl in2 1 (by decide) wm_1_124 rfl rfl dX2_divide_87 ?_
          refine lv_iload hx hb dX2_divide_90 (lv_at hl 1 rfl) ?_
          refine lv_iconst (v := 0) hx hb dX2_divide_92 (by decide) ?_
          obtain ⟨x64, hd63⟩ := ex1 (D_X3_get r14 q16 f_48 12 y5_48 0)
          replace hR := bnd1_use hd63 hR
          refine call_V (n := 2) (As := [.int y5_48, .int 0]) (rest := [.long z0_82]) hX hB (k_X3_get κ l a r14 q16 f_48 12 y5_48 0 (by decide) x64 hd63) ⟨rfl, by decide, by decide, by decide +kernel⟩ wm_3_199 wm_1_187 wm_1_188 wm_1_2 wm_1_189 ⟨Nat.le_of_ble_eq_true rfl, Nat.le_of_ble_eq_true rfl⟩ ⟨Nat.le_of_ble_eq_true rfl, Nat.le_of_ble_eq_true rfl⟩ (cwG (i := 12) (by decide)) rfl rfl rfl hl.1 rfl (Nat.le_of_ble_eq_true rfl) dX2_divide_93 (fun o w' H locs hp hB => ?_)
          obtain ⟨rfl, rfl⟩ := hp
          refine W.eq (g2 := F0 m 96 ls [.long x64, .long z0_82]) rfl ?_
          obtain ⟨x65, hd66⟩ := ex1 (D_X5_divides z0_82 x64)
          replace hR := bnd1_use hd66 hR
          refine call_SN (n := 2) (As := [.long z0_82, .long x64]) (rest := []) hX hB (k_X5_divides κ l (cw κ a r14 q16 f_48) z0_82 x64  x65 hd66) ⟨by decide, by decide, by decide +kernel⟩ wn_3_200 wm_2_116 wm_1_1 wm_2_117 ⟨Nat.le_of_ble_eq_true rfl, Nat.le_of_ble_eq_true rfl⟩ ⟨Nat.le_of_ble_eq_true rfl, Nat.le_of_ble_eq_true rfl⟩ rfl hl.1 rfl (Nat.le_of_ble_eq_true rfl) dX2_divide_96 (fun o w' H locs hp hB => ?_)
          obtain ⟨rfl, bx65, hw9⟩ := hp
          rw [hw9] at hB
          refine W.eq (g2 := F0 m 99 ls [.int x65]) rfl ?_
          refine lv_if_ne (tgt := 104) hx hb dX2_divide_99 (by decide) (fun c67 => ?_) (fun c67 => ?_)
          · replace hR := ifn c67 hR
            refine lv_iload hx hb dX2_divide_104 (lv_at hl 1 rfl) ?_
            refine lv_iload hx hb dX2_divide_106 (lv_at hl 2 rfl) ?_
            refine lv_icmp_ge (tgt := 136) hx hb dX2_divide_108 (by decide) (fun c68 => ?_) (fun c68 => ?_)
            · replace hR := ifp c68 hR
              refine lv_iinc (v := y5_48 + 1) (lv' := [(5, .int (y5_48 + 1)), (6, .long z0_82), (4, .int x20), (0, .ref (a 4)), (1, .ref (a 3)), (2, .ref (a (6 + 2 * j))), (3, .int p0)]) hx hb dX2_divide_136 hl (k := 1) rfl rfl (by decide) rfl (fun ls hl => ?_)
              refine lv_goto (tgt := 48) hx hb dX2_divide_139 (by decide) ?_
              exact ih48 (y5_48 + 1) f_48 _ _  (gap_step c59 hμ48) hR hB _ (lv_sub hl [0, 2, 3, 4, 5, 6] rfl)
            · replace hR := ifn c68 hR
              refine lv_aload_n hx hb dX2_divide_111 rfl (lv_at hl 3 rfl) ?_
              refine gf hX hB cw4 rfl in2 2 (by decide) wm_1_125 rfl rfl dX2_divide_112 ?_
              refine lv_iload hx hb dX2_divide_115 (lv_at hl 1 rfl) ?_
              refine lv_iconst (v := 0) hx hb dX2_divide_117 (by decide) ?_
              refine lv_aload_n hx hb dX2_divide_118 rfl (lv_at hl 3 rfl) ?_
              refine gf hX hB cw4 rfl in2 1 (by decide) wm_1_124 rfl rfl dX2_divide_119 ?_
              refine lv_iload hx hb dX2_divide_122 (lv_at hl 1 rfl) ?_
              refine lv_iconst (v := 0) hx hb dX2_divide_124 (by decide) ?_
              obtain ⟨x70, hd69⟩ := ex1 (D_X3_get r14 q16 f_48 12 y5_48 0)
              replace hR := bnd1_use hd69 hR
              refine call_V (n := 2) (As := [.int y5_48, .int 0]) (rest := [.int 0, .int y5_48, .ref (a 32)]) hX hB (k_X3_get κ l a r14 q16 f_48 12 y5_48 0 (by decide) x70 hd69) ⟨rfl, by decide, by decide, by decide +kernel⟩ wm_3_199 wm_1_187 wm_1_188 wm_1_2 wm_1_189 ⟨Nat.le_of_ble_eq_true rfl, Nat.le_of_ble_eq_true rfl⟩ ⟨Nat.le_of_ble_eq_true rfl, Nat.le_of_ble_eq_true rfl⟩ (cwG (i := 12) (by decide)) rfl rfl rfl hl.1 rfl (Nat.le_of_ble_eq_true rfl) dX2_divide_125 (fun o w' H locs hp hB => ?_)
              obtain ⟨rfl, rfl⟩ := hp
              refine W.eq (g2 := F0 m 128 ls [.long x70, .int 0, .int y5_48, .ref (a 32)]) rfl ?_
              refine lv_lload hx hb dX2_divide_128 (lv_at hl 0 rfl) ?_
              obtain ⟨x71, hd72⟩ := ex1 (D_X5_divideDown x70 z0_82)
              replace hR := bnd1_use hd72 hR
              refine call_SN (n := 2) (As := [.long x70, .long z0_82]) (rest := [.int 0, .int y5_48, .ref (a 32)]) hX hB (k_X5_divideDown κ l (cw κ a r14 q16 f_48) x70 z0_82  x71 hd72) ⟨by decide, by decide, by decide +kernel⟩ wn_3_201 wm_2_17 wm_1_1 wm_2_18 ⟨Nat.le_of_ble_eq_true rfl, Nat.le_of_ble_eq_true rfl⟩ ⟨Nat.le_of_ble_eq_true rfl, Nat.le_of_ble_eq_true rfl⟩ rfl hl.1 rfl (Nat.le_of_ble_eq_true rfl) dX2_divide_130 (fun o w' H locs hp hB => ?_)
              obtain ⟨rfl, hw9⟩ := hp
              rw [hw9] at hB
              refine W.eq (g2 := F0 m 133 ls [.long x71, .int 0, .int y5_48, .ref (a 32)]) rfl ?_
              obtain ⟨f74, hd73⟩ := ex1 (D_X3_set r14 q16 f_48 13 y5_48 0 x71)
              replace hR := bnd1_use hd73 hR
              refine call_V (n := 3) (As := [.int y5_48, .int 0, .long x71]) (rest := []) hX hB (k_X3_set κ l a r14 q16 f_48 13 y5_48 0 x71 (by decide) f74 hd73) ⟨rfl, by decide, by decide, by decide +kernel⟩ wm_3_202 wm_1_223 wm_1_224 wm_1_2 wm_1_225 ⟨Nat.le_of_ble_eq_true rfl, Nat.le_of_ble_eq_true rfl⟩ ⟨Nat.le_of_ble_eq_true rfl, Nat.le_of_ble_eq_true rfl⟩ (cwG (i := 13) (by decide)) rfl rfl rfl hl.1 rfl (Nat.le_of_ble_eq_true rfl) dX2_divide_133 (fun o w' H locs hp hB => ?_)
              obtain ⟨rfl, rfl⟩ := hp
              refine W.eq (g2 := F0 m 136 ls []) rfl ?_
              refine lv_iinc (v := y5_48 + 1) (lv' := [(5, .int (y5_48 + 1)), (6, .long z0_82), (4, .int x20), (0, .ref (a 4)), (1, .ref (a 3)), (2, .ref (a (6 + 2 * j))), (3, .int p0)]) hx hb dX2_divide_136 hl (k := 1) rfl rfl (by decide) rfl (fun ls hl => ?_)
              refine lv_goto (tgt := 48) hx hb dX2_divide_139 (by decide) ?_
              exact ih48 (y5_48 + 1) f74 _ _  (gap_step c59 hμ48) hR hB _ (lv_sub hl [0, 2, 3, 4, 5, 6] rfl)
          · replace hR := ifp c67 hR
            refine lv_iconst (v := 0) hx hb dX2_divide_102 (by decide) ?_
            rw [← hQ]
            exact end_i hX hB hA3 rfl rfl (by obtain ⟨rfl, rfl, rfl, rfl⟩ := pr4 hR; exact ⟨rfl, Or.inl rfl, (fun h => ho15 ((fun h => ho9 ((fun h => ho3 ((fun h => h) h)) h)) h)), (hq17.trans (hq11.trans (hq5.trans rfl))), rfl⟩) (Nat.le_of_ble_eq_true rfl) (Nat.le_of_ble_eq_true rfl) dX2_divide_103
        refine lv_icmp_ge (tgt := 81) hx hb dX2_divide_64 (by decide) (fun c75 => ?_) (fun c75 => ?_)
        · replace hR := ifp c75 hR
          refine lv_lconst (v := 0) hx hb dX2_divide_81 (by decide) ?_
          exact jn82 0 _ _  hR hB _ hl
        · replace hR := ifn c75 hR
          refine lv_aload_n hx hb dX2_divide_67 rfl (lv_at hl 3 rfl) ?_
          refine gfN hX hB cw3 rfl in1 0 (by decide) wn_1_96 rfl rfl dX2_divide_68 ?_
          refine lv_iload hx hb dX2_divide_71 (lv_at hl 0 rfl) ?_
          refine lv_iload hx hb dX2_divide_73 (lv_at hl 0 rfl) ?_
          obtain ⟨x77, hd76⟩ := ex1 (D_X3_get r14 q16 f_48 8 y5_48 y5_48)
          replace hR := bnd1_use hd76 hR
          refine call_V (n := 2) (As := [.int y5_48, .int y5_48]) (rest := []) hX hB (k_X3_get κ l a r14 q16 f_48 8 y5_48 y5_48 (by decide) x77 hd76) ⟨rfl, by decide, by decide, by decide +kernel⟩ wm_3_199 wm_1_187 wm_1_188 wm_1_2 wm_1_189 ⟨Nat.le_of_ble_eq_true rfl, Nat.le_of_ble_eq_true rfl⟩ ⟨Nat.le_of_ble_eq_true rfl, Nat.le_of_ble_eq_true rfl⟩ (cwG (i := 8) (by decide)) rfl rfl rfl hl.1 rfl (Nat.le_of_ble_eq_true rfl) dX2_divide_75 (fun o w' H locs hp hB => ?_)
          obtain ⟨rfl, rfl⟩ := hp
          refine W.eq (g2 := F0 m 78 ls [.long x77]) rfl ?_
          refine lv_goto (tgt := 82) hx hb dX2_divide_78 (by decide) ?_
          exact jn82 x77 _ _  hR hB _ hl
  exact lp48 _ 0 f18 _ _  (Nat.lt_succ_self _) hR hB _ hl
noncomputable def D_X2_findSolution (r : Nat → Int32) (q : Nat → Int32) (f : Nat → Nat → Int64) : Int32 × (Nat → Int32) × (Nat → Int32) × (Nat → Nat → Int64) := bnd1 (D_X3_isWithin r q f 13 1000000000) (fun (x2 : Int32) => (if x2 = 0 then (0, r, q, f) else bnd3 (D_X3_becomeProduct r q f 14 10 13) (fun (r5 : Nat → Int32) (q7 : Nat → Int32) (f9 : Nat → Nat → Int64) => bnd1 (D_X3_isWithin r5 q7 f9 14 1000000000) (fun (x11 : Int32) => (x11, r5, q7, f9)))))
theorem D_X2_findSolution_s {r : Nat → Int32} {q : Nat → Int32} {f : Nat → Nat → Int64} : D_X2_findSolution r q f = bnd1 (D_X3_isWithin r q f 13 1000000000) (fun (x2 : Int32) => (if x2 = 0 then (0, r, q, f) else bnd3 (D_X3_becomeProduct r q f 14 10 13) (fun (r5 : Nat → Int32) (q7 : Nat → Int32) (f9 : Nat → Nat → Int64) => bnd1 (D_X3_isWithin r5 q7 f9 14 1000000000) (fun (x11 : Int32) => (x11, r5, q7, f9))))) := rfl
set_option maxHeartbeats 4000000 in
set_option maxRecDepth 100000 in
theorem k_X2_findSolution (κ : Kt) (l : Launch) (a : Nat → Nat) (r q : Nat → Int32) (f : Nat → Nat → Int64)  (o_x : Int32) (o_r : Nat → Int32) (o_q : Nat → Int32) (o_f : Nat → Nat → Int64) (hR : D_X2_findSolution r q f = (o_x, o_r, o_q, o_f)) : CM κ l yX2_findSolution cX2_findSolution 2 (some .boolean) 3 71 0 0 [.ref (a 4), .ref (a 3)] (cw κ a r q f) (fun o w' => o = some (.int o_x) ∧ (o_x = 0 ∨ o_x = 1) ∧ (okr r → okr o_r) ∧ o_q 4 = q 4 ∧ w' = cw κ a o_r o_q o_f) := by
  refine CM_begin (plainFor_of_name (by decide)) (Nat.le_of_ble_eq_true rfl) ?_
  intro p e s m args below meth c A Q hX hnm hA3 hQ hB ls hl
  have hx := hX.1.1
  have hb := hX.1.2.1
  have hl : lv_has ls 2 [(0, .ref (a 4)), (1, .ref (a 3))] := hl
  replace hR := (D_X2_findSolution_s).symm.trans hR
  refine lv_aload_n hx hb dX2_findSolution_0 rfl (lv_at hl 0 rfl) ?_
  refine gf hX hB cw4 rfl in2 2 (by decide) wm_1_125 rfl rfl dX2_findSolution_1 ?_
  refine lv_ldc2 (own := RX2) (v := 1000000000) hx hb hX.1.2.2.2.1 (hX.1.2.2.2.2 _ wm_3_207) dX2_findSolution_4 ?_
  obtain ⟨x2, hd1⟩ := ex1 (D_X3_isWithin r q f 13 1000000000)
  replace hR := bnd1_use hd1 hR
  refine call_V (n := 1) (As := [.long 1000000000]) (rest := []) hX hB (k_X3_isWithin κ l a r q f 13 1000000000 (by decide) x2 hd1) ⟨rfl, by decide, by decide, by decide +kernel⟩ wm_3_208 wm_2_28 wm_2_29 wm_1_2 wm_2_30 ⟨Nat.le_of_ble_eq_true rfl, Nat.le_of_ble_eq_true rfl⟩ ⟨Nat.le_of_ble_eq_true rfl, Nat.le_of_ble_eq_true rfl⟩ (cwG (i := 13) (by decide)) rfl rfl rfl hl.1 rfl (Nat.le_of_ble_eq_true rfl) dX2_findSolution_7 (fun o w' H locs hp hB => ?_)
  obtain ⟨rfl, bx2, rfl⟩ := hp
  refine W.eq (g2 := F0 m 10 ls [.int x2]) rfl ?_
  refine lv_if_ne (tgt := 15) hx hb dX2_findSolution_10 (by decide) (fun c3 => ?_) (fun c3 => ?_)
  · replace hR := ifn c3 hR
    refine lv_aload_n hx hb dX2_findSolution_15 rfl (lv_at hl 0 rfl) ?_
    refine gf hX hB cw4 rfl in2 3 (by decide) wm_1_126 rfl rfl dX2_findSolution_16 ?_
    refine lv_aload_n hx hb dX2_findSolution_19 rfl (lv_at hl 1 rfl) ?_
    refine gfN hX hB cw3 rfl in1 2 (by decide) wn_1_102 rfl rfl dX2_findSolution_20 ?_
    refine lv_aload_n hx hb dX2_findSolution_23 rfl (lv_at hl 0 rfl) ?_
    refine gf hX hB cw4 rfl in2 2 (by decide) wm_1_125 rfl rfl dX2_findSolution_24 ?_
    obtain ⟨r5, q7, f9, hd4⟩ := ex3 (D_X3_becomeProduct r q f 14 10 13)
    replace hR := bnd3_use hd4 hR
    refine call_V (n := 2) (As := [.ref (a 26), .ref (a 32)]) (rest := []) hX hB (k_X3_becomeProduct κ l a r q f 14 10 13 (by decide) (by decide) (by decide) r5 q7 f9 hd4) ⟨rfl, by decide, by decide, by decide +kernel⟩ wm_3_193 wm_2_41 wm_2_42 wm_1_2 wm_2_43 ⟨Nat.le_of_ble_eq_true rfl, Nat.le_of_ble_eq_true rfl⟩ ⟨Nat.le_of_ble_eq_true rfl, Nat.le_of_ble_eq_true rfl⟩ (cwG (i := 14) (by decide)) rfl rfl rfl hl.1 rfl (Nat.le_of_ble_eq_true rfl) dX2_findSolution_27 (fun o w' H locs hp hB => ?_)
    obtain ⟨rfl, ho6, hq8, rfl⟩ := hp
    refine W.eq (g2 := F0 m 30 ls []) rfl ?_
    refine lv_aload_n hx hb dX2_findSolution_30 rfl (lv_at hl 0 rfl) ?_
    refine gf hX hB cw4 rfl in2 3 (by decide) wm_1_126 rfl rfl dX2_findSolution_31 ?_
    refine lv_ldc2 (own := RX2) (v := 1000000000) hx hb hX.1.2.2.2.1 (hX.1.2.2.2.2 _ wm_3_207) dX2_findSolution_34 ?_
    obtain ⟨x11, hd10⟩ := ex1 (D_X3_isWithin r5 q7 f9 14 1000000000)
    replace hR := bnd1_use hd10 hR
    refine call_V (n := 1) (As := [.long 1000000000]) (rest := []) hX hB (k_X3_isWithin κ l a r5 q7 f9 14 1000000000 (by decide) x11 hd10) ⟨rfl, by decide, by decide, by decide +kernel⟩ wm_3_208 wm_2_28 wm_2_29 wm_1_2 wm_2_30 ⟨Nat.le_of_ble_eq_true rfl, Nat.le_of_ble_eq_true rfl⟩ ⟨Nat.le_of_ble_eq_true rfl, Nat.le_of_ble_eq_true rfl⟩ (cwG (i := 14) (by decide)) rfl rfl rfl hl.1 rfl (Nat.le_of_ble_eq_true rfl) dX2_findSolution_37 (fun o w' H locs hp hB => ?_)
    obtain ⟨rfl, bx11, rfl⟩ := hp
    refine W.eq (g2 := F0 m 40 ls [.int x11]) rfl ?_
    rw [← hQ]
    exact end_i hX hB hA3 rfl (nbz (by assumption)) (by obtain ⟨rfl, rfl, rfl, rfl⟩ := pr4 hR; exact ⟨rfl, (by assumption), (fun h => ho6 ((fun h => h) h)), (hq8.trans rfl), rfl⟩) (Nat.le_of_ble_eq_true rfl) (Nat.le_of_ble_eq_true rfl) dX2_findSolution_40
  · replace hR := ifp c3 hR
    refine lv_iconst (v := 0) hx hb dX2_findSolution_13 (by decide) ?_
    rw [← hQ]
    exact end_i hX hB hA3 rfl rfl (by obtain ⟨rfl, rfl, rfl, rfl⟩ := pr4 hR; exact ⟨rfl, Or.inl rfl, (fun h => h), rfl, rfl⟩) (Nat.le_of_ble_eq_true rfl) (Nat.le_of_ble_eq_true rfl) dX2_findSolution_14
