noncomputable def D_X0_ofRest_0 (r : Nat → Int32) (q : Nat → Int32) (f : Nat → Nat → Int64) (i : Nat) (p0 : Int32) (p1 : Int32) (p2 : Int32) : Int64 := (if p2 < 4 then default else 1)
theorem D_X0_ofRest_0_s {r : Nat → Int32} {q : Nat → Int32} {f : Nat → Nat → Int64} {i : Nat} {p0 : Int32} {p1 : Int32} {p2 : Int32} : D_X0_ofRest_0 r q f i p0 p1 p2 = (if p2 < 4 then default else 1) := rfl
set_option maxHeartbeats 4000000 in
set_option maxRecDepth 100000 in
theorem k_X0_ofRest_0 (κ : Kt) (l : Launch) (a : Nat → Nat) (r q : Nat → Int32) (f : Nat → Nat → Int64) (i : Nat) (p0 : Int32) (p1 : Int32) (p2 : Int32) (hi : i < 15) (hp2 : 4 ≤ p2) (o_x : Int64) (hR : D_X0_ofRest_0 r q f i p0 p1 p2 = o_x) : CM κ l yX0_ofRest cX0_ofRest 10 (some .long) 0 0 0 0 [.ref (a (6 + 2 * i)), .int p0, .int p1, .int p2] (cw κ a r q f) (fun o w' => o = some (.long o_x) ∧ w' = cw κ a r q f) := by
  refine CM_begin (plainFor_of_name (by decide)) (Nat.le_of_ble_eq_true rfl) ?_
  intro p e s m args below meth c A Q hX hnm hA3 hQ hB ls hl
  have hx := hX.1.1
  have hb := hX.1.2.1
  have hl : lv_has ls 10 [(0, .ref (a (6 + 2 * i))), (1, .int p0), (2, .int p1), (3, .int p2)] := hl
  replace hR := (D_X0_ofRest_0_s).symm.trans hR
  refine lv_iload_n hx hb dX0_ofRest_0 rfl (lv_at hl 3 rfl) ?_
  refine lv_iconst (v := 4) hx hb dX0_ofRest_1 (by decide) ?_
  refine lv_icmp_lt (tgt := 7) hx hb dX0_ofRest_2 (by decide) (fun c1 => ?_) (fun c1 => ?_)
  · replace hR := ifp c1 hR
    exact absurd hp2 (i32_not_le.mpr (by assumption))
  · replace hR := ifn c1 hR
    refine lv_lconst (v := 1) hx hb dX0_ofRest_5 (by decide) ?_
    rw [← hQ]
    exact end_l hX hB hA3 rfl (by obtain rfl := hR; exact ⟨rfl, rfl⟩) (Nat.le_of_ble_eq_true rfl) (Nat.le_of_ble_eq_true rfl) dX0_ofRest_6
noncomputable def D_X0_ofRest_1_j90 (lb34 : Int32 → Int32 → Int64 → Int64) (y7_34 : Int32) (y6_34 : Int32) (y4_34 : Int64) (z0_90 : Int64) : Int64 := (if y6_34 = 0 then (lb34 (y7_34 + 1) 1 (y4_34 + z0_90)) else (lb34 (y7_34 + 1) 0 (y4_34 + z0_90)))
theorem D_X0_ofRest_1_j90_s {lb34 : Int32 → Int32 → Int64 → Int64} {y7_34 : Int32} {y6_34 : Int32} {y4_34 : Int64} {z0_90 : Int64} : D_X0_ofRest_1_j90 lb34 y7_34 y6_34 y4_34 z0_90 = (if y6_34 = 0 then (lb34 (y7_34 + 1) 1 (y4_34 + z0_90)) else (lb34 (y7_34 + 1) 0 (y4_34 + z0_90))) := rfl
noncomputable def D_X0_ofRest_1_34 (r : Nat → Int32) (q : Nat → Int32) (f : Nat → Nat → Int64) (i : Nat) (p0 : Int32) (p1 : Int32) (p2 : Int32) (nn : Nat) : Int32 → Int32 → Int64 → Int64 := @Nat.rec (fun _ => Int32 → Int32 → Int64 → Int64) (fun _ _ _ => default) (fun _ lb34 (y7_34 : Int32) (y6_34 : Int32) (y4_34 : Int64) => (if 5 ≤ y7_34 then y4_34 else (if ((p1 >>> (y7_34 &&& 31)) &&& 1) = 0 then (lb34 (y7_34 + 1) y6_34 y4_34) else bnd1 (D_X3_get r q f i p2 y7_34) (fun (x24 : Int64) => bnd1 (D_X0_ofRest_0 r q f i p0 (p1 &&& ((1 <<< (y7_34 &&& 31)) ^^^ (-1))) (p2 + 1)) (fun (x26 : Int64) => (if y6_34 = 0 then (D_X0_ofRest_1_j90 lb34 y7_34 y6_34 y4_34 (x24 * x26)) else (D_X0_ofRest_1_j90 lb34 y7_34 y6_34 y4_34 (-(x24 * x26))))))))) nn
theorem D_X0_ofRest_1_34_s {r : Nat → Int32} {q : Nat → Int32} {f : Nat → Nat → Int64} {i : Nat} {p0 : Int32} {p1 : Int32} {p2 : Int32} {nn : Nat} {y7_34 : Int32} {y6_34 : Int32} {y4_34 : Int64} : D_X0_ofRest_1_34 r q f i p0 p1 p2 (nn + 1) y7_34 y6_34 y4_34 = (if 5 ≤ y7_34 then y4_34 else (if ((p1 >>> (y7_34 &&& 31)) &&& 1) = 0 then ((D_X0_ofRest_1_34 r q f i p0 p1 p2 nn) (y7_34 + 1) y6_34 y4_34) else bnd1 (D_X3_get r q f i p2 y7_34) (fun (x24 : Int64) => bnd1 (D_X0_ofRest_0 r q f i p0 (p1 &&& ((1 <<< (y7_34 &&& 31)) ^^^ (-1))) (p2 + 1)) (fun (x26 : Int64) => (if y6_34 = 0 then (D_X0_ofRest_1_j90 (D_X0_ofRest_1_34 r q f i p0 p1 p2 nn) y7_34 y6_34 y4_34 (x24 * x26)) else (D_X0_ofRest_1_j90 (D_X0_ofRest_1_34 r q f i p0 p1 p2 nn) y7_34 y6_34 y4_34 (-(x24 * x26)))))))) := rfl
noncomputable def D_X0_ofRest_1 (r : Nat → Int32) (q : Nat → Int32) (f : Nat → Nat → Int64) (i : Nat) (p0 : Int32) (p1 : Int32) (p2 : Int32) : Int64 := (if p2 < 4 then (if ((p0 >>> (p2 &&& 31)) &&& 1) = 0 then bnd1 (D_X0_ofRest_0 r q f i p0 p1 (p2 + 1)) (fun (x31 : Int64) => x31) else (D_X0_ofRest_1_34 r q f i p0 p1 p2 (gap 5 0 + 1) 0 0 0)) else 1)
theorem D_X0_ofRest_1_s {r : Nat → Int32} {q : Nat → Int32} {f : Nat → Nat → Int64} {i : Nat} {p0 : Int32} {p1 : Int32} {p2 : Int32} : D_X0_ofRest_1 r q f i p0 p1 p2 = (if p2 < 4 then (if ((p0 >>> (p2 &&& 31)) &&& 1) = 0 then bnd1 (D_X0_ofRest_0 r q f i p0 p1 (p2 + 1)) (fun (x31 : Int64) => x31) else (D_X0_ofRest_1_34 r q f i p0 p1 p2 (gap 5 0 + 1) 0 0 0)) else 1) := rfl
set_option maxHeartbeats 4000000 in
set_option maxRecDepth 100000 in
theorem k_X0_ofRest_1 (κ : Kt) (l : Launch) (a : Nat → Nat) (r q : Nat → Int32) (f : Nat → Nat → Int64) (i : Nat) (p0 : Int32) (p1 : Int32) (p2 : Int32) (hi : i < 15) (hp2 : 3 ≤ p2) (o_x : Int64) (hR : D_X0_ofRest_1 r q f i p0 p1 p2 = o_x) : CM κ l yX0_ofRest cX0_ofRest 10 (some .long) 1 29 0 0 [.ref (a (6 + 2 * i)), .int p0, .int p1, .int p2] (cw κ a r q f) (fun o w' => o = some (.long o_x) ∧ w' = cw κ a r q f) := by
  refine CM_begin (plainFor_of_name (by decide)) (Nat.le_of_ble_eq_true rfl) ?_
  intro p e s m args below meth c A Q hX hnm hA3 hQ hB ls hl
  have hx := hX.1.1
  have hb := hX.1.2.1
  have hl : lv_has ls 10 [(0, .ref (a (6 + 2 * i))), (1, .int p0), (2, .int p1), (3, .int p2)] := hl
  replace hR := (D_X0_ofRest_1_s).symm.trans hR
  refine lv_iload_n hx hb dX0_ofRest_0 rfl (lv_at hl 3 rfl) ?_
  refine lv_iconst (v := 4) hx hb dX0_ofRest_1 (by decide) ?_
  refine lv_icmp_lt (tgt := 7) hx hb dX0_ofRest_2 (by decide) (fun c1 => ?_) (fun c1 => ?_)
  · replace hR := ifp c1 hR
    refine lv_iload_n hx hb dX0_ofRest_7 rfl (lv_at hl 1 rfl) ?_
    refine lv_iload_n hx hb dX0_ofRest_8 rfl (lv_at hl 3 rfl) ?_
    refine lv_ishr hx hb dX0_ofRest_9 ?_
    refine lv_iconst (v := 1) hx hb dX0_ofRest_10 (by decide) ?_
    refine lv_iand hx hb dX0_ofRest_11 ?_
    refine lv_if_ne (tgt := 25) hx hb dX0_ofRest_12 (by decide) (fun c2 => ?_) (fun c2 => ?_)
    · replace hR := ifn c2 hR
      refine lv_lconst (v := 0) hx hb dX0_ofRest_25 (by decide) ?_
      refine lv_lstore (lv' := [(4, .long 0), (0, .ref (a (6 + 2 * i))), (1, .int p0), (2, .int p1), (3, .int p2)]) hx hb dX0_ofRest_26 hl (by decide) rfl (fun ls hl => ?_)
      refine lv_iconst (v := 0) hx hb dX0_ofRest_28 (by decide) ?_
      refine lv_istore (lv' := [(6, .int 0), (4, .long 0), (0, .ref (a (6 + 2 * i))), (1, .int p0), (2, .int p1), (3, .int p2)]) hx hb dX0_ofRest_29 hl (by decide) rfl (fun ls hl => ?_)
      refine lv_iconst (v := 0) hx hb dX0_ofRest_31 (by decide) ?_
      refine lv_istore (lv' := [(7, .int 0), (6, .int 0), (4, .long 0), (0, .ref (a (6 + 2 * i))), (1, .int p0), (2, .int p1), (3, .int p2)]) hx hb dX0_ofRest_32 hl (by decide) rfl (fun ls hl => ?_)
      have lp34 : ∀ (nn34 : Nat) (y7_34 : Int32) (y6_34 : Int32) (y4_34 : Int64) (H : Heap) (locs : List Loc), gap 5 y7_34 < nn34 → D_X0_ofRest_1_34 r q f i p0 p1 p2 nn34 y7_34 y6_34 y4_34 = o_x → Bd κ A s (cw κ a r q f) H locs → ∀ ls : Array Slot, lv_has ls 10 [(7, .int y7_34), (6, .int y6_34), (4, .long y4_34), (0, .ref (a (6 + 2 * i))), (1, .int p0), (2, .int p1), (3, .int p2)] → W p l e (Rm 1 29 0 0) s m args below meth c H locs 0 0 Q (F0 m 34 ls []) := by
        intro nn34
        induction nn34 with
        | zero => intro y7_34 y6_34 y4_34 H locs hμ; exact absurd hμ (Nat.not_lt_zero _)
        | succ nn34 ih34 =>
          intro y7_34 y6_34 y4_34 H locs hμ34 hR hB ls hl
          replace hR := (D_X0_ofRest_1_34_s).symm.trans hR
          refine lv_iload hx hb dX0_ofRest_34 (lv_at hl 0 rfl) ?_
          refine lv_iconst (v := 5) hx hb dX0_ofRest_36 (by decide) ?_
          refine lv_icmp_ge (tgt := 111) hx hb dX0_ofRest_37 (by decide) (fun c21 => ?_) (fun c21 => ?_)
          · replace hR := ifp c21 hR
            refine lv_lload hx hb dX0_ofRest_111 (lv_at hl 2 rfl) ?_
            rw [← hQ]
            exact end_l hX hB hA3 rfl (by obtain rfl := hR; exact ⟨rfl, rfl⟩) (Nat.le_of_ble_eq_true rfl) (Nat.le_of_ble_eq_true rfl) dX0_ofRest_113
          · replace hR := ifn c21 hR
            refine lv_iload_n hx hb dX0_ofRest_40 rfl (lv_at hl 5 rfl) ?_
            refine lv_iload hx hb dX0_ofRest_41 (lv_at hl 0 rfl) ?_
            refine lv_ishr hx hb dX0_ofRest_43 ?_
            refine lv_iconst (v := 1) hx hb dX0_ofRest_44 (by decide) ?_
            refine lv_iand hx hb dX0_ofRest_45 ?_
            refine lv_if_eq (tgt := 105) hx hb dX0_ofRest_46 (by decide) (fun c22 => ?_) (fun c22 => ?_)
            · replace hR := ifp c22 hR
              refine lv_iinc (v := y7_34 + 1) (lv' := [(7, .int (y7_34 + 1)), (6, .int y6_34), (4, .long y4_34), (0, .ref (a (6 + 2 * i))), (1, .int p0), (2, .int p1), (3, .int p2)]) hx hb dX0_ofRest_105 hl (k := 0) rfl rfl (by decide) rfl (fun ls hl => ?_)
              refine lv_goto (tgt := 34) hx hb dX0_ofRest_108 (by decide) ?_
              exact ih34 (y7_34 + 1) y6_34 y4_34 _ _  (gap_step c21 hμ34) hR hB _ hl
            · replace hR := ifn c22 hR
              refine lv_aload_n hx hb dX0_ofRest_49 rfl (lv_at hl 3 rfl) ?_
              refine lv_iload_n hx hb dX0_ofRest_50 rfl (lv_at hl 6 rfl) ?_
              refine lv_iload hx hb dX0_ofRest_51 (lv_at hl 0 rfl) ?_
              obtain ⟨x24, hd23⟩ := ex1 (D_X3_get r q f i p2 y7_34)
              replace hR := bnd1_use hd23 hR
              refine call_V (n := 2) (As := [.int p2, .int y7_34]) (rest := []) hX hB (k_X3_get κ l a r q f i p2 y7_34 hi x24 hd23) ⟨rfl, by decide, by decide, by decide +kernel⟩ wm_1_186 wm_1_187 wm_1_188 wm_1_2 wm_1_189 ⟨Nat.le_of_ble_eq_true rfl, Nat.le_of_ble_eq_true rfl⟩ ⟨Nat.le_of_ble_eq_true rfl, Nat.le_of_ble_eq_true rfl⟩ (cwG (i := i) hi) rfl rfl rfl hl.1 rfl (Nat.le_of_ble_eq_true rfl) dX0_ofRest_53 (fun o w' H locs hp hB => ?_)
              obtain ⟨rfl, rfl⟩ := hp
              refine W.eq (g2 := F0 m 56 ls [.long x24]) rfl ?_
              refine lv_aload_n hx hb dX0_ofRest_56 rfl (lv_at hl 3 rfl) ?_
              refine lv_iload_n hx hb dX0_ofRest_57 rfl (lv_at hl 4 rfl) ?_
              refine lv_iload_n hx hb dX0_ofRest_58 rfl (lv_at hl 5 rfl) ?_
              refine lv_iconst (v := 1) hx hb dX0_ofRest_59 (by decide) ?_
              refine lv_iload hx hb dX0_ofRest_60 (lv_at hl 0 rfl) ?_
              refine lv_ishl hx hb dX0_ofRest_62 ?_
              refine lv_iconst (v := (-1)) hx hb dX0_ofRest_63 (by decide) ?_
              refine lv_ixor hx hb dX0_ofRest_64 ?_
              refine lv_iand hx hb dX0_ofRest_65 ?_
              refine lv_iload_n hx hb dX0_ofRest_66 rfl (lv_at hl 6 rfl) ?_
              refine lv_iconst (v := 1) hx hb dX0_ofRest_67 (by decide) ?_
              refine lv_iadd hx hb dX0_ofRest_68 ?_
              obtain ⟨x26, hd25⟩ := ex1 (D_X0_ofRest_0 r q f i p0 (p1 &&& ((1 <<< (y7_34 &&& 31)) ^^^ (-1))) (p2 + 1))
              replace hR := bnd1_use hd25 hR
              refine call_S (n := 4) (As := [.ref (a (6 + 2 * i)), .int p0, .int (p1 &&& ((1 <<< (y7_34 &&& 31)) ^^^ (-1))), .int (p2 + 1)]) (rest := [.long x24]) hX hB (k_X0_ofRest_0 κ l a r q f i p0 (p1 &&& ((1 <<< (y7_34 &&& 31)) ^^^ (-1))) (p2 + 1) hi (lvup (lo := 3) (hi := 4) rfl hp2 (by assumption)) x26 hd25) ⟨by decide, by decide, by decide +kernel⟩ wm_1_183 wm_1_184 wm_1_29 wm_1_185 ⟨Nat.le_of_ble_eq_true rfl, Nat.le_of_ble_eq_true rfl⟩ ⟨Nat.le_of_ble_eq_true rfl, Nat.le_of_ble_eq_true rfl⟩ rfl hl.1 rfl (Nat.le_of_ble_eq_true rfl) dX0_ofRest_69 (fun o w' H locs hp hB => ?_)
              obtain ⟨rfl, rfl⟩ := hp
              refine W.eq (g2 := F0 m 72 ls [.long x26, .long x24]) rfl ?_
              refine lv_lmul hx hb dX0_ofRest_72 ?_
              refine lv_lstore (lv' := [(8, .long (x24 * x26)), (7, .int y7_34), (6, .int y6_34), (4, .long y4_34), (0, .ref (a (6 + 2 * i))), (1, .int p0), (2, .int p1), (3, .int p2)]) hx hb dX0_ofRest_73 hl (by decide) rfl (fun ls hl => ?_)
              refine lv_lload hx hb dX0_ofRest_75 (lv_at hl 3 rfl) ?_
              refine lv_iload hx hb dX0_ofRest_77 (lv_at hl 2 rfl) ?_
              have jn90 : ∀ (z0_90 : Int64) (H : Heap) (locs : List Loc), D_X0_ofRest_1_j90 (D_X0_ofRest_1_34 r q f i p0 p1 p2 nn34) y7_34 y6_34 y4_34 z0_90 = o_x → Bd κ A s (cw κ a r q f) H locs → ∀ ls : Array Slot, lv_has ls 10 [(8, .long (x24 * x26)), (7, .int y7_34), (6, .int y6_34), (4, .long y4_34), (0, .ref (a (6 + 2 * i))), (1, .int p0), (2, .int p1), (3, .int p2)] → W p l e (Rm 1 29 0 0) s m args below meth c H locs 0 0 Q (F0 m 90 ls [.long z0_90, .long y4_34]) := by
                intro z0_90 H locs hR hB ls hl
                replace hR := (D_X0_ofRest_1_j90_s).symm.trans hR
                refine lv_ladd hx hb dX0_ofRest_90 ?_
                refine lv_lstore (lv' := [(4, .long (y4_34 + z0_90)), (8, .long (x24 * x26)), (7, .int y7_34), (6, .int y6_34), (0, .ref (a (6 + 2 * i))), (1, .int p0), (2, .int p1), (3, .int p2)]) hx hb dX0_ofRest_91 hl (by decide) rfl (fun ls hl => ?_)
                refine lv_iload hx hb dX0_ofRest_93 (lv_at hl 3 rfl) ?_
                refine lv_if_ne (tgt := 102) hx hb dX0_ofRest_95 (by decide) (fun c28 => ?_) (fun c28 => ?_)
                · replace hR := ifn c28 hR
                  refine lv_iconst (v := 0) hx hb dX0_ofRest_102 (by decide) ?_
                  refine lv_istore (lv' := [(6, .int 0), (4, .long (y4_34 + z0_90)), (8, .long (x24 * x26)), (7, .int y7_34), (0, .ref (a (6 + 2 * i))), (1, .int p0), (2, .int p1), (3, .int p2)]) hx hb dX0_ofRest_103 hl (by decide) rfl (fun ls hl => ?_)
                  refine lv_iinc (v := y7_34 + 1) (lv' := [(7, .int (y7_34 + 1)), (6, .int 0), (4, .long (y4_34 + z0_90)), (8, .long (x24 * x26)), (0, .ref (a (6 + 2 * i))), (1, .int p0), (2, .int p1), (3, .int p2)]) hx hb dX0_ofRest_105 hl (k := 3) rfl rfl (by decide) rfl (fun ls hl => ?_)
                  refine lv_goto (tgt := 34) hx hb dX0_ofRest_108 (by decide) ?_
                  exact ih34 (y7_34 + 1) 0 (y4_34 + z0_90) _ _  (gap_step c21 hμ34) hR hB _ (lv_sub hl [0, 1, 2, 4, 5, 6, 7] rfl)
                · replace hR := ifp c28 hR
                  refine lv_iconst (v := 1) hx hb dX0_ofRest_98 (by decide) ?_
                  refine lv_goto (tgt := 103) hx hb dX0_ofRest_99 (by decide) ?_
                  refine lv_istore (lv' := [(6, .int 1), (4, .long (y4_34 + z0_90)), (8, .long (x24 * x26)), (7, .int y7_34), (0, .ref (a (6 + 2 * i))), (1, .int p0), (2, .int p1), (3, .int p2)]) hx hb dX0_ofRest_103 hl (by decide) rfl (fun ls hl => ?_)
                  refine lv_iinc (v := y7_34 + 1) (lv' := [(7, .int (y7_34 + 1)), (6, .int 1), (4, .long (y4_34 + z0_90)), (8, .long (x24 * x26)), (0, .ref (a (6 + 2 * i))), (1, .int p0), (2, .int p1), (3, .int p2)]) hx hb dX0_ofRest_105 hl (k := 3) rfl rfl (by decide) rfl (fun ls hl => ?_)
                  refine lv_goto (tgt := 34) hx hb dX0_ofRest_108 (by decide) ?_
                  exact ih34 (y7_34 + 1) 1 (y4_34 + z0_90) _ _  (gap_step c21 hμ34) hR hB _ (lv_sub hl [0, 1, 2, 4, 5, 6, 7] rfl)
              refine lv_if_eq (tgt := 88) hx hb dX0_ofRest_79 (by decide) (fun c29 => ?_) (fun c29 => ?_)
              · replace hR := ifp c29 hR
                refine lv_lload hx hb dX0_ofRest_88 (lv_at hl 0 rfl) ?_
                exact jn90 (x24 * x26) _ _  hR hB _ hl
              · replace hR := ifn c29 hR
                refine lv_lload hx hb dX0_ofRest_82 (lv_at hl 0 rfl) ?_
                refine lv_lneg hx hb dX0_ofRest_84 ?_
                refine lv_goto (tgt := 90) hx hb dX0_ofRest_85 (by decide) ?_
                exact jn90 (-(x24 * x26)) _ _  hR hB _ hl
      exact lp34 _ 0 0 0 _ _  (Nat.lt_succ_self _) hR hB _ hl
    · replace hR := ifp c2 hR
      refine lv_aload_n hx hb dX0_ofRest_15 rfl (lv_at hl 0 rfl) ?_
      refine lv_iload_n hx hb dX0_ofRest_16 rfl (lv_at hl 1 rfl) ?_
      refine lv_iload_n hx hb dX0_ofRest_17 rfl (lv_at hl 2 rfl) ?_
      refine lv_iload_n hx hb dX0_ofRest_18 rfl (lv_at hl 3 rfl) ?_
      refine lv_iconst (v := 1) hx hb dX0_ofRest_19 (by decide) ?_
      refine lv_iadd hx hb dX0_ofRest_20 ?_
      obtain ⟨x31, hd30⟩ := ex1 (D_X0_ofRest_0 r q f i p0 p1 (p2 + 1))
      replace hR := bnd1_use hd30 hR
      refine call_S (n := 4) (As := [.ref (a (6 + 2 * i)), .int p0, .int p1, .int (p2 + 1)]) (rest := []) hX hB (k_X0_ofRest_0 κ l a r q f i p0 p1 (p2 + 1) hi (lvup (lo := 3) (hi := 4) rfl hp2 (by assumption)) x31 hd30) ⟨by decide, by decide, by decide +kernel⟩ wm_1_183 wm_1_184 wm_1_29 wm_1_185 ⟨Nat.le_of_ble_eq_true rfl, Nat.le_of_ble_eq_true rfl⟩ ⟨Nat.le_of_ble_eq_true rfl, Nat.le_of_ble_eq_true rfl⟩ rfl hl.1 rfl (Nat.le_of_ble_eq_true rfl) dX0_ofRest_21 (fun o w' H locs hp hB => ?_)
      obtain ⟨rfl, rfl⟩ := hp
      refine W.eq (g2 := F0 m 24 ls [.long x31]) rfl ?_
      rw [← hQ]
      exact end_l hX hB hA3 rfl (by obtain rfl := hR; exact ⟨rfl, rfl⟩) (Nat.le_of_ble_eq_true rfl) (Nat.le_of_ble_eq_true rfl) dX0_ofRest_24
  · replace hR := ifn c1 hR
    refine lv_lconst (v := 1) hx hb dX0_ofRest_5 (by decide) ?_
    rw [← hQ]
    exact end_l hX hB hA3 rfl (by obtain rfl := hR; exact ⟨rfl, rfl⟩) (Nat.le_of_ble_eq_true rfl) (Nat.le_of_ble_eq_true rfl) dX0_ofRest_6
noncomputable def D_X0_ofRest_2_j90 (lb34 : Int32 → Int32 → Int64 → Int64) (y7_34 : Int32) (y6_34 : Int32) (y4_34 : Int64) (z0_90 : Int64) : Int64 := (if y6_34 = 0 then (lb34 (y7_34 + 1) 1 (y4_34 + z0_90)) else (lb34 (y7_34 + 1) 0 (y4_34 + z0_90)))
theorem D_X0_ofRest_2_j90_s {lb34 : Int32 → Int32 → Int64 → Int64} {y7_34 : Int32} {y6_34 : Int32} {y4_34 : Int64} {z0_90 : Int64} : D_X0_ofRest_2_j90 lb34 y7_34 y6_34 y4_34 z0_90 = (if y6_34 = 0 then (lb34 (y7_34 + 1) 1 (y4_34 + z0_90)) else (lb34 (y7_34 + 1) 0 (y4_34 + z0_90))) := rfl
noncomputable def D_X0_ofRest_2_34 (r : Nat → Int32) (q : Nat → Int32) (f : Nat → Nat → Int64) (i : Nat) (p0 : Int32) (p1 : Int32) (p2 : Int32) (nn : Nat) : Int32 → Int32 → Int64 → Int64 := @Nat.rec (fun _ => Int32 → Int32 → Int64 → Int64) (fun _ _ _ => default) (fun _ lb34 (y7_34 : Int32) (y6_34 : Int32) (y4_34 : Int64) => (if 5 ≤ y7_34 then y4_34 else (if ((p1 >>> (y7_34 &&& 31)) &&& 1) = 0 then (lb34 (y7_34 + 1) y6_34 y4_34) else bnd1 (D_X3_get r q f i p2 y7_34) (fun (x24 : Int64) => bnd1 (D_X0_ofRest_1 r q f i p0 (p1 &&& ((1 <<< (y7_34 &&& 31)) ^^^ (-1))) (p2 + 1)) (fun (x26 : Int64) => (if y6_34 = 0 then (D_X0_ofRest_2_j90 lb34 y7_34 y6_34 y4_34 (x24 * x26)) else (D_X0_ofRest_2_j90 lb34 y7_34 y6_34 y4_34 (-(x24 * x26))))))))) nn
theorem D_X0_ofRest_2_34_s {r : Nat → Int32} {q : Nat → Int32} {f : Nat → Nat → Int64} {i : Nat} {p0 : Int32} {p1 : Int32} {p2 : Int32} {nn : Nat} {y7_34 : Int32} {y6_34 : Int32} {y4_34 : Int64} : D_X0_ofRest_2_34 r q f i p0 p1 p2 (nn + 1) y7_34 y6_34 y4_34 = (if 5 ≤ y7_34 then y4_34 else (if ((p1 >>> (y7_34 &&& 31)) &&& 1) = 0 then ((D_X0_ofRest_2_34 r q f i p0 p1 p2 nn) (y7_34 + 1) y6_34 y4_34) else bnd1 (D_X3_get r q f i p2 y7_34) (fun (x24 : Int64) => bnd1 (D_X0_ofRest_1 r q f i p0 (p1 &&& ((1 <<< (y7_34 &&& 31)) ^^^ (-1))) (p2 + 1)) (fun (x26 : Int64) => (if y6_34 = 0 then (D_X0_ofRest_2_j90 (D_X0_ofRest_2_34 r q f i p0 p1 p2 nn) y7_34 y6_34 y4_34 (x24 * x26)) else (D_X0_ofRest_2_j90 (D_X0_ofRest_2_34 r q f i p0 p1 p2 nn) y7_34 y6_34 y4_34 (-(x24 * x26)))))))) := rfl
noncomputable def D_X0_ofRest_2 (r : Nat → Int32) (q : Nat → Int32) (f : Nat → Nat → Int64) (i : Nat) (p0 : Int32) (p1 : Int32) (p2 : Int32) : Int64 := (if p2 < 4 then (if ((p0 >>> (p2 &&& 31)) &&& 1) = 0 then bnd1 (D_X0_ofRest_1 r q f i p0 p1 (p2 + 1)) (fun (x31 : Int64) => x31) else (D_X0_ofRest_2_34 r q f i p0 p1 p2 (gap 5 0 + 1) 0 0 0)) else 1)
theorem D_X0_ofRest_2_s {r : Nat → Int32} {q : Nat → Int32} {f : Nat → Nat → Int64} {i : Nat} {p0 : Int32} {p1 : Int32} {p2 : Int32} : D_X0_ofRest_2 r q f i p0 p1 p2 = (if p2 < 4 then (if ((p0 >>> (p2 &&& 31)) &&& 1) = 0 then bnd1 (D_X0_ofRest_1 r q f i p0 p1 (p2 + 1)) (fun (x31 : Int64) => x31) else (D_X0_ofRest_2_34 r q f i p0 p1 p2 (gap 5 0 + 1) 0 0 0)) else 1) := rfl
set_option maxHeartbeats 4000000 in
set_option maxRecDepth 100000 in
theorem k_X0_ofRest_2 (κ : Kt) (l : Launch) (a : Nat → Nat) (r q : Nat → Int32) (f : Nat → Nat → Int64) (i : Nat) (p0 : Int32) (p1 : Int32) (p2 : Int32) (hi : i < 15) (hp2 : 2 ≤ p2) (o_x : Int64) (hR : D_X0_ofRest_2 r q f i p0 p1 p2 = o_x) : CM κ l yX0_ofRest cX0_ofRest 10 (some .long) 2 58 0 0 [.ref (a (6 + 2 * i)), .int p0, .int p1, .int p2] (cw κ a r q f) (fun o w' => o = some (.long o_x) ∧ w' = cw κ a r q f) := by
  refine CM_begin (plainFor_of_name (by decide)) (Nat.le_of_ble_eq_true rfl) ?_
  intro p e s m args below meth c A Q hX hnm hA3 hQ hB ls hl
  have hx := hX.1.1
  have hb := hX.1.2.1
  have hl : lv_has ls 10 [(0, .ref (a (6 + 2 * i))), (1, .int p0), (2, .int p1), (3, .int p2)] := hl
  replace hR := (D_X0_ofRest_2_s).symm.trans hR
  refine lv_iload_n hx hb dX0_ofRest_0 rfl (lv_at hl 3 rfl) ?_
  refine lv_iconst (v := 4) hx hb dX0_ofRest_1 (by decide) ?_
  refine lv_icmp_lt (tgt := 7) hx hb dX0_ofRest_2 (by decide) (fun c1 => ?_) (fun c1 => ?_)
  · replace hR := ifp c1 hR
    refine lv_iload_n hx hb dX0_ofRest_7 rfl (lv_at hl 1 rfl) ?_
    refine lv_iload_n hx hb dX0_ofRest_8 rfl (lv_at hl 3 rfl) ?_
    refine lv_ishr hx hb dX0_ofRest_9 ?_
    refine lv_iconst (v := 1) hx hb dX0_ofRest_10 (by decide) ?_
    refine lv_iand hx hb dX0_ofRest_11 ?_
    refine lv_if_ne (tgt := 25) hx hb dX0_ofRest_12 (by decide) (fun c2 => ?_) (fun c2 => ?_)
    · replace hR := ifn c2 hR
      refine lv_lconst (v := 0) hx hb dX0_ofRest_25 (by decide) ?_
      refine lv_lstore (lv' := [(4, .long 0), (0, .ref (a (6 + 2 * i))), (1, .int p0), (2, .int p1), (3, .int p2)]) hx hb dX0_ofRest_26 hl (by decide) rfl (fun ls hl => ?_)
      refine lv_iconst (v := 0) hx hb dX0_ofRest_28 (by decide) ?_
      refine lv_istore (lv' := [(6, .int 0), (4, .long 0), (0, .ref (a (6 + 2 * i))), (1, .int p0), (2, .int p1), (3, .int p2)]) hx hb dX0_ofRest_29 hl (by decide) rfl (fun ls hl => ?_)
      refine lv_iconst (v := 0) hx hb dX0_ofRest_31 (by decide) ?_
      refine lv_istore (lv' := [(7, .int 0), (6, .int 0), (4, .long 0), (0, .ref (a (6 + 2 * i))), (1, .int p0), (2, .int p1), (3, .int p2)]) hx hb dX0_ofRest_32 hl (by decide) rfl (fun ls hl => ?_)
      have lp34 : ∀ (nn34 : Nat) (y7_34 : Int32) (y6_34 : Int32) (y4_34 : Int64) (H : Heap) (locs : List Loc), gap 5 y7_34 < nn34 → D_X0_ofRest_2_34 r q f i p0 p1 p2 nn34 y7_34 y6_34 y4_34 = o_x → Bd κ A s (cw κ a r q f) H locs → ∀ ls : Array Slot, lv_has ls 10 [(7, .int y7_34), (6, .int y6_34), (4, .long y4_34), (0, .ref (a (6 + 2 * i))), (1, .int p0), (2, .int p1), (3, .int p2)] → W p l e (Rm 2 58 0 0) s m args below meth c H locs 0 0 Q (F0 m 34 ls []) := by
        intro nn34
        induction nn34 with
        | zero => intro y7_34 y6_34 y4_34 H locs hμ; exact absurd hμ (Nat.not_lt_zero _)
        | succ nn34 ih34 =>
          intro y7_34 y6_34 y4_34 H locs hμ34 hR hB ls hl
          replace hR := (D_X0_ofRest_2_34_s).symm.trans hR
          refine lv_iload hx hb dX0_ofRest_34 (lv_at hl 0 rfl) ?_
          refine lv_iconst (v := 5) hx hb dX0_ofRest_36 (by decide) ?_
          refine lv_icmp_ge (tgt := 111) hx hb dX0_ofRest_37 (by decide) (fun c21 => ?_) (fun c21 => ?_)
          · replace hR := ifp c21 hR
            refine lv_lload hx hb dX0_ofRest_111 (lv_at hl 2 rfl) ?_
            rw [← hQ]
            exact end_l hX hB hA3 rfl (by obtain rfl := hR; exact ⟨rfl, rfl⟩) (Nat.le_of_ble_eq_true rfl) (Nat.le_of_ble_eq_true rfl) dX0_ofRest_113
          · replace hR := ifn c21 hR
            refine lv_iload_n hx hb dX0_ofRest_40 rfl (lv_at hl 5 rfl) ?_
            refine lv_iload hx hb dX0_ofRest_41 (lv_at hl 0 rfl) ?_
            refine lv_ishr hx hb dX0_ofRest_43 ?_
            refine lv_iconst (v := 1) hx hb dX0_ofRest_44 (by decide) ?_
            refine lv_iand hx hb dX0_ofRest_45 ?_
            refine lv_if_eq (tgt := 105) hx hb dX0_ofRest_46 (by decide) (fun c22 => ?_) (fun c22 => ?_)
            · replace hR := ifp c22 hR
              refine lv_iinc (v := y7_34 + 1) (lv' := [(7, .int (y7_34 + 1)), (6, .int y6_34), (4, .long y4_34), (0, .ref (a (6 + 2 * i))), (1, .int p0), (2, .int p1), (3, .int p2)]) hx hb dX0_ofRest_105 hl (k := 0) rfl rfl (by decide) rfl (fun ls hl => ?_)
              refine lv_goto (tgt := 34) hx hb dX0_ofRest_108 (by decide) ?_
              exact ih34 (y7_34 + 1) y6_34 y4_34 _ _  (gap_step c21 hμ34) hR hB _ hl
            · replace hR := ifn c22 hR
              refine lv_aload_n hx hb dX0_ofRest_49 rfl (lv_at hl 3 rfl) ?_
              refine lv_iload_n hx hb dX0_ofRest_50 rfl (lv_at hl 6 rfl) ?_
              refine lv_iload hx hb dX0_ofRest_51 (lv_at hl 0 rfl) ?_
              obtain ⟨x24, hd23⟩ := ex1 (D_X3_get r q f i p2 y7_34)
              replace hR := bnd1_use hd23 hR
              refine call_V (n := 2) (As := [.int p2, .int y7_34]) (rest := []) hX hB (k_X3_get κ l a r q f i p2 y7_34 hi x24 hd23) ⟨rfl, by decide, by decide, by decide +kernel⟩ wm_1_186 wm_1_187 wm_1_188 wm_1_2 wm_1_189 ⟨Nat.le_of_ble_eq_true rfl, Nat.le_of_ble_eq_true rfl⟩ ⟨Nat.le_of_ble_eq_true rfl, Nat.le_of_ble_eq_true rfl⟩ (cwG (i := i) hi) rfl rfl rfl hl.1 rfl (Nat.le_of_ble_eq_true rfl) dX0_ofRest_53 (fun o w' H locs hp hB => ?_)
              obtain ⟨rfl, rfl⟩ := hp
              refine W.eq (g2 := F0 m 56 ls [.long x24]) rfl ?_
              refine lv_aload_n hx hb dX0_ofRest_56 rfl (lv_at hl 3 rfl) ?_
              refine lv_iload_n hx hb dX0_ofRest_57 rfl (lv_at hl 4 rfl) ?_
              refine lv_iload_n hx hb dX0_ofRest_58 rfl (lv_at hl 5 rfl) ?_
              refine lv_iconst (v := 1) hx hb dX0_ofRest_59 (by decide) ?_
              refine lv_iload hx hb dX0_ofRest_60 (lv_at hl 0 rfl) ?_
              refine lv_ishl hx hb dX0_ofRest_62 ?_
              refine lv_iconst (v := (-1)) hx hb dX0_ofRest_63 (by decide) ?_
              refine lv_ixor hx hb dX0_ofRest_64 ?_
              refine lv_iand hx hb dX0_ofRest_65 ?_
              refine lv_iload_n hx hb dX0_ofRest_66 rfl (lv_at hl 6 rfl) ?_
              refine lv_iconst (v := 1) hx hb dX0_ofRest_67 (by decide) ?_
              refine lv_iadd hx hb dX0_ofRest_68 ?_
              obtain ⟨x26, hd25⟩ := ex1 (D_X0_ofRest_1 r q f i p0 (p1 &&& ((1 <<< (y7_34 &&& 31)) ^^^ (-1))) (p2 + 1))
              replace hR := bnd1_use hd25 hR
              refine call_S (n := 4) (As := [.ref (a (6 + 2 * i)), .int p0, .int (p1 &&& ((1 <<< (y7_34 &&& 31)) ^^^ (-1))), .int (p2 + 1)]) (rest := [.long x24]) hX hB (k_X0_ofRest_1 κ l a r q f i p0 (p1 &&& ((1 <<< (y7_34 &&& 31)) ^^^ (-1))) (p2 + 1) hi (lvup (lo := 2) (hi := 3) rfl hp2 (by assumption)) x26 hd25) ⟨by decide, by decide, by decide +kernel⟩ wm_1_183 wm_1_184 wm_1_29 wm_1_185 ⟨Nat.le_of_ble_eq_true rfl, Nat.le_of_ble_eq_true rfl⟩ ⟨Nat.le_of_ble_eq_true rfl, Nat.le_of_ble_eq_true rfl⟩ rfl hl.1 rfl (Nat.le_of_ble_eq_true rfl) dX0_ofRest_69 (fun o w' H locs hp hB => ?_)
              obtain ⟨rfl, rfl⟩ := hp
              refine W.eq (g2 := F0 m 72 ls [.long x26, .long x24]) rfl ?_
              refine lv_lmul hx hb dX0_ofRest_72 ?_
              refine lv_lstore (lv' := [(8, .long (x24 * x26)), (7, .int y7_34), (6, .int y6_34), (4, .long y4_34), (0, .ref (a (6 + 2 * i))), (1, .int p0), (2, .int p1), (3, .int p2)]) hx hb dX0_ofRest_73 hl (by decide) rfl (fun ls hl => ?_)
              refine lv_lload hx hb dX0_ofRest_75 (lv_at hl 3 rfl) ?_
              refine lv_iload hx hb dX0_ofRest_77 (lv_at hl 2 rfl) ?_
              have jn90 : ∀ (z0_90 : Int64) (H : Heap) (locs : List Loc), D_X0_ofRest_2_j90 (D_X0_ofRest_2_34 r q f i p0 p1 p2 nn34) y7_34 y6_34 y4_34 z0_90 = o_x → Bd κ A s (cw κ a r q f) H locs → ∀ ls : Array Slot, lv_has ls 10 [(8, .long (x24 * x26)), (7, .int y7_34), (6, .int y6_34), (4, .long y4_34), (0, .ref (a (6 + 2 * i))), (1, .int p0), (2, .int p1), (3, .int p2)] → W p l e (Rm 2 58 0 0) s m args below meth c H locs 0 0 Q (F0 m 90 ls [.long z0_90, .long y4_34]) := by
                intro z0_90 H locs hR hB ls hl
                replace hR := (D_X0_ofRest_2_j90_s).symm.trans hR
                refine lv_ladd hx hb dX0_ofRest_90 ?_
                refine lv_lstore (lv' := [(4, .long (y4_34 + z0_90)), (8, .long (x24 * x26)), (7, .int y7_34), (6, .int y6_34), (0, .ref (a (6 + 2 * i))), (1, .int p0), (2, .int p1), (3, .int p2)]) hx hb dX0_ofRest_91 hl (by decide) rfl (fun ls hl => ?_)
                refine lv_iload hx hb dX0_ofRest_93 (lv_at hl 3 rfl) ?_
                refine lv_if_ne (tgt := 102) hx hb dX0_ofRest_95 (by decide) (fun c28 => ?_) (fun c28 => ?_)
                · replace hR := ifn c28 hR
                  refine lv_iconst (v := 0) hx hb dX0_ofRest_102 (by decide) ?_
                  refine lv_istore (lv' := [(6, .int 0), (4, .long (y4_34 + z0_90)), (8, .long (x24 * x26)), (7, .int y7_34), (0, .ref (a (6 + 2 * i))), (1, .int p0), (2, .int p1), (3, .int p2)]) hx hb dX0_ofRest_103 hl (by decide) rfl (fun ls hl => ?_)
                  refine lv_iinc (v := y7_34 + 1) (lv' := [(7, .int (y7_34 + 1)), (6, .int 0), (4, .long (y4_34 + z0_90)), (8, .long (x24 * x26)), (0, .ref (a (6 + 2 * i))), (1, .int p0), (2, .int p1), (3, .int p2)]) hx hb dX0_ofRest_105 hl (k := 3) rfl rfl (by decide) rfl (fun ls hl => ?_)
                  refine lv_goto (tgt := 34) hx hb dX0_ofRest_108 (by decide) ?_
                  exact ih34 (y7_34 + 1) 0 (y4_34 + z0_90) _ _  (gap_step c21 hμ34) hR hB _ (lv_sub hl [0, 1, 2, 4, 5, 6, 7] rfl)
                · replace hR := ifp c28 hR
                  refine lv_iconst (v := 1) hx hb dX0_ofRest_98 (by decide) ?_
                  refine lv_goto (tgt := 103) hx hb dX0_ofRest_99 (by decide) ?_
                  refine lv_istore (lv' := [(6, .int 1), (4, .long (y4_34 + z0_90)), (8, .long (x24 * x26)), (7, .int y7_34), (0, .ref (a (6 + 2 * i))), (1, .int p0), (2, .int p1), (3, .int p2)]) hx hb dX0_ofRest_103 hl (by decide) rfl (fun ls hl => ?_)
                  refine lv_iinc (v := y7_34 + 1) (lv' := [(7, .int (y7_34 + 1)), (6, .int 1), (4, .long (y4_34 + z0_90)), (8, .long (x24 * x26)), (0, .ref (a (6 + 2 * i))), (1, .int p0), (2, .int p1), (3, .int p2)]) hx hb dX0_ofRest_105 hl (k := 3) rfl rfl (by decide) rfl (fun ls hl => ?_)
                  refine lv_goto (tgt := 34) hx hb dX0_ofRest_108 (by decide) ?_
                  exact ih34 (y7_34 + 1) 1 (y4_34 + z0_90) _ _  (gap_step c21 hμ34) hR hB _ (lv_sub hl [0, 1, 2, 4, 5, 6, 7] rfl)
              refine lv_if_eq (tgt := 88) hx hb dX0_ofRest_79 (by decide) (fun c29 => ?_) (fun c29 => ?_)
              · replace hR := ifp c29 hR
                refine lv_lload hx hb dX0_ofRest_88 (lv_at hl 0 rfl) ?_
                exact jn90 (x24 * x26) _ _  hR hB _ hl
              · replace hR := ifn c29 hR
                refine lv_lload hx hb dX0_ofRest_82 (lv_at hl 0 rfl) ?_
                refine lv_lneg hx hb dX0_ofRest_84 ?_
                refine lv_goto (tgt := 90) hx hb dX0_ofRest_85 (by decide) ?_
                exact jn90 (-(x24 * x26)) _ _  hR hB _ hl
      exact lp34 _ 0 0 0 _ _  (Nat.lt_succ_self _) hR hB _ hl
    · replace hR := ifp c2 hR
      refine lv_aload_n hx hb dX0_ofRest_15 rfl (lv_at hl 0 rfl) ?_
      refine lv_iload_n hx hb dX0_ofRest_16 rfl (lv_at hl 1 rfl) ?_
      refine lv_iload_n hx hb dX0_ofRest_17 rfl (lv_at hl 2 rfl) ?_
      refine lv_iload_n hx hb dX0_ofRest_18 rfl (lv_at hl 3 rfl) ?_
      refine lv_iconst (v := 1) hx hb dX0_ofRest_19 (by decide) ?_
      refine lv_iadd hx hb dX0_ofRest_20 ?_
      obtain ⟨x31, hd30⟩ := ex1 (D_X0_ofRest_1 r q f i p0 p1 (p2 + 1))
      replace hR := bnd1_use hd30 hR
      refine call_S (n := 4) (As := [.ref (a (6 + 2 * i)), .int p0, .int p1, .int (p2 + 1)]) (rest := []) hX hB (k_X0_ofRest_1 κ l a r q f i p0 p1 (p2 + 1) hi (lvup (lo := 2) (hi := 3) rfl hp2 (by assumption)) x31 hd30) ⟨by decide, by decide, by decide +kernel⟩ wm_1_183 wm_1_184 wm_1_29 wm_1_185 ⟨Nat.le_of_ble_eq_true rfl, Nat.le_of_ble_eq_true rfl⟩ ⟨Nat.le_of_ble_eq_true rfl, Nat.le_of_ble_eq_true rfl⟩ rfl hl.1 rfl (Nat.le_of_ble_eq_true rfl) dX0_ofRest_21 (fun o w' H locs hp hB => ?_)
      obtain ⟨rfl, rfl⟩ := hp
      refine W.eq (g2 := F0 m 24 ls [.long x31]) rfl ?_
      rw [← hQ]
      exact end_l hX hB hA3 rfl (by obtain rfl := hR; exact ⟨rfl, rfl⟩) (Nat.le_of_ble_eq_true rfl) (Nat.le_of_ble_eq_true rfl) dX0_ofRest_24
  · replace hR := ifn c1 hR
    refine lv_lconst (v := 1) hx hb dX0_ofRest_5 (by decide) ?_
    rw [← hQ]
    exact end_l hX hB hA3 rfl (by obtain rfl := hR; exact ⟨rfl, rfl⟩) (Nat.le_of_ble_eq_true rfl) (Nat.le_of_ble_eq_true rfl) dX0_ofRest_6
noncomputable def D_X0_ofRest_3_j90 (lb34 : Int32 → Int32 → Int64 → Int64) (y7_34 : Int32) (y6_34 : Int32) (y4_34 : Int64) (z0_90 : Int64) : Int64 := (if y6_34 = 0 then (lb34 (y7_34 + 1) 1 (y4_34 + z0_90)) else (lb34 (y7_34 + 1) 0 (y4_34 + z0_90)))
theorem D_X0_ofRest_3_j90_s {lb34 : Int32 → Int32 → Int64 → Int64} {y7_34 : Int32} {y6_34 : Int32} {y4_34 : Int64} {z0_90 : Int64} : D_X0_ofRest_3_j90 lb34 y7_34 y6_34 y4_34 z0_90 = (if y6_34 = 0 then (lb34 (y7_34 + 1) 1 (y4_34 + z0_90)) else (lb34 (y7_34 + 1) 0 (y4_34 + z0_90))) := rfl
noncomputable def D_X0_ofRest_3_34 (r : Nat → Int32) (q : Nat → Int32) (f : Nat → Nat → Int64) (i : Nat) (p0 : Int32) (p1 : Int32) (p2 : Int32) (nn : Nat) : Int32 → Int32 → Int64 → Int64 := @Nat.rec (fun _ => Int32 → Int32 → Int64 → Int64) (fun _ _ _ => default) (fun _ lb34 (y7_34 : Int32) (y6_34 : Int32) (y4_34 : Int64) => (if 5 ≤ y7_34 then y4_34 else (if ((p1 >>> (y7_34 &&& 31)) &&& 1) = 0 then (lb34 (y7_34 + 1) y6_34 y4_34) else bnd1 (D_X3_get r q f i p2 y7_34) (fun (x24 : Int64) => bnd1 (D_X0_ofRest_2 r q f i p0 (p1 &&& ((1 <<< (y7_34 &&& 31)) ^^^ (-1))) (p2 + 1)) (fun (x26 : Int64) => (if y6_34 = 0 then (D_X0_ofRest_3_j90 lb34 y7_34 y6_34 y4_34 (x24 * x26)) else (D_X0_ofRest_3_j90 lb34 y7_34 y6_34 y4_34 (-(x24 * x26))))))))) nn
theorem D_X0_ofRest_3_34_s {r : Nat → Int32} {q : Nat → Int32} {f : Nat → Nat → Int64} {i : Nat} {p0 : Int32} {p1 : Int32} {p2 : Int32} {nn : Nat} {y7_34 : Int32} {y6_34 : Int32} {y4_34 : Int64} : D_X0_ofRest_3_34 r q f i p0 p1 p2 (nn + 1) y7_34 y6_34 y4_34 = (if 5 ≤ y7_34 then y4_34 else (if ((p1 >>> (y7_34 &&& 31)) &&& 1) = 0 then ((D_X0_ofRest_3_34 r q f i p0 p1 p2 nn) (y7_34 + 1) y6_34 y4_34) else bnd1 (D_X3_get r q f i p2 y7_34) (fun (x24 : Int64) => bnd1 (D_X0_ofRest_2 r q f i p0 (p1 &&& ((1 <<< (y7_34 &&& 31)) ^^^ (-1))) (p2 + 1)) (fun (x26 : Int64) => (if y6_34 = 0 then (D_X0_ofRest_3_j90 (D_X0_ofRest_3_34 r q f i p0 p1 p2 nn) y7_34 y6_34 y4_34 (x24 * x26)) else (D_X0_ofRest_3_j90 (D_X0_ofRest_3_34 r q f i p0 p1 p2 nn) y7_34 y6_34 y4_34 (-(x24 * x26)))))))) := rfl
noncomputable def D_X0_ofRest_3 (r : Nat → Int32) (q : Nat → Int32) (f : Nat → Nat → Int64) (i : Nat) (p0 : Int32) (p1 : Int32) (p2 : Int32) : Int64 := (if p2 < 4 then (if ((p0 >>> (p2 &&& 31)) &&& 1) = 0 then bnd1 (D_X0_ofRest_2 r q f i p0 p1 (p2 + 1)) (fun (x31 : Int64) => x31) else (D_X0_ofRest_3_34 r q f i p0 p1 p2 (gap 5 0 + 1) 0 0 0)) else 1)
theorem D_X0_ofRest_3_s {r : Nat → Int32} {q : Nat → Int32} {f : Nat → Nat → Int64} {i : Nat} {p0 : Int32} {p1 : Int32} {p2 : Int32} : D_X0_ofRest_3 r q f i p0 p1 p2 = (if p2 < 4 then (if ((p0 >>> (p2 &&& 31)) &&& 1) = 0 then bnd1 (D_X0_ofRest_2 r q f i p0 p1 (p2 + 1)) (fun (x31 : Int64) => x31) else (D_X0_ofRest_3_34 r q f i p0 p1 p2 (gap 5 0 + 1) 0 0 0)) else 1) := rfl
set_option maxHeartbeats 4000000 in
set_option maxRecDepth 100000 in
theorem k_X0_ofRest_3 (κ : Kt) (l : Launch) (a : Nat → Nat) (r q : Nat → Int32) (f : Nat → Nat → Int64) (i : Nat) (p0 : Int32) (p1 : Int32) (p2 : Int32) (hi : i < 15) (hp2 : 1 ≤ p2) (o_x : Int64) (hR : D_X0_ofRest_3 r q f i p0 p1 p2 = o_x) : CM κ l yX0_ofRest cX0_ofRest 10 (some .long) 3 87 0 0 [.ref (a (6 + 2 * i)), .int p0, .int p1, .int p2] (cw κ a r q f) (fun o w' => o = some (.long o_x) ∧ w' = cw κ a r q f) := by
  refine CM_begin (plainFor_of_name (by decide)) (Nat.le_of_ble_eq_true rfl) ?_
  intro p e s m args below meth c A Q hX hnm hA3 hQ hB ls hl
  have hx := hX.1.1
  have hb := hX.1.2.1
  have hl : lv_has ls 10 [(0, .ref (a (6 + 2 * i))), (1, .int p0), (2, .int p1), (3, .int p2)] := hl
  replace hR := (D_X0_ofRest_3_s).symm.trans hR
  refine lv_iload_n hx hb dX0_ofRest_0 rfl (lv_at hl 3 rfl) ?_
  refine lv_iconst (v := 4) hx hb dX0_ofRest_1 (by decide) ?_
  refine lv_icmp_lt (tgt := 7) hx hb dX0_ofRest_2 (by decide) (fun c1 => ?_) (fun c1 => ?_)
  · replace hR := ifp c1 hR
    refine lv_iload_n hx hb dX0_ofRest_7 rfl (lv_at hl 1 rfl) ?_
    refine lv_iload_n hx hb dX0_ofRest_8 rfl (lv_at hl 3 rfl) ?_
    refine lv_ishr hx hb dX0_ofRest_9 ?_
    refine lv_iconst (v := 1) hx hb dX0_ofRest_10 (by decide) ?_
    refine lv_iand hx hb dX0_ofRest_11 ?_
    refine lv_if_ne (tgt := 25) hx hb dX0_ofRest_12 (by decide) (fun c2 => ?_) (fun c2 => ?_)
    · replace hR := ifn c2 hR
      refine lv_lconst (v := 0) hx hb dX0_ofRest_25 (by decide) ?_
      refine lv_lstore (lv' := [(4, .long 0), (0, .ref (a (6 + 2 * i))), (1, .int p0), (2, .int p1), (3, .int p2)]) hx hb dX0_ofRest_26 hl (by decide) rfl (fun ls hl => ?_)
      refine lv_iconst (v := 0) hx hb dX0_ofRest_28 (by decide) ?_
      refine lv_istore (lv' := [(6, .int 0), (4, .long 0), (0, .ref (a (6 + 2 * i))), (1, .int p0), (2, .int p1), (3, .int p2)]) hx hb dX0_ofRest_29 hl (by decide) rfl (fun ls hl => ?_)
      refine lv_iconst (v := 0) hx hb dX0_ofRest_31 (by decide) ?_
      refine lv_istore (lv' := [(7, .int 0), (6, .int 0), (4, .long 0), (0, .ref (a (6 + 2 * i))), (1, .int p0), (2, .int p1), (3, .int p2)]) hx hb dX0_ofRest_32 hl (by decide) rfl (fun ls hl => ?_)
      have lp34 : ∀ (nn34 : Nat) (y7_34 : Int32) (y6_34 : Int32) (y4_34 : Int64) (H : Heap) (locs : List Loc), gap 5 y7_34 < nn34 → D_X0_ofRest_3_34 r q f i p0 p1 p2 nn34 y7_34 y6_34 y4_34 = o_x → Bd κ A s (cw κ a r q f) H locs → ∀ ls : Array Slot, lv_has ls 10 [(7, .int y7_34), (6, .int y6_34), (4, .long y4_34), (0, .ref (a (6 + 2 * i))), (1, .int p0), (2, .int p1), (3, .int p2)] → W p l e (Rm 3 87 0 0) s m args below meth c H locs 0 0 Q (F0 m 34 ls []) := by
        intro nn34
        induction nn34 with
        | zero => intro y7_34 y6_34 y4_34 H locs hμ; exact absurd hμ (Nat.not_lt_zero _)
        | succ nn34 ih34 =>
          intro y7_34 y6_34 y4_34 H locs hμ34 hR hB ls hl
          replace hR := (D_X0_ofRest_3_34_s).symm.trans hR
          refine lv_iload hx hb dX0_ofRest_34 (lv_at hl 0 rfl) ?_
          refine lv_iconst (v := 5) hx hb dX0_ofRest_36 (by decide) ?_
          refine lv_icmp_ge (tgt := 111) hx hb dX0_ofRest_37 (by decide) (fun c21 => ?_) (fun c21 => ?_)
          · replace hR := ifp c21 hR
            refine lv_lload hx hb dX0_ofRest_111 (lv_at hl 2 rfl) ?_
            rw [← hQ]
            exact end_l hX hB hA3 rfl (by obtain rfl := hR; exact ⟨rfl, rfl⟩) (Nat.le_of_ble_eq_true rfl) (Nat.le_of_ble_eq_true rfl) dX0_ofRest_113
          · replace hR := ifn c21 hR
            refine lv_iload_n hx hb dX0_ofRest_40 rfl (lv_at hl 5 rfl) ?_
            refine lv_iload hx hb dX0_ofRest_41 (lv_at hl 0 rfl) ?_
            refine lv_ishr hx hb dX0_ofRest_43 ?_
            refine lv_iconst (v := 1) hx hb dX0_ofRest_44 (by decide) ?_
            refine lv_iand hx hb dX0_ofRest_45 ?_
            refine lv_if_eq (tgt := 105) hx hb dX0_ofRest_46 (by decide) (fun c22 => ?_) (fun c22 => ?_)
            · replace hR := ifp c22 hR
              refine lv_iinc (v := y7_34 + 1) (lv' := [(7, .int (y7_34 + 1)), (6, .int y6_34), (4, .long y4_34), (0, .ref (a (6 + 2 * i))), (1, .int p0), (2, .int p1), (3, .int p2)]) hx hb dX0_ofRest_105 hl (k := 0) rfl rfl (by decide) rfl (fun ls hl => ?_)
              refine lv_goto (tgt := 34) hx hb dX0_ofRest_108 (by decide) ?_
              exact ih34 (y7_34 + 1) y6_34 y4_34 _ _  (gap_step c21 hμ34) hR hB _ hl
            · replace hR := ifn c22 hR
              refine lv_aload_n hx hb dX0_ofRest_49 rfl (lv_at hl 3 rfl) ?_
              refine lv_iload_n hx hb dX0_ofRest_50 rfl (lv_at hl 6 rfl) ?_
              refine lv_iload hx hb dX0_ofRest_51 (lv_at hl 0 rfl) ?_
              obtain ⟨x24, hd23⟩ := ex1 (D_X3_get r q f i p2 y7_34)
              replace hR := bnd1_use hd23 hR
              refine call_V (n := 2) (As := [.int p2, .int y7_34]) (rest := []) hX hB (k_X3_get κ l a r q f i p2 y7_34 hi x24 hd23) ⟨rfl, by decide, by decide, by decide +kernel⟩ wm_1_186 wm_1_187 wm_1_188 wm_1_2 wm_1_189 ⟨Nat.le_of_ble_eq_true rfl, Nat.le_of_ble_eq_true rfl⟩ ⟨Nat.le_of_ble_eq_true rfl, Nat.le_of_ble_eq_true rfl⟩ (cwG (i := i) hi) rfl rfl rfl hl.1 rfl (Nat.le_of_ble_eq_true rfl) dX0_ofRest_53 (fun o w' H locs hp hB => ?_)
              obtain ⟨rfl, rfl⟩ := hp
              refine W.eq (g2 := F0 m 56 ls [.long x24]) rfl ?_
              refine lv_aload_n hx hb dX0_ofRest_56 rfl (lv_at hl 3 rfl) ?_
              refine lv_iload_n hx hb dX0_ofRest_57 rfl (lv_at hl 4 rfl) ?_
              refine lv_iload_n hx hb dX0_ofRest_58 rfl (lv_at hl 5 rfl) ?_
              refine lv_iconst (v := 1) hx hb dX0_ofRest_59 (by decide) ?_
              refine lv_iload hx hb dX0_ofRest_60 (lv_at hl 0 rfl) ?_
              refine lv_ishl hx hb dX0_ofRest_62 ?_
              refine lv_iconst (v := (-1)) hx hb dX0_ofRest_63 (by decide) ?_
              refine lv_ixor hx hb dX0_ofRest_64 ?_
              refine lv_iand hx hb dX0_ofRest_65 ?_
              refine lv_iload_n hx hb dX0_ofRest_66 rfl (lv_at hl 6 rfl) ?_
              refine lv_iconst (v := 1) hx hb dX0_ofRest_67 (by decide) ?_
              refine lv_iadd hx hb dX0_ofRest_68 ?_
              obtain ⟨x26, hd25⟩ := ex1 (D_X0_ofRest_2 r q f i p0 (p1 &&& ((1 <<< (y7_34 &&& 31)) ^^^ (-1))) (p2 + 1))
              replace hR := bnd1_use hd25 hR
              refine call_S (n := 4) (As := [.ref (a (6 + 2 * i)), .int p0, .int (p1 &&& ((1 <<< (y7_34 &&& 31)) ^^^ (-1))), .int (p2 + 1)]) (rest := [.long x24]) hX hB (k_X0_ofRest_2 κ l a r q f i p0 (p1 &&& ((1 <<< (y7_34 &&& 31)) ^^^ (-1))) (p2 + 1) hi (lvup (lo := 1) (hi := 2) rfl hp2 (by assumption)) x26 hd25) ⟨by decide, by decide, by decide +kernel⟩ wm_1_183 wm_1_184 wm_1_29 wm_1_185 ⟨Nat.le_of_ble_eq_true rfl, Nat.le_of_ble_eq_true rfl⟩ ⟨Nat.le_of_ble_eq_true rfl, Nat.le_of_ble_eq_true rfl⟩ rfl hl.1 rfl (Nat.le_of_ble_eq_true rfl) dX0_ofRest_69 (fun o w' H locs hp hB => ?_)
              obtain ⟨rfl, rfl⟩ := hp
              refine W.eq (g2 := F0 m 72 ls [.long x26, .long x24]) rfl ?_
              refine lv_lmul hx hb dX0_ofRest_72 ?_
              refine lv_lstore (lv' := [(8, .long (x24 * x26)), (7, .int y7_34), (6, .int y6_34), (4, .long y4_34), (0, .ref (a (6 + 2 * i))), (1, .int p0), (2, .int p1), (3, .int p2)]) hx hb dX0_ofRest_73 hl (by decide) rfl (fun ls hl => ?_)
              refine lv_lload hx hb dX0_ofRest_75 (lv_at hl 3 rfl) ?_
              refine lv_iload hx hb dX0_ofRest_77 (lv_at hl 2 rfl) ?_
              have jn90 : ∀ (z0_90 : Int64) (H : Heap) (locs : List Loc), D_X0_ofRest_3_j90 (D_X0_ofRest_3_34 r q f i p0 p1 p2 nn34) y7_34 y6_34 y4_34 z0_90 = o_x → Bd κ A s (cw κ a r q f) H locs → ∀ ls : Array Slot, lv_has ls 10 [(8, .long (x24 * x26)), (7, .int y7_34), (6, .int y6_34), (4, .long y4_34), (0, .ref (a (6 + 2 * i))), (1, .int p0), (2, .int p1), (3, .int p2)] → W p l e (Rm 3 87 0 0) s m args below meth c H locs 0 0 Q (F0 m 90 ls [.long z0_90, .long y4_34]) := by
                intro z0_90 H locs hR hB ls hl
                replace hR := (D_X0_ofRest_3_j90_s).symm.trans hR
                refine lv_ladd hx hb dX0_ofRest_90 ?_
                refine lv_lstore (lv' := [(4, .long (y4_34 + z0_90)), (8, .long (x24 * x26)), (7, .int y7_34), (6, .int y6_34), (0, .ref (a (6 + 2 * i))), (1, .int p0), (2, .int p1), (3, .int p2)]) hx hb dX0_ofRest_91 hl (by decide) rfl (fun ls hl => ?_)
                refine lv_iload hx hb dX0_ofRest_93 (lv_at hl 3 rfl) ?_
                refine lv_if_ne (tgt := 102) hx hb dX0_ofRest_95 (by decide) (fun c28 => ?_) (fun c28 => ?_)
                · replace hR := ifn c28 hR
                  refine lv_iconst (v := 0) hx hb dX0_ofRest_102 (by decide) ?_
                  refine lv_istore (lv' := [(6, .int 0), (4, .long (y4_34 + z0_90)), (8, .long (x24 * x26)), (7, .int y7_34), (0, .ref (a (6 + 2 * i))), (1, .int p0), (2, .int p1), (3, .int p2)]) hx hb dX0_ofRest_103 hl (by decide) rfl (fun ls hl => ?_)
                  refine lv_iinc (v := y7_34 + 1) (lv' := [(7, .int (y7_34 + 1)), (6, .int 0), (4, .long (y4_34 + z0_90)), (8, .long (x24 * x26)), (0, .ref (a (6 + 2 * i))), (1, .int p0), (2, .int p1), (3, .int p2)]) hx hb dX0_ofRest_105 hl (k := 3) rfl rfl (by decide) rfl (fun ls hl => ?_)
                  refine lv_goto (tgt := 34) hx hb dX0_ofRest_108 (by decide) ?_
                  exact ih34 (y7_34 + 1) 0 (y4_34 + z0_90) _ _  (gap_step c21 hμ34) hR hB _ (lv_sub hl [0, 1, 2, 4, 5, 6, 7] rfl)
                · replace hR := ifp c28 hR
                  refine lv_iconst (v := 1) hx hb dX0_ofRest_98 (by decide) ?_
                  refine lv_goto (tgt := 103) hx hb dX0_ofRest_99 (by decide) ?_
                  refine lv_istore (lv' := [(6, .int 1), (4, .long (y4_34 + z0_90)), (8, .long (x24 * x26)), (7, .int y7_34), (0, .ref (a (6 + 2 * i))), (1, .int p0), (2, .int p1), (3, .int p2)]) hx hb dX0_ofRest_103 hl (by decide) rfl (fun ls hl => ?_)
                  refine lv_iinc (v := y7_34 + 1) (lv' := [(7, .int (y7_34 + 1)), (6, .int 1), (4, .long (y4_34 + z0_90)), (8, .long (x24 * x26)), (0, .ref (a (6 + 2 * i))), (1, .int p0), (2, .int p1), (3, .int p2)]) hx hb dX0_ofRest_105 hl (k := 3) rfl rfl (by decide) rfl (fun ls hl => ?_)
                  refine lv_goto (tgt := 34) hx hb dX0_ofRest_108 (by decide) ?_
                  exact ih34 (y7_34 + 1) 1 (y4_34 + z0_90) _ _  (gap_step c21 hμ34) hR hB _ (lv_sub hl [0, 1, 2, 4, 5, 6, 7] rfl)
              refine lv_if_eq (tgt := 88) hx hb dX0_ofRest_79 (by decide) (fun c29 => ?_) (fun c29 => ?_)
              · replace hR := ifp c29 hR
                refine lv_lload hx hb dX0_ofRest_88 (lv_at hl 0 rfl) ?_
                exact jn90 (x24 * x26) _ _  hR hB _ hl
              · replace hR := ifn c29 hR
                refine lv_lload hx hb dX0_ofRest_82 (lv_at hl 0 rfl) ?_
                refine lv_lneg hx hb dX0_ofRest_84 ?_
                refine lv_goto (tgt := 90) hx hb dX0_ofRest_85 (by decide) ?_
                exact jn90 (-(x24 * x26)) _ _  hR hB _ hl
      exact lp34 _ 0 0 0 _ _  (Nat.lt_succ_self _) hR hB _ hl
    · replace hR := ifp c2 hR
      refine lv_aload_n hx hb dX0_ofRest_15 rfl (lv_at hl 0 rfl) ?_
      refine lv_iload_n hx hb dX0_ofRest_16 rfl (lv_at hl 1 rfl) ?_
      refine lv_iload_n hx hb dX0_ofRest_17 rfl (lv_at hl 2 rfl) ?_
      refine lv_iload_n hx hb dX0_ofRest_18 rfl (lv_at hl 3 rfl) ?_
      refine lv_iconst (v := 1) hx hb dX0_ofRest_19 (by decide) ?_
      refine lv_iadd hx hb dX0_ofRest_20 ?_
      obtain ⟨x31, hd30⟩ := ex1 (D_X0_ofRest_2 r q f i p0 p1 (p2 + 1))
      replace hR := bnd1_use hd30 hR
      refine call_S (n := 4) (As := [.ref (a (6 + 2 * i)), .int p0, .int p1, .int (p2 + 1)]) (rest := []) hX hB (k_X0_ofRest_2 κ l a r q f i p0 p1 (p2 + 1) hi (lvup (lo := 1) (hi := 2) rfl hp2 (by assumption)) x31 hd30) ⟨by decide, by decide, by decide +kernel⟩ wm_1_183 wm_1_184 wm_1_29 wm_1_185 ⟨Nat.le_of_ble_eq_true rfl, Nat.le_of_ble_eq_true rfl⟩ ⟨Nat.le_of_ble_eq_true rfl, Nat.le_of_ble_eq_true rfl⟩ rfl hl.1 rfl (Nat.le_of_ble_eq_true rfl) dX0_ofRest_21 (fun o w' H locs hp hB => ?_)
      obtain ⟨rfl, rfl⟩ := hp
      refine W.eq (g2 := F0 m 24 ls [.long x31]) rfl ?_
      rw [← hQ]
      exact end_l hX hB hA3 rfl (by obtain rfl := hR; exact ⟨rfl, rfl⟩) (Nat.le_of_ble_eq_true rfl) (Nat.le_of_ble_eq_true rfl) dX0_ofRest_24
  · replace hR := ifn c1 hR
    refine lv_lconst (v := 1) hx hb dX0_ofRest_5 (by decide) ?_
    rw [← hQ]
    exact end_l hX hB hA3 rfl (by obtain rfl := hR; exact ⟨rfl, rfl⟩) (Nat.le_of_ble_eq_true rfl) (Nat.le_of_ble_eq_true rfl) dX0_ofRest_6
noncomputable def D_X0_ofRest_4_j90 (lb34 : Int32 → Int32 → Int64 → Int64) (y7_34 : Int32) (y6_34 : Int32) (y4_34 : Int64) (z0_90 : Int64) : Int64 := (if y6_34 = 0 then (lb34 (y7_34 + 1) 1 (y4_34 + z0_90)) else (lb34 (y7_34 + 1) 0 (y4_34 + z0_90)))
theorem D_X0_ofRest_4_j90_s {lb34 : Int32 → Int32 → Int64 → Int64} {y7_34 : Int32} {y6_34 : Int32} {y4_34 : Int64} {z0_90 : Int64} : D_X0_ofRest_4_j90 lb34 y7_34 y6_34 y4_34 z0_90 = (if y6_34 = 0 then (lb34 (y7_34 + 1) 1 (y4_34 + z0_90)) else (lb34 (y7_34 + 1) 0 (y4_34 + z0_90))) := rfl
noncomputable def D_X0_ofRest_4_34 (r : Nat → Int32) (q : Nat → Int32) (f : Nat → Nat → Int64) (i : Nat) (p0 : Int32) (p1 : Int32) (p2 : Int32) (nn : Nat) : Int32 → Int32 → Int64 → Int64 := @Nat.rec (fun _ => Int32 → Int32 → Int64 → Int64) (fun _ _ _ => default) (fun _ lb34 (y7_34 : Int32) (y6_34 : Int32) (y4_34 : Int64) => (if 5 ≤ y7_34 then y4_34 else (if ((p1 >>> (y7_34 &&& 31)) &&& 1) = 0 then (lb34 (y7_34 + 1) y6_34 y4_34) else bnd1 (D_X3_get r q f i p2 y7_34) (fun (x24 : Int64) => bnd1 (D_X0_ofRest_3 r q f i p0 (p1 &&& ((1 <<< (y7_34 &&& 31)) ^^^ (-1))) (p2 + 1)) (fun (x26 : Int64) => (if y6_34 = 0 then (D_X0_ofRest_4_j90 lb34 y7_34 y6_34 y4_34 (x24 * x26)) else (D_X0_ofRest_4_j90 lb34 y7_34 y6_34 y4_34 (-(x24 * x26))))))))) nn
theorem D_X0_ofRest_4_34_s {r : Nat → Int32} {q : Nat → Int32} {f : Nat → Nat → Int64} {i : Nat} {p0 : Int32} {p1 : Int32} {p2 : Int32} {nn : Nat} {y7_34 : Int32} {y6_34 : Int32} {y4_34 : Int64} : D_X0_ofRest_4_34 r q f i p0 p1 p2 (nn + 1) y7_34 y6_34 y4_34 = (if 5 ≤ y7_34 then y4_34 else (if ((p1 >>> (y7_34 &&& 31)) &&& 1) = 0 then ((D_X0_ofRest_4_34 r q f i p0 p1 p2 nn) (y7_34 + 1) y6_34 y4_34) else bnd1 (D_X3_get r q f i p2 y7_34) (fun (x24 : Int64) => bnd1 (D_X0_ofRest_3 r q f i p0 (p1 &&& ((1 <<< (y7_34 &&& 31)) ^^^ (-1))) (p2 + 1)) (fun (x26 : Int64) => (if y6_34 = 0 then (D_X0_ofRest_4_j90 (D_X0_ofRest_4_34 r q f i p0 p1 p2 nn) y7_34 y6_34 y4_34 (x24 * x26)) else (D_X0_ofRest_4_j90 (D_X0_ofRest_4_34 r q f i p0 p1 p2 nn) y7_34 y6_34 y4_34 (-(x24 * x26)))))))) := rfl
noncomputable def D_X0_ofRest_4 (r : Nat → Int32) (q : Nat → Int32) (f : Nat → Nat → Int64) (i : Nat) (p0 : Int32) (p1 : Int32) (p2 : Int32) : Int64 := (if p2 < 4 then (if ((p0 >>> (p2 &&& 31)) &&& 1) = 0 then bnd1 (D_X0_ofRest_3 r q f i p0 p1 (p2 + 1)) (fun (x31 : Int64) => x31) else (D_X0_ofRest_4_34 r q f i p0 p1 p2 (gap 5 0 + 1) 0 0 0)) else 1)
theorem D_X0_ofRest_4_s {r : Nat → Int32} {q : Nat → Int32} {f : Nat → Nat → Int64} {i : Nat} {p0 : Int32} {p1 : Int32} {p2 : Int32} : D_X0_ofRest_4 r q f i p0 p1 p2 = (if p2 < 4 then (if ((p0 >>> (p2 &&& 31)) &&& 1) = 0 then bnd1 (D_X0_ofRest_3 r q f i p0 p1 (p2 + 1)) (fun (x31 : Int64) => x31) else (D_X0_ofRest_4_34 r q f i p0 p1 p2 (gap 5 0 + 1) 0 0 0)) else 1) := rfl
set_option maxHeartbeats 4000000 in
set_option maxRecDepth 100000 in
theorem k_X0_ofRest_4 (κ : Kt) (l : Launch) (a : Nat → Nat) (r q : Nat → Int32) (f : Nat → Nat → Int64) (i : Nat) (p0 : Int32) (p1 : Int32) (p2 : Int32) (hi : i < 15) (hp2 : 0 ≤ p2) (o_x : Int64) (hR : D_X0_ofRest_4 r q f i p0 p1 p2 = o_x) : CM κ l yX0_ofRest cX0_ofRest 10 (some .long) 4 116 0 0 [.ref (a (6 + 2 * i)), .int p0, .int p1, .int p2] (cw κ a r q f) (fun o w' => o = some (.long o_x) ∧ w' = cw κ a r q f) := by
  refine CM_begin (plainFor_of_name (by decide)) (Nat.le_of_ble_eq_true rfl) ?_
  intro p e s m args below meth c A Q hX hnm hA3 hQ hB ls hl
  have hx := hX.1.1
  have hb := hX.1.2.1
  have hl : lv_has ls 10 [(0, .ref (a (6 + 2 * i))), (1, .int p0), (2, .int p1), (3, .int p2)] := hl
  replace hR := (D_X0_ofRest_4_s).symm.trans hR
  refine lv_iload_n hx hb dX0_ofRest_0 rfl (lv_at hl 3 rfl) ?_
  refine lv_iconst (v := 4) hx hb dX0_ofRest_1 (by decide) ?_
  refine lv_icmp_lt (tgt := 7) hx hb dX0_ofRest_2 (by decide) (fun c1 => ?_) (fun c1 => ?_)
  · replace hR := ifp c1 hR
    refine lv_iload_n hx hb dX0_ofRest_7 rfl (lv_at hl 1 rfl) ?_
    refine lv_iload_n hx hb dX0_ofRest_8 rfl (lv_at hl 3 rfl) ?_
    refine lv_ishr hx hb dX0_ofRest_9 ?_
    refine lv_iconst (v := 1) hx hb dX0_ofRest_10 (by decide) ?_
    refine lv_iand hx hb dX0_ofRest_11 ?_
    refine lv_if_ne (tgt := 25) hx hb dX0_ofRest_12 (by decide) (fun c2 => ?_) (fun c2 => ?_)
    · replace hR := ifn c2 hR
      refine lv_lconst (v := 0) hx hb dX0_ofRest_25 (by decide) ?_
      refine lv_lstore (lv' := [(4, .long 0), (0, .ref (a (6 + 2 * i))), (1, .int p0), (2, .int p1), (3, .int p2)]) hx hb dX0_ofRest_26 hl (by decide) rfl (fun ls hl => ?_)
      refine lv_iconst (v := 0) hx hb dX0_ofRest_28 (by decide) ?_
      refine lv_istore (lv' := [(6, .int 0), (4, .long 0), (0, .ref (a (6 + 2 * i))), (1, .int p0), (2, .int p1), (3, .int p2)]) hx hb dX0_ofRest_29 hl (by decide) rfl (fun ls hl => ?_)
      refine lv_iconst (v := 0) hx hb dX0_ofRest_31 (by decide) ?_
      refine lv_istore (lv' := [(7, .int 0), (6, .int 0), (4, .long 0), (0, .ref (a (6 + 2 * i))), (1, .int p0), (2, .int p1), (3, .int p2)]) hx hb dX0_ofRest_32 hl (by decide) rfl (fun ls hl => ?_)
      have lp34 : ∀ (nn34 : Nat) (y7_34 : Int32) (y6_34 : Int32) (y4_34 : Int64) (H : Heap) (locs : List Loc), gap 5 y7_34 < nn34 → D_X0_ofRest_4_34 r q f i p0 p1 p2 nn34 y7_34 y6_34 y4_34 = o_x → Bd κ A s (cw κ a r q f) H locs → ∀ ls : Array Slot, lv_has ls 10 [(7, .int y7_34), (6, .int y6_34), (4, .long y4_34), (0, .ref (a (6 + 2 * i))), (1, .int p0), (2, .int p1), (3, .int p2)] → W p l e (Rm 4 116 0 0) s m args below meth c H locs 0 0 Q (F0 m 34 ls []) := by
        intro nn34
        induction nn34 with
        | zero => intro y7_34 y6_34 y4_34 H locs hμ; exact absurd hμ (Nat.not_lt_zero _)
        | succ nn34 ih34 =>
          intro y7_34 y6_34 y4_34 H locs hμ34 hR hB ls hl
          replace hR := (D_X0_ofRest_4_34_s).symm.trans hR
          refine lv_iload hx hb dX0_ofRest_34 (lv_at hl 0 rfl) ?_
          refine lv_iconst (v := 5) hx hb dX0_ofRest_36 (by decide) ?_
          refine lv_icmp_ge (tgt := 111) hx hb dX0_ofRest_37 (by decide) (fun c21 => ?_) (fun c21 => ?_)
          · replace hR := ifp c21 hR
            refine lv_lload hx hb dX0_ofRest_111 (lv_at hl 2 rfl) ?_
            rw [← hQ]
            exact end_l hX hB hA3 rfl (by obtain rfl := hR; exact ⟨rfl, rfl⟩) (Nat.le_of_ble_eq_true rfl) (Nat.le_of_ble_eq_true rfl) dX0_ofRest_113
          · replace hR := ifn c21 hR
            refine lv_iload_n hx hb dX0_ofRest_40 rfl (lv_at hl 5 rfl) ?_
            refine lv_iload hx hb dX0_ofRest_41 (lv_at hl 0 rfl) ?_
            refine lv_ishr hx hb dX0_ofRest_43 ?_
            refine lv_iconst (v := 1) hx hb dX0_ofRest_44 (by decide) ?_
            refine lv_iand hx hb dX0_ofRest_45 ?_
            refine lv_if_eq (tgt := 105) hx hb dX0_ofRest_46 (by decide) (fun c22 => ?_) (fun c22 => ?_)
            · replace hR := ifp c22 hR
              refine lv_iinc (v := y7_34 + 1) (lv' := [(7, .int (y7_34 + 1)), (6, .int y6_34), (4, .long y4_34), (0, .ref (a (6 + 2 * i))), (1, .int p0), (2, .int p1), (3, .int p2)]) hx hb dX0_ofRest_105 hl (k := 0) rfl rfl (by decide) rfl (fun ls hl => ?_)
              refine lv_goto (tgt := 34) hx hb dX0_ofRest_108 (by decide) ?_
              exact ih34 (y7_34 + 1) y6_34 y4_34 _ _  (gap_step c21 hμ34) hR hB _ hl
            · replace hR := ifn c22 hR
              refine lv_aload_n hx hb dX0_ofRest_49 rfl (lv_at hl 3 rfl) ?_
              refine lv_iload_n hx hb dX0_ofRest_50 rfl (lv_at hl 6 rfl) ?_
              refine lv_iload hx hb dX0_ofRest_51 (lv_at hl 0 rfl) ?_
              obtain ⟨x24, hd23⟩ := ex1 (D_X3_get r q f i p2 y7_34)
              replace hR := bnd1_use hd23 hR
              refine call_V (n := 2) (As := [.int p2, .int y7_34]) (rest := []) hX hB (k_X3_get κ l a r q f i p2 y7_34 hi x24 hd23) ⟨rfl, by decide, by decide, by decide +kernel⟩ wm_1_186 wm_1_187 wm_1_188 wm_1_2 wm_1_189 ⟨Nat.le_of_ble_eq_true rfl, Nat.le_of_ble_eq_true rfl⟩ ⟨Nat.le_of_ble_eq_true rfl, Nat.le_of_ble_eq_true rfl⟩ (cwG (i := i) hi) rfl rfl rfl hl.1 rfl (Nat.le_of_ble_eq_true rfl) dX0_ofRest_53 (fun o w' H locs hp hB => ?_)
              obtain ⟨rfl, rfl⟩ := hp
              refine W.eq (g2 := F0 m 56 ls [.long x24]) rfl ?_
              refine lv_aload_n hx hb dX0_ofRest_56 rfl (lv_at hl 3 rfl) ?_
              refine lv_iload_n hx hb dX0_ofRest_57 rfl (lv_at hl 4 rfl) ?_
              refine lv_iload_n hx hb dX0_ofRest_58 rfl (lv_at hl 5 rfl) ?_
              refine lv_iconst (v := 1) hx hb dX0_ofRest_59 (by decide) ?_
              refine lv_iload hx hb dX0_ofRest_60 (lv_at hl 0 rfl) ?_
              refine lv_ishl hx hb dX0_ofRest_62 ?_
              refine lv_iconst (v := (-1)) hx hb dX0_ofRest_63 (by decide) ?_
              refine lv_ixor hx hb dX0_ofRest_64 ?_
              refine lv_iand hx hb dX0_ofRest_65 ?_
              refine lv_iload_n hx hb dX0_ofRest_66 rfl (lv_at hl 6 rfl) ?_
              refine lv_iconst (v := 1) hx hb dX0_ofRest_67 (by decide) ?_
              refine lv_iadd hx hb dX0_ofRest_68 ?_
              obtain ⟨x26, hd25⟩ := ex1 (D_X0_ofRest_3 r q f i p0 (p1 &&& ((1 <<< (y7_34 &&& 31)) ^^^ (-1))) (p2 + 1))
              replace hR := bnd1_use hd25 hR
              refine call_S (n := 4) (As := [.ref (a (6 + 2 * i)), .int p0, .int (p1 &&& ((1 <<< (y7_34 &&& 31)) ^^^ (-1))), .int (p2 + 1)]) (rest := [.long x24]) hX hB (k_X0_ofRest_3 κ l a r q f i p0 (p1 &&& ((1 <<< (y7_34 &&& 31)) ^^^ (-1))) (p2 + 1) hi (lvup (lo := 0) (hi := 1) rfl hp2 (by assumption)) x26 hd25) ⟨by decide, by decide, by decide +kernel⟩ wm_1_183 wm_1_184 wm_1_29 wm_1_185 ⟨Nat.le_of_ble_eq_true rfl, Nat.le_of_ble_eq_true rfl⟩ ⟨Nat.le_of_ble_eq_true rfl, Nat.le_of_ble_eq_true rfl⟩ rfl hl.1 rfl (Nat.le_of_ble_eq_true rfl) dX0_ofRest_69 (fun o w' H locs hp hB => ?_)
              obtain ⟨rfl, rfl⟩ := hp
              refine W.eq (g2 := F0 m 72 ls [.long x26, .long x24]) rfl ?_
              refine lv_lmul hx hb dX0_ofRest_72 ?_
              refine lv_lstore (lv' := [(8, .long (x24 * x26)), (7, .int y7_34), (6, .int y6_34), (4, .long y4_34), (0, .ref (a (6 + 2 * i))), (1, .int p0), (2, .int p1), (3, .int p2)]) hx hb dX0_ofRest_73 hl (by decide) rfl (fun ls hl => ?_)
              refine lv_lload hx hb dX0_ofRest_75 (lv_at hl 3 rfl) ?_
              refine lv_iload hx hb dX0_ofRest_77 (lv_at hl 2 rfl) ?_
              have jn90 : ∀ (z0_90 : Int64) (H : Heap) (locs : List Loc), D_X0_ofRest_4_j90 (D_X0_ofRest_4_34 r q f i p0 p1 p2 nn34) y7_34 y6_34 y4_34 z0_90 = o_x → Bd κ A s (cw κ a r q f) H locs → ∀ ls : Array Slot, lv_has ls 10 [(8, .long (x24 * x26)), (7, .int y7_34), (6, .int y6_34), (4, .long y4_34), (0, .ref (a (6 + 2 * i))), (1, .int p0), (2, .int p1), (3, .int p2)] → W p l e (Rm 4 116 0 0) s m args below meth c H locs 0 0 Q (F0 m 90 ls [.long z0_90, .long y4_34]) := by
                intro z0_90 H locs hR hB ls hl
                replace hR := (D_X0_ofRest_4_j90_s).symm.trans hR
                refine lv_ladd hx hb dX0_ofRest_90 ?_
                refine lv_lstore (lv' := [(4, .long (y4_34 + z0_90)), (8, .long (x24 * x26)), (7, .int y7_34), (6, .int y6_34), (0, .ref (a (6 + 2 * i))), (1, .int p0), (2, .int p1), (3, .int p2)]) hx hb dX0_ofRest_91 hl (by decide) rfl (fun ls hl => ?_)
                refine lv_iload hx hb dX0_ofRest_93 (lv_at hl 3 rfl) ?_
                refine lv_if_ne (tgt := 102) hx hb dX0_ofRest_95 (by decide) (fun c28 => ?_) (fun c28 => ?_)
                · replace hR := ifn c28 hR
                  refine lv_iconst (v := 0) hx hb dX0_ofRest_102 (by decide) ?_
                  refine lv_istore (lv' := [(6, .int 0), (4, .long (y4_34 + z0_90)), (8, .long (x24 * x26)), (7, .int y7_34), (0, .ref (a (6 + 2 * i))), (1, .int p0), (2, .int p1), (3, .int p2)]) hx hb dX0_ofRest_103 hl (by decide) rfl (fun ls hl => ?_)
                  refine lv_iinc (v := y7_34 + 1) (lv' := [(7, .int (y7_34 + 1)), (6, .int 0), (4, .long (y4_34 + z0_90)), (8, .long (x24 * x26)), (0, .ref (a (6 + 2 * i))), (1, .int p0), (2, .int p1), (3, .int p2)]) hx hb dX0_ofRest_105 hl (k := 3) rfl rfl (by decide) rfl (fun ls hl => ?_)
                  refine lv_goto (tgt := 34) hx hb dX0_ofRest_108 (by decide) ?_
                  exact ih34 (y7_34 + 1) 0 (y4_34 + z0_90) _ _  (gap_step c21 hμ34) hR hB _ (lv_sub hl [0, 1, 2, 4, 5, 6, 7] rfl)
                · replace hR := ifp c28 hR
                  refine lv_iconst (v := 1) hx hb dX0_ofRest_98 (by decide) ?_
                  refine lv_goto (tgt := 103) hx hb dX0_ofRest_99 (by decide) ?_
                  refine lv_istore (lv' := [(6, .int 1), (4, .long (y4_34 + z0_90)), (8, .long (x24 * x26)), (7, .int y7_34), (0, .ref (a (6 + 2 * i))), (1, .int p0), (2, .int p1), (3, .int p2)]) hx hb dX0_ofRest_103 hl (by decide) rfl (fun ls hl => ?_)
                  refine lv_iinc (v := y7_34 + 1) (lv' := [(7, .int (y7_34 + 1)), (6, .int 1), (4, .long (y4_34 + z0_90)), (8, .long (x24 * x26)), (0, .ref (a (6 + 2 * i))), (1, .int p0), (2, .int p1), (3, .int p2)]) hx hb dX0_ofRest_105 hl (k := 3) rfl rfl (by decide) rfl (fun ls hl => ?_)
                  refine lv_goto (tgt := 34) hx hb dX0_ofRest_108 (by decide) ?_
                  exact ih34 (y7_34 + 1) 1 (y4_34 + z0_90) _ _  (gap_step c21 hμ34) hR hB _ (lv_sub hl [0, 1, 2, 4, 5, 6, 7] rfl)
              refine lv_if_eq (tgt := 88) hx hb dX0_ofRest_79 (by decide) (fun c29 => ?_) (fun c29 => ?_)
              · replace hR := ifp c29 hR
                refine lv_lload hx hb dX0_ofRest_88 (lv_at hl 0 rfl) ?_
                exact jn90 (x24 * x26) _ _  hR hB _ hl
              · replace hR := ifn c29 hR
                refine lv_lload hx hb dX0_ofRest_82 (lv_at hl 0 rfl) ?_
                refine lv_lneg hx hb dX0_ofRest_84 ?_
                refine lv_goto (tgt := 90) hx hb dX0_ofRest_85 (by decide) ?_
                exact jn90 (-(x24 * x26)) _ _  hR hB _ hl
      exact lp34 _ 0 0 0 _ _  (Nat.lt_succ_self _) hR hB _ hl
    · replace hR := ifp c2 hR
      refine lv_aload_n hx hb dX0_ofRest_15 rfl (lv_at hl 0 rfl) ?_
      refine lv_iload_n hx hb dX0_ofRest_16 rfl (lv_at hl 1 rfl) ?_
      refine lv_iload_n hx hb dX0_ofRest_17 rfl (lv_at hl 2 rfl) ?_
      refine lv_iload_n hx hb dX0_ofRest_18 rfl (lv_at hl 3 rfl) ?_
      refine lv_iconst (v := 1) hx hb dX0_ofRest_19 (by decide) ?_
      refine lv_iadd hx hb dX0_ofRest_20 ?_
      obtain ⟨x31, hd30⟩ := ex1 (D_X0_ofRest_3 r q f i p0 p1 (p2 + 1))
      replace hR := bnd1_use hd30 hR
      refine call_S (n := 4) (As := [.ref (a (6 + 2 * i)), .int p0, .int p1, .int (p2 + 1)]) (rest := []) hX hB (k_X0_ofRest_3 κ l a r q f i p0 p1 (p2 + 1) hi (lvup (lo := 0) (hi := 1) rfl hp2 (by assumption)) x31 hd30) ⟨by decide, by decide, by decide +kernel⟩ wm_1_183 wm_1_184 wm_1_29 wm_1_185 ⟨Nat.le_of_ble_eq_true rfl, Nat.le_of_ble_eq_true rfl⟩ ⟨Nat.le_of_ble_eq_true rfl, Nat.le_of_ble_eq_true rfl⟩ rfl hl.1 rfl (Nat.le_of_ble_eq_true rfl) dX0_ofRest_21 (fun o w' H locs hp hB => ?_)
      obtain ⟨rfl, rfl⟩ := hp
      refine W.eq (g2 := F0 m 24 ls [.long x31]) rfl ?_
      rw [← hQ]
      exact end_l hX hB hA3 rfl (by obtain rfl := hR; exact ⟨rfl, rfl⟩) (Nat.le_of_ble_eq_true rfl) (Nat.le_of_ble_eq_true rfl) dX0_ofRest_24
  · replace hR := ifn c1 hR
    refine lv_lconst (v := 1) hx hb dX0_ofRest_5 (by decide) ?_
    rw [← hQ]
    exact end_l hX hB hA3 rfl (by obtain rfl := hR; exact ⟨rfl, rfl⟩) (Nat.le_of_ble_eq_true rfl) (Nat.le_of_ble_eq_true rfl) dX0_ofRest_6
noncomputable def D_X0_bySequences_0 (r : Nat → Int32) (q : Nat → Int32) (f : Nat → Nat → Int64) (i : Nat) (p0 : Int32) (p1 : Int32) : Int64 := (if (r (2 * i)) ≤ p0 then 1 else (if p0 < 4 then default else 1))
theorem D_X0_bySequences_0_s {r : Nat → Int32} {q : Nat → Int32} {f : Nat → Nat → Int64} {i : Nat} {p0 : Int32} {p1 : Int32} : D_X0_bySequences_0 r q f i p0 p1 = (if (r (2 * i)) ≤ p0 then 1 else (if p0 < 4 then default else 1)) := rfl
set_option maxHeartbeats 4000000 in
set_option maxRecDepth 100000 in
theorem k_X0_bySequences_0 (κ : Kt) (l : Launch) (a : Nat → Nat) (r q : Nat → Int32) (f : Nat → Nat → Int64) (i : Nat) (p0 : Int32) (p1 : Int32) (hi : i < 15) (hp0 : 4 ≤ p0) (o_x : Int64) (hR : D_X0_bySequences_0 r q f i p0 p1 = o_x) : CM κ l yX0_bySequences cX0_bySequences 9 (some .long) 0 0 0 0 [.ref (a (6 + 2 * i)), .int p0, .int p1] (cw κ a r q f) (fun o w' => o = some (.long o_x) ∧ w' = cw κ a r q f) := by
  refine CM_begin (plainFor_of_name (by decide)) (Nat.le_of_ble_eq_true rfl) ?_
  intro p e s m args below meth c A Q hX hnm hA3 hQ hB ls hl
  have hx := hX.1.1
  have hb := hX.1.2.1
  have hl : lv_has ls 9 [(0, .ref (a (6 + 2 * i))), (1, .int p0), (2, .int p1)] := hl
  replace hR := (D_X0_bySequences_0_s).symm.trans hR
  refine lv_iload_n hx hb dX0_bySequences_0 rfl (lv_at hl 1 rfl) ?_
  refine lv_aload_n hx hb dX0_bySequences_1 rfl (lv_at hl 0 rfl) ?_
  refine gfN hX hB (cwG (i := i) hi) rfl in3 1 (by decide) wn_1_47 rfl rfl dX0_bySequences_2 ?_
  refine lv_icmp_ge (tgt := 13) hx hb dX0_bySequences_5 (by decide) (fun c1 => ?_) (fun c1 => ?_)
  · replace hR := ifp c1 hR
    refine lv_lconst (v := 1) hx hb dX0_bySequences_13 (by decide) ?_
    rw [← hQ]
    exact end_l hX hB hA3 rfl (by obtain rfl := hR; exact ⟨rfl, rfl⟩) (Nat.le_of_ble_eq_true rfl) (Nat.le_of_ble_eq_true rfl) dX0_bySequences_14
  · replace hR := ifn c1 hR
    refine lv_iload_n hx hb dX0_bySequences_8 rfl (lv_at hl 1 rfl) ?_
    refine lv_iconst (v := 4) hx hb dX0_bySequences_9 (by decide) ?_
    refine lv_icmp_lt (tgt := 15) hx hb dX0_bySequences_10 (by decide) (fun c2 => ?_) (fun c2 => ?_)
    · replace hR := ifp c2 hR
      exact absurd hp0 (i32_not_le.mpr (by assumption))
    · replace hR := ifn c2 hR
      refine lv_lconst (v := 1) hx hb dX0_bySequences_13 (by decide) ?_
      rw [← hQ]
      exact end_l hX hB hA3 rfl (by obtain rfl := hR; exact ⟨rfl, rfl⟩) (Nat.le_of_ble_eq_true rfl) (Nat.le_of_ble_eq_true rfl) dX0_bySequences_14
noncomputable def D_X0_bySequences_1_j80 (lb20 : Int32 → Int64 → Int64) (y5_20 : Int32) (y3_20 : Int64) (x26 : Int64) (x28 : Int64) (z0_80 : Int32) : Int64 := (if z0_80 = 0 then (lb20 (y5_20 + 1) (y3_20 + (x26 * x28))) else (lb20 (y5_20 + 1) (y3_20 + (-(x26 * x28)))))
theorem D_X0_bySequences_1_j80_s {lb20 : Int32 → Int64 → Int64} {y5_20 : Int32} {y3_20 : Int64} {x26 : Int64} {x28 : Int64} {z0_80 : Int32} : D_X0_bySequences_1_j80 lb20 y5_20 y3_20 x26 x28 z0_80 = (if z0_80 = 0 then (lb20 (y5_20 + 1) (y3_20 + (x26 * x28))) else (lb20 (y5_20 + 1) (y3_20 + (-(x26 * x28))))) := rfl
noncomputable def D_X0_bySequences_1_20 (r : Nat → Int32) (q : Nat → Int32) (f : Nat → Nat → Int64) (i : Nat) (p0 : Int32) (p1 : Int32) (nn : Nat) : Int32 → Int64 → Int64 := @Nat.rec (fun _ => Int32 → Int64 → Int64) (fun _ _ => default) (fun _ lb20 (y5_20 : Int32) (y3_20 : Int64) => (if (r (2 * i + 1)) ≤ y5_20 then y3_20 else (if ((p1 >>> (y5_20 &&& 31)) &&& 1) = 0 then bnd1 (D_X3_get r q f i p0 y5_20) (fun (x26 : Int64) => bnd1 (D_X0_bySequences_0 r q f i (p0 + 1) (p1 ||| (1 <<< (y5_20 &&& 31)))) (fun (x28 : Int64) => nm ((bcE (p1 >>> ((y5_20 + 1) &&& 31))) : Int32) (fun (x29 : Int32) => (if (x29 - x29 / 2 * 2) = 0 then (D_X0_bySequences_1_j80 lb20 y5_20 y3_20 x26 x28 0) else (D_X0_bySequences_1_j80 lb20 y5_20 y3_20 x26 x28 1))))) else (lb20 (y5_20 + 1) y3_20)))) nn
theorem D_X0_bySequences_1_20_s {r : Nat → Int32} {q : Nat → Int32} {f : Nat → Nat → Int64} {i : Nat} {p0 : Int32} {p1 : Int32} {nn : Nat} {y5_20 : Int32} {y3_20 : Int64} : D_X0_bySequences_1_20 r q f i p0 p1 (nn + 1) y5_20 y3_20 = (if (r (2 * i + 1)) ≤ y5_20 then y3_20 else (if ((p1 >>> (y5_20 &&& 31)) &&& 1) = 0 then bnd1 (D_X3_get r q f i p0 y5_20) (fun (x26 : Int64) => bnd1 (D_X0_bySequences_0 r q f i (p0 + 1) (p1 ||| (1 <<< (y5_20 &&& 31)))) (fun (x28 : Int64) => nm ((bcE (p1 >>> ((y5_20 + 1) &&& 31))) : Int32) (fun (x29 : Int32) => (if (x29 - x29 / 2 * 2) = 0 then (D_X0_bySequences_1_j80 (D_X0_bySequences_1_20 r q f i p0 p1 nn) y5_20 y3_20 x26 x28 0) else (D_X0_bySequences_1_j80 (D_X0_bySequences_1_20 r q f i p0 p1 nn) y5_20 y3_20 x26 x28 1))))) else ((D_X0_bySequences_1_20 r q f i p0 p1 nn) (y5_20 + 1) y3_20))) := rfl
noncomputable def D_X0_bySequences_1 (r : Nat → Int32) (q : Nat → Int32) (f : Nat → Nat → Int64) (i : Nat) (p0 : Int32) (p1 : Int32) : Int64 := (if (r (2 * i)) ≤ p0 then 1 else (if p0 < 4 then (D_X0_bySequences_1_20 r q f i p0 p1 (gap (r (2 * i + 1)) 0 + 1) 0 0) else 1))
theorem D_X0_bySequences_1_s {r : Nat → Int32} {q : Nat → Int32} {f : Nat → Nat → Int64} {i : Nat} {p0 : Int32} {p1 : Int32} : D_X0_bySequences_1 r q f i p0 p1 = (if (r (2 * i)) ≤ p0 then 1 else (if p0 < 4 then (D_X0_bySequences_1_20 r q f i p0 p1 (gap (r (2 * i + 1)) 0 + 1) 0 0) else 1)) := rfl
set_option maxHeartbeats 4000000 in
set_option maxRecDepth 100000 in
theorem k_X0_bySequences_1 (κ : Kt) (l : Launch) (a : Nat → Nat) (r q : Nat → Int32) (f : Nat → Nat → Int64) (i : Nat) (p0 : Int32) (p1 : Int32) (hi : i < 15) (hp0 : 3 ≤ p0) (o_x : Int64) (hR : D_X0_bySequences_1 r q f i p0 p1 = o_x) : CM κ l yX0_bySequences cX0_bySequences 9 (some .long) 1 28 0 0 [.ref (a (6 + 2 * i)), .int p0, .int p1] (cw κ a r q f) (fun o w' => o = some (.long o_x) ∧ w' = cw κ a r q f) := by
  refine CM_begin (plainFor_of_name (by decide)) (Nat.le_of_ble_eq_true rfl) ?_
  intro p e s m args below meth c A Q hX hnm hA3 hQ hB ls hl
  have hx := hX.1.1
  have hb := hX.1.2.1
  have hl : lv_has ls 9 [(0, .ref (a (6 + 2 * i))), (1, .int p0), (2, .int p1)] := hl
  replace hR := (D_X0_bySequences_1_s).symm.trans hR
  refine lv_iload_n hx hb dX0_bySequences_0 rfl (lv_at hl 1 rfl) ?_
  refine lv_aload_n hx hb dX0_bySequences_1 rfl (lv_at hl 0 rfl) ?_
  refine gfN hX hB (cwG (i := i) hi) rfl in3 1 (by decide) wn_1_47 rfl rfl dX0_bySequences_2 ?_
  refine lv_icmp_ge (tgt := 13) hx hb dX0_bySequences_5 (by decide) (fun c1 => ?_) (fun c1 => ?_)
  · replace hR := ifp c1 hR
    refine lv_lconst (v := 1) hx hb dX0_bySequences_13 (by decide) ?_
    rw [← hQ]
    exact end_l hX hB hA3 rfl (by obtain rfl := hR; exact ⟨rfl, rfl⟩) (Nat.le_of_ble_eq_true rfl) (Nat.le_of_ble_eq_true rfl) dX0_bySequences_14
  · replace hR := ifn c1 hR
    refine lv_iload_n hx hb dX0_bySequences_8 rfl (lv_at hl 1 rfl) ?_
    refine lv_iconst (v := 4) hx hb dX0_bySequences_9 (by decide) ?_
    refine lv_icmp_lt (tgt := 15) hx hb dX0_bySequences_10 (by decide) (fun c2 => ?_) (fun c2 => ?_)
    · replace hR := ifp c2 hR
      refine lv_lconst (v := 0) hx hb dX0_bySequences_15 (by decide) ?_
      refine lv_lstore_n (lv' := [(3, .long 0), (0, .ref (a (6 + 2 * i))), (1, .int p0), (2, .int p1)]) hx hb dX0_bySequences_16 rfl hl (by decide) rfl (fun ls hl => ?_)
      refine lv_iconst (v := 0) hx hb dX0_bySequences_17 (by decide) ?_
      refine lv_istore (lv' := [(5, .int 0), (3, .long 0), (0, .ref (a (6 + 2 * i))), (1, .int p0), (2, .int p1)]) hx hb dX0_bySequences_18 hl (by decide) rfl (fun ls hl => ?_)
      have lp20 : ∀ (nn20 : Nat) (y5_20 : Int32) (y3_20 : Int64) (H : Heap) (locs : List Loc), gap (r (2 * i + 1)) y5_20 < nn20 → D_X0_bySequences_1_20 r q f i p0 p1 nn20 y5_20 y3_20 = o_x → Bd κ A s (cw κ a r q f) H locs → ∀ ls : Array Slot, lv_has ls 9 [(5, .int y5_20), (3, .long y3_20), (0, .ref (a (6 + 2 * i))), (1, .int p0), (2, .int p1)] → W p l e (Rm 1 28 0 0) s m args below meth c H locs 0 0 Q (F0 m 20 ls []) := by
        intro nn20
        induction nn20 with
        | zero => intro y5_20 y3_20 H locs hμ; exact absurd hμ (Nat.not_lt_zero _)
        | succ nn20 ih20 =>
          intro y5_20 y3_20 H locs hμ20 hR hB ls hl
          replace hR := (D_X0_bySequences_1_20_s).symm.trans hR
          refine lv_iload hx hb dX0_bySequences_20 (lv_at hl 0 rfl) ?_
          refine lv_aload_n hx hb dX0_bySequences_22 rfl (lv_at hl 2 rfl) ?_
          refine gfN hX hB (cwG (i := i) hi) rfl in3 2 (by decide) wn_1_53 rfl rfl dX0_bySequences_23 ?_
          refine lv_icmp_ge (tgt := 104) hx hb dX0_bySequences_26 (by decide) (fun c23 => ?_) (fun c23 => ?_)
          · replace hR := ifp c23 hR
            refine lv_lload_n hx hb dX0_bySequences_104 rfl (lv_at hl 1 rfl) ?_
            rw [← hQ]
            exact end_l hX hB hA3 rfl (by obtain rfl := hR; exact ⟨rfl, rfl⟩) (Nat.le_of_ble_eq_true rfl) (Nat.le_of_ble_eq_true rfl) dX0_bySequences_105
          · replace hR := ifn c23 hR
            refine lv_iload_n hx hb dX0_bySequences_29 rfl (lv_at hl 4 rfl) ?_
            refine lv_iload hx hb dX0_bySequences_30 (lv_at hl 0 rfl) ?_
            refine lv_ishr hx hb dX0_bySequences_32 ?_
            refine lv_iconst (v := 1) hx hb dX0_bySequences_33 (by decide) ?_
            refine lv_iand hx hb dX0_bySequences_34 ?_
            refine lv_if_ne (tgt := 98) hx hb dX0_bySequences_35 (by decide) (fun c24 => ?_) (fun c24 => ?_)
            · replace hR := ifn c24 hR
              refine lv_iinc (v := y5_20 + 1) (lv' := [(5, .int (y5_20 + 1)), (3, .long y3_20), (0, .ref (a (6 + 2 * i))), (1, .int p0), (2, .int p1)]) hx hb dX0_bySequences_98 hl (k := 0) rfl rfl (by decide) rfl (fun ls hl => ?_)
              refine lv_goto (tgt := 20) hx hb dX0_bySequences_101 (by decide) ?_
              exact ih20 (y5_20 + 1) y3_20 _ _  (gap_step c23 hμ20) hR hB _ hl
            · replace hR := ifp c24 hR
              refine lv_aload_n hx hb dX0_bySequences_38 rfl (lv_at hl 2 rfl) ?_
              refine lv_iload_n hx hb dX0_bySequences_39 rfl (lv_at hl 3 rfl) ?_
              refine lv_iload hx hb dX0_bySequences_40 (lv_at hl 0 rfl) ?_
              obtain ⟨x26, hd25⟩ := ex1 (D_X3_get r q f i p0 y5_20)
              replace hR := bnd1_use hd25 hR
              refine call_V (n := 2) (As := [.int p0, .int y5_20]) (rest := []) hX hB (k_X3_get κ l a r q f i p0 y5_20 hi x26 hd25) ⟨rfl, by decide, by decide, by decide +kernel⟩ wm_1_186 wm_1_187 wm_1_188 wm_1_2 wm_1_189 ⟨Nat.le_of_ble_eq_true rfl, Nat.le_of_ble_eq_true rfl⟩ ⟨Nat.le_of_ble_eq_true rfl, Nat.le_of_ble_eq_true rfl⟩ (cwG (i := i) hi) rfl rfl rfl hl.1 rfl (Nat.le_of_ble_eq_true rfl) dX0_bySequences_42 (fun o w' H locs hp hB => ?_)
              obtain ⟨rfl, rfl⟩ := hp
              refine W.eq (g2 := F0 m 45 ls [.long x26]) rfl ?_
              refine lv_aload_n hx hb dX0_bySequences_45 rfl (lv_at hl 2 rfl) ?_
              refine lv_iload_n hx hb dX0_bySequences_46 rfl (lv_at hl 3 rfl) ?_
              refine lv_iconst (v := 1) hx hb dX0_bySequences_47 (by decide) ?_
              refine lv_iadd hx hb dX0_bySequences_48 ?_
              refine lv_iload_n hx hb dX0_bySequences_49 rfl (lv_at hl 4 rfl) ?_
              refine lv_iconst (v := 1) hx hb dX0_bySequences_50 (by decide) ?_
              refine lv_iload hx hb dX0_bySequences_51 (lv_at hl 0 rfl) ?_
              refine lv_ishl hx hb dX0_bySequences_53 ?_
              refine lv_ior hx hb dX0_bySequences_54 ?_
              obtain ⟨x28, hd27⟩ := ex1 (D_X0_bySequences_0 r q f i (p0 + 1) (p1 ||| (1 <<< (y5_20 &&& 31))))
              replace hR := bnd1_use hd27 hR
              refine call_S (n := 3) (As := [.ref (a (6 + 2 * i)), .int (p0 + 1), .int (p1 ||| (1 <<< (y5_20 &&& 31)))]) (rest := [.long x26]) hX hB (k_X0_bySequences_0 κ l a r q f i (p0 + 1) (p1 ||| (1 <<< (y5_20 &&& 31))) hi (lvup (lo := 3) (hi := 4) rfl hp0 (by assumption)) x28 hd27) ⟨by decide, by decide, by decide +kernel⟩ wm_1_193 wm_1_191 wm_1_29 wm_1_192 ⟨Nat.le_of_ble_eq_true rfl, Nat.le_of_ble_eq_true rfl⟩ ⟨Nat.le_of_ble_eq_true rfl, Nat.le_of_ble_eq_true rfl⟩ rfl hl.1 rfl (Nat.le_of_ble_eq_true rfl) dX0_bySequences_55 (fun o w' H locs hp hB => ?_)
              obtain ⟨rfl, rfl⟩ := hp
              refine W.eq (g2 := F0 m 58 ls [.long x28, .long x26]) rfl ?_
              refine lv_lmul hx hb dX0_bySequences_58 ?_
              refine lv_lstore (lv' := [(6, .long (x26 * x28)), (5, .int y5_20), (3, .long y3_20), (0, .ref (a (6 + 2 * i))), (1, .int p0), (2, .int p1)]) hx hb dX0_bySequences_59 hl (by decide) rfl (fun ls hl => ?_)
              refine lv_iload_n hx hb dX0_bySequences_61 rfl (lv_at hl 5 rfl) ?_
              refine lv_iload hx hb dX0_bySequences_62 (lv_at hl 1 rfl) ?_
              refine lv_iconst (v := 1) hx hb dX0_bySequences_64 (by decide) ?_
              refine lv_iadd hx hb dX0_bySequences_65 ?_
              refine lv_ishr hx hb dX0_bySequences_66 ?_
              refine call_S (n := 1) (As := [.int (p1 >>> ((y5_20 + 1) &&& 31))]) (rest := []) hX hB (k_J6_bitCount_0f7a4 κ l (cw κ a r q f) (p1 >>> ((y5_20 + 1) &&& 31)) ) ⟨by decide, by decide, by decide +kernel⟩ wm_1_194 wm_1_195 wm_1_26 wm_1_196 ⟨Nat.le_of_ble_eq_true rfl, Nat.le_of_ble_eq_true rfl⟩ ⟨Nat.le_of_ble_eq_true rfl, Nat.le_of_ble_eq_true rfl⟩ rfl hl.1 rfl (Nat.le_of_ble_eq_true rfl) dX0_bySequences_67 (fun o w' H locs hp hB => ?_)
              obtain ⟨x29, rfl, ex29, hw9⟩ := hp
              replace hR := nm_use ex29 hR
              rw [hw9] at hB
              refine W.eq (g2 := F0 m 70 ls [.int x29]) rfl ?_
              refine lv_iconst (v := 2) hx hb dX0_bySequences_70 (by decide) ?_
              refine lv_irem hx hb dX0_bySequences_71 (by decide) ?_
              have jn80 : ∀ (z0_80 : Int32) (H : Heap) (locs : List Loc), (z0_80 = 0 ∨ z0_80 = 1) → D_X0_bySequences_1_j80 (D_X0_bySequences_1_20 r q f i p0 p1 nn20) y5_20 y3_20 x26 x28 z0_80 = o_x → Bd κ A s (cw κ a r q f) H locs → ∀ ls : Array Slot, lv_has ls 9 [(6, .long (x26 * x28)), (5, .int y5_20), (3, .long y3_20), (0, .ref (a (6 + 2 * i))), (1, .int p0), (2, .int p1)] → W p l e (Rm 1 28 0 0) s m args below meth c H locs 0 0 Q (F0 m 80 ls [.int z0_80]) := by
                intro z0_80 H locs hz0_80 hR hB ls hl
                replace hR := (D_X0_bySequences_1_j80_s).symm.trans hR
                refine lv_istore (lv' := [(8, .int z0_80), (6, .long (x26 * x28)), (5, .int y5_20), (3, .long y3_20), (0, .ref (a (6 + 2 * i))), (1, .int p0), (2, .int p1)]) hx hb dX0_bySequences_80 hl (by decide) rfl (fun ls hl => ?_)
                refine lv_lload_n hx hb dX0_bySequences_82 rfl (lv_at hl 3 rfl) ?_
                refine lv_iload hx hb dX0_bySequences_83 (lv_at hl 0 rfl) ?_
                refine lv_if_eq (tgt := 94) hx hb dX0_bySequences_85 (by decide) (fun c31 => ?_) (fun c31 => ?_)
                · replace hR := ifp c31 hR
                  refine lv_lload hx hb dX0_bySequences_94 (lv_at hl 1 rfl) ?_
                  refine lv_ladd hx hb dX0_bySequences_96 ?_
                  refine lv_lstore_n (lv' := [(3, .long (y3_20 + (x26 * x28))), (8, .int z0_80), (6, .long (x26 * x28)), (5, .int y5_20), (0, .ref (a (6 + 2 * i))), (1, .int p0), (2, .int p1)]) hx hb dX0_bySequences_97 rfl hl (by decide) rfl (fun ls hl => ?_)
                  refine lv_iinc (v := y5_20 + 1) (lv' := [(5, .int (y5_20 + 1)), (3, .long (y3_20 + (x26 * x28))), (8, .int z0_80), (6, .long (x26 * x28)), (0, .ref (a (6 + 2 * i))), (1, .int p0), (2, .int p1)]) hx hb dX0_bySequences_98 hl (k := 3) rfl rfl (by decide) rfl (fun ls hl => ?_)
                  refine lv_goto (tgt := 20) hx hb dX0_bySequences_101 (by decide) ?_
                  exact ih20 (y5_20 + 1) (y3_20 + (x26 * x28)) _ _  (gap_step c23 hμ20) hR hB _ (lv_sub hl [0, 1, 4, 5, 6] rfl)
                · replace hR := ifn c31 hR
                  refine lv_lload hx hb dX0_bySequences_88 (lv_at hl 1 rfl) ?_
                  refine lv_lneg hx hb dX0_bySequences_90 ?_
                  refine lv_goto (tgt := 96) hx hb dX0_bySequences_91 (by decide) ?_
                  refine lv_ladd hx hb dX0_bySequences_96 ?_
                  refine lv_lstore_n (lv' := [(3, .long (y3_20 + (-(x26 * x28)))), (8, .int z0_80), (6, .long (x26 * x28)), (5, .int y5_20), (0, .ref (a (6 + 2 * i))), (1, .int p0), (2, .int p1)]) hx hb dX0_bySequences_97 rfl hl (by decide) rfl (fun ls hl => ?_)
                  refine lv_iinc (v := y5_20 + 1) (lv' := [(5, .int (y5_20 + 1)), (3, .long (y3_20 + (-(x26 * x28)))), (8, .int z0_80), (6, .long (x26 * x28)), (0, .ref (a (6 + 2 * i))), (1, .int p0), (2, .int p1)]) hx hb dX0_bySequences_98 hl (k := 3) rfl rfl (by decide) rfl (fun ls hl => ?_)
                  refine lv_goto (tgt := 20) hx hb dX0_bySequences_101 (by decide) ?_
                  exact ih20 (y5_20 + 1) (y3_20 + (-(x26 * x28))) _ _  (gap_step c23 hμ20) hR hB _ (lv_sub hl [0, 1, 4, 5, 6] rfl)
              refine lv_if_eq (tgt := 79) hx hb dX0_bySequences_72 (by decide) (fun c32 => ?_) (fun c32 => ?_)
              · replace hR := ifp c32 hR
                refine lv_iconst (v := 0) hx hb dX0_bySequences_79 (by decide) ?_
                exact jn80 0 _ _ (Or.inl rfl) hR hB _ hl
              · replace hR := ifn c32 hR
                refine lv_iconst (v := 1) hx hb dX0_bySequences_75 (by decide) ?_
                refine lv_goto (tgt := 80) hx hb dX0_bySequences_76 (by decide) ?_
                exact jn80 1 _ _ (Or.inr rfl) hR hB _ hl
      exact lp20 _ 0 0 _ _  (Nat.lt_succ_self _) hR hB _ hl
    · replace hR := ifn c2 hR
      refine lv_lconst (v := 1) hx hb dX0_bySequences_13 (by decide) ?_
      rw [← hQ]
      exact end_l hX hB hA3 rfl (by obtain rfl := hR; exact ⟨rfl, rfl⟩) (Nat.le_of_ble_eq_true rfl) (Nat.le_of_ble_eq_true rfl) dX0_bySequences_14
noncomputable def D_X0_bySequences_2_j80 (lb20 : Int32 → Int64 → Int64) (y5_20 : Int32) (y3_20 : Int64) (x26 : Int64) (x28 : Int64) (z0_80 : Int32) : Int64 := (if z0_80 = 0 then (lb20 (y5_20 + 1) (y3_20 + (x26 * x28))) else (lb20 (y5_20 + 1) (y3_20 + (-(x26 * x28)))))
theorem D_X0_bySequences_2_j80_s {lb20 : Int32 → Int64 → Int64} {y5_20 : Int32} {y3_20 : Int64} {x26 : Int64} {x28 : Int64} {z0_80 : Int32} : D_X0_bySequences_2_j80 lb20 y5_20 y3_20 x26 x28 z0_80 = (if z0_80 = 0 then (lb20 (y5_20 + 1) (y3_20 + (x26 * x28))) else (lb20 (y5_20 + 1) (y3_20 + (-(x26 * x28))))) := rfl
noncomputable def D_X0_bySequences_2_20 (r : Nat → Int32) (q : Nat → Int32) (f : Nat → Nat → Int64) (i : Nat) (p0 : Int32) (p1 : Int32) (nn : Nat) : Int32 → Int64 → Int64 := @Nat.rec (fun _ => Int32 → Int64 → Int64) (fun _ _ => default) (fun _ lb20 (y5_20 : Int32) (y3_20 : Int64) => (if (r (2 * i + 1)) ≤ y5_20 then y3_20 else (if ((p1 >>> (y5_20 &&& 31)) &&& 1) = 0 then bnd1 (D_X3_get r q f i p0 y5_20) (fun (x26 : Int64) => bnd1 (D_X0_bySequences_1 r q f i (p0 + 1) (p1 ||| (1 <<< (y5_20 &&& 31)))) (fun (x28 : Int64) => nm ((bcE (p1 >>> ((y5_20 + 1) &&& 31))) : Int32) (fun (x29 : Int32) => (if (x29 - x29 / 2 * 2) = 0 then (D_X0_bySequences_2_j80 lb20 y5_20 y3_20 x26 x28 0) else (D_X0_bySequences_2_j80 lb20 y5_20 y3_20 x26 x28 1))))) else (lb20 (y5_20 + 1) y3_20)))) nn
theorem D_X0_bySequences_2_20_s {r : Nat → Int32} {q : Nat → Int32} {f : Nat → Nat → Int64} {i : Nat} {p0 : Int32} {p1 : Int32} {nn : Nat} {y5_20 : Int32} {y3_20 : Int64} : D_X0_bySequences_2_20 r q f i p0 p1 (nn + 1) y5_20 y3_20 = (if (r (2 * i + 1)) ≤ y5_20 then y3_20 else (if ((p1 >>> (y5_20 &&& 31)) &&& 1) = 0 then bnd1 (D_X3_get r q f i p0 y5_20) (fun (x26 : Int64) => bnd1 (D_X0_bySequences_1 r q f i (p0 + 1) (p1 ||| (1 <<< (y5_20 &&& 31)))) (fun (x28 : Int64) => nm ((bcE (p1 >>> ((y5_20 + 1) &&& 31))) : Int32) (fun (x29 : Int32) => (if (x29 - x29 / 2 * 2) = 0 then (D_X0_bySequences_2_j80 (D_X0_bySequences_2_20 r q f i p0 p1 nn) y5_20 y3_20 x26 x28 0) else (D_X0_bySequences_2_j80 (D_X0_bySequences_2_20 r q f i p0 p1 nn) y5_20 y3_20 x26 x28 1))))) else ((D_X0_bySequences_2_20 r q f i p0 p1 nn) (y5_20 + 1) y3_20))) := rfl
noncomputable def D_X0_bySequences_2 (r : Nat → Int32) (q : Nat → Int32) (f : Nat → Nat → Int64) (i : Nat) (p0 : Int32) (p1 : Int32) : Int64 := (if (r (2 * i)) ≤ p0 then 1 else (if p0 < 4 then (D_X0_bySequences_2_20 r q f i p0 p1 (gap (r (2 * i + 1)) 0 + 1) 0 0) else 1))
theorem D_X0_bySequences_2_s {r : Nat → Int32} {q : Nat → Int32} {f : Nat → Nat → Int64} {i : Nat} {p0 : Int32} {p1 : Int32} : D_X0_bySequences_2 r q f i p0 p1 = (if (r (2 * i)) ≤ p0 then 1 else (if p0 < 4 then (D_X0_bySequences_2_20 r q f i p0 p1 (gap (r (2 * i + 1)) 0 + 1) 0 0) else 1)) := rfl
set_option maxHeartbeats 4000000 in
set_option maxRecDepth 100000 in
theorem k_X0_bySequences_2 (κ : Kt) (l : Launch) (a : Nat → Nat) (r q : Nat → Int32) (f : Nat → Nat → Int64) (i : Nat) (p0 : Int32) (p1 : Int32) (hi : i < 15) (hp0 : 2 ≤ p0) (o_x : Int64) (hR : D_X0_bySequences_2 r q f i p0 p1 = o_x) : CM κ l yX0_bySequences cX0_bySequences 9 (some .long) 2 56 0 0 [.ref (a (6 + 2 * i)), .int p0, .int p1] (cw κ a r q f) (fun o w' => o = some (.long o_x) ∧ w' = cw κ a r q f) := by
  refine CM_begin (plainFor_of_name (by decide)) (Nat.le_of_ble_eq_true rfl) ?_
  intro p e s m args below meth c A Q hX hnm hA3 hQ hB ls hl
  have hx := hX.1.1
  have hb := hX.1.2.1
  have hl : lv_has ls 9 [(0, .ref (a (6 + 2 * i))), (1, .int p0), (2, .int p1)] := hl
  replace hR := (D_X0_bySequences_2_s).symm.trans hR
  refine lv_iload_n hx hb dX0_bySequences_0 rfl (lv_at hl 1 rfl) ?_
  refine lv_aload_n hx hb dX0_bySequences_1 rfl (lv_at hl 0 rfl) ?_
  refine gfN hX hB (cwG (i := i) hi) rfl in3 1 (by decide) wn_1_47 rfl rfl dX0_bySequences_2 ?_
  refine lv_icmp_ge (tgt := 13) hx hb dX0_bySequences_5 (by decide) (fun c1 => ?_) (fun c1 => ?_)
  · replace hR := ifp c1 hR
    refine lv_lconst (v := 1) hx hb dX0_bySequences_13 (by decide) ?_
    rw [← hQ]
    exact end_l hX hB hA3 rfl (by obtain rfl := hR; exact ⟨rfl, rfl⟩) (Nat.le_of_ble_eq_true rfl) (Nat.le_of_ble_eq_true rfl) dX0_bySequences_14
  · replace hR := ifn c1 hR
    refine lv_iload_n hx hb dX0_bySequences_8 rfl (lv_at hl 1 rfl) ?_
    refine lv_iconst (v := 4) hx hb dX0_bySequences_9 (by decide) ?_
    refine lv_icmp_lt (tgt := 15) hx hb dX0_bySequences_10 (by decide) (fun c2 => ?_) (fun c2 => ?_)
    · replace hR := ifp c2 hR
      refine lv_lconst (v := 0) hx hb dX0_bySequences_15 (by decide) ?_
      refine lv_lstore_n (lv' := [(3, .long 0), (0, .ref (a (6 + 2 * i))), (1, .int p0), (2, .int p1)]) hx hb dX0_bySequences_16 rfl hl (by decide) rfl (fun ls hl => ?_)
      refine lv_iconst (v := 0) hx hb dX0_bySequences_17 (by decide) ?_
      refine lv_istore (lv' := [(5, .int 0), (3, .long 0), (0, .ref (a (6 + 2 * i))), (1, .int p0), (2, .int p1)]) hx hb dX0_bySequences_18 hl (by decide) rfl (fun ls hl => ?_)
      have lp20 : ∀ (nn20 : Nat) (y5_20 : Int32) (y3_20 : Int64) (H : Heap) (locs : List Loc), gap (r (2 * i + 1)) y5_20 < nn20 → D_X0_bySequences_2_20 r q f i p0 p1 nn20 y5_20 y3_20 = o_x → Bd κ A s (cw κ a r q f) H locs → ∀ ls : Array Slot, lv_has ls 9 [(5, .int y5_20), (3, .long y3_20), (0, .ref (a (6 + 2 * i))), (1, .int p0), (2, .int p1)] → W p l e (Rm 2 56 0 0) s m args below meth c H locs 0 0 Q (F0 m 20 ls []) := by
        intro nn20
        induction nn20 with
        | zero => intro y5_20 y3_20 H locs hμ; exact absurd hμ (Nat.not_lt_zero _)
        | succ nn20 ih20 =>
          intro y5_20 y3_20 H locs hμ20 hR hB ls hl
          replace hR := (D_X0_bySequences_2_20_s).symm.trans hR
          refine lv_iload hx hb dX0_bySequences_20 (lv_at hl 0 rfl) ?_
          refine lv_aload_n hx hb dX0_bySequences_22 rfl (lv_at hl 2 rfl) ?_
          refine gfN hX hB (cwG (i := i) hi) rfl in3 2 (by decide) wn_1_53 rfl rfl dX0_bySequences_23 ?_
          refine lv_icmp_ge (tgt := 104) hx hb dX0_bySequences_26 (by decide) (fun c23 => ?_) (fun c23 => ?_)
          · replace hR := ifp c23 hR
            refine lv_lload_n hx hb dX0_bySequences_104 rfl (lv_at hl 1 rfl) ?_
            rw [← hQ]
            exact end_l hX hB hA3 rfl (by obtain rfl := hR; exact ⟨rfl, rfl⟩) (Nat.le_of_ble_eq_true rfl) (Nat.le_of_ble_eq_true rfl) dX0_bySequences_105
          · replace hR := ifn c23 hR
            refine lv_iload_n hx hb dX0_bySequences_29 rfl (lv_at hl 4 rfl) ?_
            refine lv_iload hx hb dX0_bySequences_30 (lv_at hl 0 rfl) ?_
            refine lv_ishr hx hb dX0_bySequences_32 ?_
            refine lv_iconst (v := 1) hx hb dX0_bySequences_33 (by decide) ?_
            refine lv_iand hx hb dX0_bySequences_34 ?_
            refine lv_if_ne (tgt := 98) hx hb dX0_bySequences_35 (by decide) (fun c24 => ?_) (fun c24 => ?_)
            · replace hR := ifn c24 hR
              refine lv_iinc (v := y5_20 + 1) (lv' := [(5, .int (y5_20 + 1)), (3, .long y3_20), (0, .ref (a (6 + 2 * i))), (1, .int p0), (2, .int p1)]) hx hb dX0_bySequences_98 hl (k := 0) rfl rfl (by decide) rfl (fun ls hl => ?_)
              refine lv_goto (tgt := 20) hx hb dX0_bySequences_101 (by decide) ?_
              exact ih20 (y5_20 + 1) y3_20 _ _  (gap_step c23 hμ20) hR hB _ hl
            · replace hR := ifp c24 hR
              refine lv_aload_n hx hb dX0_bySequences_38 rfl (lv_at hl 2 rfl) ?_
              refine lv_iload_n hx hb dX0_bySequences_39 rfl (lv_at hl 3 rfl) ?_
              refine lv_iload hx hb dX0_bySequences_40 (lv_at hl 0 rfl) ?_
              obtain ⟨x26, hd25⟩ := ex1 (D_X3_get r q f i p0 y5_20)
              replace hR := bnd1_use hd25 hR
              refine call_V (n := 2) (As := [.int p0, .int y5_20]) (rest := []) hX hB (k_X3_get κ l a r q f i p0 y5_20 hi x26 hd25) ⟨rfl, by decide, by decide, by decide +kernel⟩ wm_1_186 wm_1_187 wm_1_188 wm_1_2 wm_1_189 ⟨Nat.le_of_ble_eq_true rfl, Nat.le_of_ble_eq_true rfl⟩ ⟨Nat.le_of_ble_eq_true rfl, Nat.le_of_ble_eq_true rfl⟩ (cwG (i := i) hi) rfl rfl rfl hl.1 rfl (Nat.le_of_ble_eq_true rfl) dX0_bySequences_42 (fun o w' H locs hp hB => ?_)
              obtain ⟨rfl, rfl⟩ := hp
              refine W.eq (g2 := F0 m 45 ls [.long x26]) rfl ?_
              refine lv_aload_n hx hb dX0_bySequences_45 rfl (lv_at hl 2 rfl) ?_
              refine lv_iload_n hx hb dX0_bySequences_46 rfl (lv_at hl 3 rfl) ?_
              refine lv_iconst (v := 1) hx hb dX0_bySequences_47 (by decide) ?_
              refine lv_iadd hx hb dX0_bySequences_48 ?_
              refine lv_iload_n hx hb dX0_bySequences_49 rfl (lv_at hl 4 rfl) ?_
              refine lv_iconst (v := 1) hx hb dX0_bySequences_50 (by decide) ?_
              refine lv_iload hx hb dX0_bySequences_51 (lv_at hl 0 rfl) ?_
              refine lv_ishl hx hb dX0_bySequences_53 ?_
              refine lv_ior hx hb dX0_bySequences_54 ?_
              obtain ⟨x28, hd27⟩ := ex1 (D_X0_bySequences_1 r q f i (p0 + 1) (p1 ||| (1 <<< (y5_20 &&& 31))))
              replace hR := bnd1_use hd27 hR
              refine call_S (n := 3) (As := [.ref (a (6 + 2 * i)), .int (p0 + 1), .int (p1 ||| (1 <<< (y5_20 &&& 31)))]) (rest := [.long x26]) hX hB (k_X0_bySequences_1 κ l a r q f i (p0 + 1) (p1 ||| (1 <<< (y5_20 &&& 31))) hi (lvup (lo := 2) (hi := 3) rfl hp0 (by assumption)) x28 hd27) ⟨by decide, by decide, by decide +kernel⟩ wm_1_193 wm_1_191 wm_1_29 wm_1_192 ⟨Nat.le_of_ble_eq_true rfl, Nat.le_of_ble_eq_true rfl⟩ ⟨Nat.le_of_ble_eq_true rfl, Nat.le_of_ble_eq_true rfl⟩ rfl hl.1 rfl (Nat.le_of_ble_eq_true rfl) dX0_bySequences_55 (fun o w' H locs hp hB => ?_)
              obtain ⟨rfl, rfl⟩ := hp
              refine W.eq (g2 := F0 m 58 ls [.long x28, .long x26]) rfl ?_
              refine lv_lmul hx hb dX0_bySequences_58 ?_
              refine lv_lstore (lv' := [(6, .long (x26 * x28)), (5, .int y5_20), (3, .long y3_20), (0, .ref (a (6 + 2 * i))), (1, .int p0), (2, .int p1)]) hx hb dX0_bySequences_59 hl (by decide) rfl (fun ls hl => ?_)
              refine lv_iload_n hx hb dX0_bySequences_61 rfl (lv_at hl 5 rfl) ?_
              refine lv_iload hx hb dX0_bySequences_62 (lv_at hl 1 rfl) ?_
              refine lv_iconst (v := 1) hx hb dX0_bySequences_64 (by decide) ?_
              refine lv_iadd hx hb dX0_bySequences_65 ?_
              refine lv_ishr hx hb dX0_bySequences_66 ?_
              refine call_S (n := 1) (As := [.int (p1 >>> ((y5_20 + 1) &&& 31))]) (rest := []) hX hB (k_J6_bitCount_0f7a4 κ l (cw κ a r q f) (p1 >>> ((y5_20 + 1) &&& 31)) ) ⟨by decide, by decide, by decide +kernel⟩ wm_1_194 wm_1_195 wm_1_26 wm_1_196 ⟨Nat.le_of_ble_eq_true rfl, Nat.le_of_ble_eq_true rfl⟩ ⟨Nat.le_of_ble_eq_true rfl, Nat.le_of_ble_eq_true rfl⟩ rfl hl.1 rfl (Nat.le_of_ble_eq_true rfl) dX0_bySequences_67 (fun o w' H locs hp hB => ?_)
              obtain ⟨x29, rfl, ex29, hw9⟩ := hp
              replace hR := nm_use ex29 hR
              rw [hw9] at hB
              refine W.eq (g2 := F0 m 70 ls [.int x29]) rfl ?_
              refine lv_iconst (v := 2) hx hb dX0_bySequences_70 (by decide) ?_
              refine lv_irem hx hb dX0_bySequences_71 (by decide) ?_
              have jn80 : ∀ (z0_80 : Int32) (H : Heap) (locs : List Loc), (z0_80 = 0 ∨ z0_80 = 1) → D_X0_bySequences_2_j80 (D_X0_bySequences_2_20 r q f i p0 p1 nn20) y5_20 y3_20 x26 x28 z0_80 = o_x → Bd κ A s (cw κ a r q f) H locs → ∀ ls : Array Slot, lv_has ls 9 [(6, .long (x26 * x28)), (5, .int y5_20), (3, .long y3_20), (0, .ref (a (6 + 2 * i))), (1, .int p0), (2, .int p1)] → W p l e (Rm 2 56 0 0) s m args below meth c H locs 0 0 Q (F0 m 80 ls [.int z0_80]) := by
                intro z0_80 H locs hz0_80 hR hB ls hl
                replace hR := (D_X0_bySequences_2_j80_s).symm.trans hR
                refine lv_istore (lv' := [(8, .int z0_80), (6, .long (x26 * x28)), (5, .int y5_20), (3, .long y3_20), (0, .ref (a (6 + 2 * i))), (1, .int p0), (2, .int p1)]) hx hb dX0_bySequences_80 hl (by decide) rfl (fun ls hl => ?_)
                refine lv_lload_n hx hb dX0_bySequences_82 rfl (lv_at hl 3 rfl) ?_
                refine lv_iload hx hb dX0_bySequences_83 (lv_at hl 0 rfl) ?_
                refine lv_if_eq (tgt := 94) hx hb dX0_bySequences_85 (by decide) (fun c31 => ?_) (fun c31 => ?_)
                · replace hR := ifp c31 hR
                  refine lv_lload hx hb dX0_bySequences_94 (lv_at hl 1 rfl) ?_
                  refine lv_ladd hx hb dX0_bySequences_96 ?_
                  refine lv_lstore_n (lv' := [(3, .long (y3_20 + (x26 * x28))), (8, .int z0_80), (6, .long (x26 * x28)), (5, .int y5_20), (0, .ref (a (6 + 2 * i))), (1, .int p0), (2, .int p1)]) hx hb dX0_bySequences_97 rfl hl (by decide) rfl (fun ls hl => ?_)
                  refine lv_iinc (v := y5_20 + 1) (lv' := [(5, .int (y5_20 + 1)), (3, .long (y3_20 + (x26 * x28))), (8, .int z0_80), (6, .long (x26 * x28)), (0, .ref (a (6 + 2 * i))), (1, .int p0), (2, .int p1)]) hx hb dX0_bySequences_98 hl (k := 3) rfl rfl (by decide) rfl (fun ls hl => ?_)
                  refine lv_goto (tgt := 20) hx hb dX0_bySequences_101 (by decide) ?_
                  exact ih20 (y5_20 + 1) (y3_20 + (x26 * x28)) _ _  (gap_step c23 hμ20) hR hB _ (lv_sub hl [0, 1, 4, 5, 6] rfl)
                · replace hR := ifn c31 hR
                  refine lv_lload hx hb dX0_bySequences_88 (lv_at hl 1 rfl) ?_
                  refine lv_lneg hx hb dX0_bySequences_90 ?_
                  refine lv_goto (tgt := 96) hx hb dX0_bySequences_91 (by decide) ?_
                  refine lv_ladd hx hb dX0_bySequences_96 ?_
                  refine lv_lstore_n (lv' := [(3, .long (y3_20 + (-(x26 * x28)))), (8, .int z0_80), (6, .long (x26 * x28)), (5, .int y5_20), (0, .ref (a (6 + 2 * i))), (1, .int p0), (2, .int p1)]) hx hb dX0_bySequences_97 rfl hl (by decide) rfl (fun ls hl => ?_)
                  refine lv_iinc (v := y5_20 + 1) (lv' := [(5, .int (y5_20 + 1)), (3, .long (y3_20 + (-(x26 * x28)))), (8, .int z0_80), (6, .long (x26 * x28)), (0, .ref (a (6 + 2 * i))), (1, .int p0), (2, .int p1)]) hx hb dX0_bySequences_98 hl (k := 3) rfl rfl (by decide) rfl (fun ls hl => ?_)
                  refine lv_goto (tgt := 20) hx hb dX0_bySequences_101 (by decide) ?_
                  exact ih20 (y5_20 + 1) (y3_20 + (-(x26 * x28))) _ _  (gap_step c23 hμ20) hR hB _ (lv_sub hl [0, 1, 4, 5, 6] rfl)
              refine lv_if_eq (tgt := 79) hx hb dX0_bySequences_72 (by decide) (fun c32 => ?_) (fun c32 => ?_)
              · replace hR := ifp c32 hR
                refine lv_iconst (v := 0) hx hb dX0_bySequences_79 (by decide) ?_
                exact jn80 0 _ _ (Or.inl rfl) hR hB _ hl
              · replace hR := ifn c32 hR
                refine lv_iconst (v := 1) hx hb dX0_bySequences_75 (by decide) ?_
                refine lv_goto (tgt := 80) hx hb dX0_bySequences_76 (by decide) ?_
                exact jn80 1 _ _ (Or.inr rfl) hR hB _ hl
      exact lp20 _ 0 0 _ _  (Nat.lt_succ_self _) hR hB _ hl
    · replace hR := ifn c2 hR
      refine lv_lconst (v := 1) hx hb dX0_bySequences_13 (by decide) ?_
      rw [← hQ]
      exact end_l hX hB hA3 rfl (by obtain rfl := hR; exact ⟨rfl, rfl⟩) (Nat.le_of_ble_eq_true rfl) (Nat.le_of_ble_eq_true rfl) dX0_bySequences_14
noncomputable def D_X0_bySequences_3_j80 (lb20 : Int32 → Int64 → Int64) (y5_20 : Int32) (y3_20 : Int64) (x26 : Int64) (x28 : Int64) (z0_80 : Int32) : Int64 := (if z0_80 = 0 then (lb20 (y5_20 + 1) (y3_20 + (x26 * x28))) else (lb20 (y5_20 + 1) (y3_20 + (-(x26 * x28)))))
theorem D_X0_bySequences_3_j80_s {lb20 : Int32 → Int64 → Int64} {y5_20 : Int32} {y3_20 : Int64} {x26 : Int64} {x28 : Int64} {z0_80 : Int32} : D_X0_bySequences_3_j80 lb20 y5_20 y3_20 x26 x28 z0_80 = (if z0_80 = 0 then (lb20 (y5_20 + 1) (y3_20 + (x26 * x28))) else (lb20 (y5_20 + 1) (y3_20 + (-(x26 * x28))))) := rfl
noncomputable def D_X0_bySequences_3_20 (r : Nat → Int32) (q : Nat → Int32) (f : Nat → Nat → Int64) (i : Nat) (p0 : Int32) (p1 : Int32) (nn : Nat) : Int32 → Int64 → Int64 := @Nat.rec (fun _ => Int32 → Int64 → Int64) (fun _ _ => default) (fun _ lb20 (y5_20 : Int32) (y3_20 : Int64) => (if (r (2 * i + 1)) ≤ y5_20 then y3_20 else (if ((p1 >>> (y5_20 &&& 31)) &&& 1) = 0 then bnd1 (D_X3_get r q f i p0 y5_20) (fun (x26 : Int64) => bnd1 (D_X0_bySequences_2 r q f i (p0 + 1) (p1 ||| (1 <<< (y5_20 &&& 31)))) (fun (x28 : Int64) => nm ((bcE (p1 >>> ((y5_20 + 1) &&& 31))) : Int32) (fun (x29 : Int32) => (if (x29 - x29 / 2 * 2) = 0 then (D_X0_bySequences_3_j80 lb20 y5_20 y3_20 x26 x28 0) else (D_X0_bySequences_3_j80 lb20 y5_20 y3_20 x26 x28 1))))) else (lb20 (y5_20 + 1) y3_20)))) nn
theorem D_X0_bySequences_3_20_s {r : Nat → Int32} {q : Nat → Int32} {f : Nat → Nat → Int64} {i : Nat} {p0 : Int32} {p1 : Int32} {nn : Nat} {y5_20 : Int32} {y3_20 : Int64} : D_X0_bySequences_3_20 r q f i p0 p1 (nn + 1) y5_20 y3_20 = (if (r (2 * i + 1)) ≤ y5_20 then y3_20 else (if ((p1 >>> (y5_20 &&& 31)) &&& 1) = 0 then bnd1 (D_X3_get r q f i p0 y5_20) (fun (x26 : Int64) => bnd1 (D_X0_bySequences_2 r q f i (p0 + 1) (p1 ||| (1 <<< (y5_20 &&& 31)))) (fun (x28 : Int64) => nm ((bcE (p1 >>> ((y5_20 + 1) &&& 31))) : Int32) (fun (x29 : Int32) => (if (x29 - x29 / 2 * 2) = 0 then (D_X0_bySequences_3_j80 (D_X0_bySequences_3_20 r q f i p0 p1 nn) y5_20 y3_20 x26 x28 0) else (D_X0_bySequences_3_j80 (D_X0_bySequences_3_20 r q f i p0 p1 nn) y5_20 y3_20 x26 x28 1))))) else ((D_X0_bySequences_3_20 r q f i p0 p1 nn) (y5_20 + 1) y3_20))) := rfl
noncomputable def D_X0_bySequences_3 (r : Nat → Int32) (q : Nat → Int32) (f : Nat → Nat → Int64) (i : Nat) (p0 : Int32) (p1 : Int32) : Int64 := (if (r (2 * i)) ≤ p0 then 1 else (if p0 < 4 then (D_X0_bySequences_3_20 r q f i p0 p1 (gap (r (2 * i + 1)) 0 + 1) 0 0) else 1))
theorem D_X0_bySequences_3_s {r : Nat → Int32} {q : Nat → Int32} {f : Nat → Nat → Int64} {i : Nat} {p0 : Int32} {p1 : Int32} : D_X0_bySequences_3 r q f i p0 p1 = (if (r (2 * i)) ≤ p0 then 1 else (if p0 < 4 then (D_X0_bySequences_3_20 r q f i p0 p1 (gap (r (2 * i + 1)) 0 + 1) 0 0) else 1)) := rfl
set_option maxHeartbeats 4000000 in
set_option maxRecDepth 100000 in
theorem k_X0_bySequences_3 (κ : Kt) (l : Launch) (a : Nat → Nat) (r q : Nat → Int32) (f : Nat → Nat → Int64) (i : Nat) (p0 : Int32) (p1 : Int32) (hi : i < 15) (hp0 : 1 ≤ p0) (o_x : Int64) (hR : D_X0_bySequences_3 r q f i p0 p1 = o_x) : CM κ l yX0_bySequences cX0_bySequences 9 (some .long) 3 84 0 0 [.ref (a (6 + 2 * i)), .int p0, .int p1] (cw κ a r q f) (fun o w' => o = some (.long o_x) ∧ w' = cw κ a r q f) := by
  refine CM_begin (plainFor_of_name (by decide)) (Nat.le_of_ble_eq_true rfl) ?_
  intro p e s m args below meth c A Q hX hnm hA3 hQ hB ls hl
  have hx := hX.1.1
  have hb := hX.1.2.1
  have hl : lv_has ls 9 [(0, .ref (a (6 + 2 * i))), (1, .int p0), (2, .int p1)] := hl
  replace hR := (D_X0_bySequences_3_s).symm.trans hR
  refine lv_iload_n hx hb dX0_bySequences_0 rfl (lv_at hl 1 rfl) ?_
  refine lv_aload_n hx hb dX0_bySequences_1 rfl (lv_at hl 0 rfl) ?_
  refine gfN hX hB (cwG (i := i) hi) rfl in3 1 (by decide) wn_1_47 rfl rfl dX0_bySequences_2 ?_
  refine lv_icmp_ge (tgt := 13) hx hb dX0_bySequences_5 (by decide) (fun c1 => ?_) (fun c1 => ?_)
  · replace hR := ifp c1 hR
    refine lv_lconst (v := 1) hx hb dX0_bySequences_13 (by decide) ?_
    rw [← hQ]
    exact end_l hX hB hA3 rfl (by obtain rfl := hR; exact ⟨rfl, rfl⟩) (Nat.le_of_ble_eq_true rfl) (Nat.le_of_ble_eq_true rfl) dX0_bySequences_14
  · replace hR := ifn c1 hR
    refine lv_iload_n hx hb dX0_bySequences_8 rfl (lv_at hl 1 rfl) ?_
    refine lv_iconst (v := 4) hx hb dX0_bySequences_9 (by decide) ?_
    refine lv_icmp_lt (tgt := 15) hx hb dX0_bySequences_10 (by decide) (fun c2 => ?_) (fun c2 => ?_)
    · replace hR := ifp c2 hR
      refine lv_lconst (v := 0) hx hb dX0_bySequences_15 (by decide) ?_
      refine lv_lstore_n (lv' := [(3, .long 0), (0, .ref (a (6 + 2 * i))), (1, .int p0), (2, .int p1)]) hx hb dX0_bySequences_16 rfl hl (by decide) rfl (fun ls hl => ?_)
      refine lv_iconst (v := 0) hx hb dX0_bySequences_17 (by decide) ?_
      refine lv_istore (lv' := [(5, .int 0), (3, .long 0), (0, .ref (a (6 + 2 * i))), (1, .int p0), (2, .int p1)]) hx hb dX0_bySequences_18 hl (by decide) rfl (fun ls hl => ?_)
      have lp20 : ∀ (nn20 : Nat) (y5_20 : Int32) (y3_20 : Int64) (H : Heap) (locs : List Loc), gap (r (2 * i + 1)) y5_20 < nn20 → D_X0_bySequences_3_20 r q f i p0 p1 nn20 y5_20 y3_20 = o_x → Bd κ A s (cw κ a r q f) H locs → ∀ ls : Array Slot, lv_has ls 9 [(5, .int y5_20), (3, .long y3_20), (0, .ref (a (6 + 2 * i))), (1, .int p0), (2, .int p1)] → W p l e (Rm 3 84 0 0) s m args below meth c H locs 0 0 Q (F0 m 20 ls []) := by
        intro nn20
        induction nn20 with
        | zero => intro y5_20 y3_20 H locs hμ; exact absurd hμ (Nat.not_lt_zero _)
        | succ nn20 ih20 =>
          intro y5_20 y3_20 H locs hμ20 hR hB ls hl
          replace hR := (D_X0_bySequences_3_20_s).symm.trans hR
          refine lv_iload hx hb dX0_bySequences_20 (lv_at hl 0 rfl) ?_
          refine lv_aload_n hx hb dX0_bySequences_22 rfl (lv_at hl 2 rfl) ?_
          refine gfN hX hB (cwG (i := i) hi) rfl in3 2 (by decide) wn_1_53 rfl rfl dX0_bySequences_23 ?_
          refine lv_icmp_ge (tgt := 104) hx hb dX0_bySequences_26 (by decide) (fun c23 => ?_) (fun c23 => ?_)
          · replace hR := ifp c23 hR
            refine lv_lload_n hx hb dX0_bySequences_104 rfl (lv_at hl 1 rfl) ?_
            rw [← hQ]
            exact end_l hX hB hA3 rfl (by obtain rfl := hR; exact ⟨rfl, rfl⟩) (Nat.le_of_ble_eq_true rfl) (Nat.le_of_ble_eq_true rfl) dX0_bySequences_105
          · replace hR := ifn c23 hR
            refine lv_iload_n hx hb dX0_bySequences_29 rfl (lv_at hl 4 rfl) ?_
            refine lv_iload hx hb dX0_bySequences_30 (lv_at hl 0 rfl) ?_
            refine lv_ishr hx hb dX0_bySequences_32 ?_
            refine lv_iconst (v := 1) hx hb dX0_bySequences_33 (by decide) ?_
            refine lv_iand hx hb dX0_bySequences_34 ?_
            refine lv_if_ne (tgt := 98) hx hb dX0_bySequences_35 (by decide) (fun c24 => ?_) (fun c24 => ?_)
            · replace hR := ifn c24 hR
              refine lv_iinc (v := y5_20 + 1) (lv' := [(5, .int (y5_20 + 1)), (3, .long y3_20), (0, .ref (a (6 + 2 * i))), (1, .int p0), (2, .int p1)]) hx hb dX0_bySequences_98 hl (k := 0) rfl rfl (by decide) rfl (fun ls hl => ?_)
              refine lv_goto (tgt := 20) hx hb dX0_bySequences_101 (by decide) ?_
              exact ih20 (y5_20 + 1) y3_20 _ _  (gap_step c23 hμ20) hR hB _ hl
            · replace hR := ifp c24 hR
              refine lv_aload_n hx hb dX0_bySequences_38 rfl (lv_at hl 2 rfl) ?_
              refine lv_iload_n hx hb dX0_bySequences_39 rfl (lv_at hl 3 rfl) ?_
              refine lv_iload hx hb dX0_bySequences_40 (lv_at hl 0 rfl) ?_
              obtain ⟨x26, hd25⟩ := ex1 (D_X3_get r q f i p0 y5_20)
              replace hR := bnd1_use hd25 hR
              refine call_V (n := 2) (As := [.int p0, .int y5_20]) (rest := []) hX hB (k_X3_get κ l a r q f i p0 y5_20 hi x26 hd25) ⟨rfl, by decide, by decide, by decide +kernel⟩ wm_1_186 wm_1_187 wm_1_188 wm_1_2 wm_1_189 ⟨Nat.le_of_ble_eq_true rfl, Nat.le_of_ble_eq_true rfl⟩ ⟨Nat.le_of_ble_eq_true rfl, Nat.le_of_ble_eq_true rfl⟩ (cwG (i := i) hi) rfl rfl rfl hl.1 rfl (Nat.le_of_ble_eq_true rfl) dX0_bySequences_42 (fun o w' H locs hp hB => ?_)
              obtain ⟨rfl, rfl⟩ := hp
              refine W.eq (g2 := F0 m 45 ls [.long x26]) rfl ?_
              refine lv_aload_n hx hb dX0_bySequences_45 rfl (lv_at hl 2 rfl) ?_
              refine lv_iload_n hx hb dX0_bySequences_46 rfl (lv_at hl 3 rfl) ?_
              refine lv_iconst (v := 1) hx hb dX0_bySequences_47 (by decide) ?_
              refine lv_iadd hx hb dX0_bySequences_48 ?_
              refine lv_iload_n hx hb dX0_bySequences_49 rfl (lv_at hl 4 rfl) ?_
              refine lv_iconst (v := 1) hx hb dX0_bySequences_50 (by decide) ?_
              refine lv_iload hx hb dX0_bySequences_51 (lv_at hl 0 rfl) ?_
              refine lv_ishl hx hb dX0_bySequences_53 ?_
              refine lv_ior hx hb dX0_bySequences_54 ?_
              obtain ⟨x28, hd27⟩ := ex1 (D_X0_bySequences_2 r q f i (p0 + 1) (p1 ||| (1 <<< (y5_20 &&& 31))))
              replace hR := bnd1_use hd27 hR
              refine call_S (n := 3) (As := [.ref (a (6 + 2 * i)), .int (p0 + 1), .int (p1 ||| (1 <<< (y5_20 &&& 31)))]) (rest := [.long x26]) hX hB (k_X0_bySequences_2 κ l a r q f i (p0 + 1) (p1 ||| (1 <<< (y5_20 &&& 31))) hi (lvup (lo := 1) (hi := 2) rfl hp0 (by assumption)) x28 hd27) ⟨by decide, by decide, by decide +kernel⟩ wm_1_193 wm_1_191 wm_1_29 wm_1_192 ⟨Nat.le_of_ble_eq_true rfl, Nat.le_of_ble_eq_true rfl⟩ ⟨Nat.le_of_ble_eq_true rfl, Nat.le_of_ble_eq_true rfl⟩ rfl hl.1 rfl (Nat.le_of_ble_eq_true rfl) dX0_bySequences_55 (fun o w' H locs hp hB => ?_)
              obtain ⟨rfl, rfl⟩ := hp
              refine W.eq (g2 := F0 m 58 ls [.long x28, .long x26]) rfl ?_
              refine lv_lmul hx hb dX0_bySequences_58 ?_
              refine lv_lstore (lv' := [(6, .long (x26 * x28)), (5, .int y5_20), (3, .long y3_20), (0, .ref (a (6 + 2 * i))), (1, .int p0), (2, .int p1)]) hx hb dX0_bySequences_59 hl (by decide) rfl (fun ls hl => ?_)
              refine lv_iload_n hx hb dX0_bySequences_61 rfl (lv_at hl 5 rfl) ?_
              refine lv_iload hx hb dX0_bySequences_62 (lv_at hl 1 rfl) ?_
              refine lv_iconst (v := 1) hx hb dX0_bySequences_64 (by decide) ?_
              refine lv_iadd hx hb dX0_bySequences_65 ?_
              refine lv_ishr hx hb dX0_bySequences_66 ?_
              refine call_S (n := 1) (As := [.int (p1 >>> ((y5_20 + 1) &&& 31))]) (rest := []) hX hB (k_J6_bitCount_0f7a4 κ l (cw κ a r q f) (p1 >>> ((y5_20 + 1) &&& 31)) ) ⟨by decide, by decide, by decide +kernel⟩ wm_1_194 wm_1_195 wm_1_26 wm_1_196 ⟨Nat.le_of_ble_eq_true rfl, Nat.le_of_ble_eq_true rfl⟩ ⟨Nat.le_of_ble_eq_true rfl, Nat.le_of_ble_eq_true rfl⟩ rfl hl.1 rfl (Nat.le_of_ble_eq_true rfl) dX0_bySequences_67 (fun o w' H locs hp hB => ?_)
              obtain ⟨x29, rfl, ex29, hw9⟩ := hp
              replace hR := nm_use ex29 hR
              rw [hw9] at hB
              refine W.eq (g2 := F0 m 70 ls [.int x29]) rfl ?_
              refine lv_iconst (v := 2) hx hb dX0_bySequences_70 (by decide) ?_
              refine lv_irem hx hb dX0_bySequences_71 (by decide) ?_
              have jn80 : ∀ (z0_80 : Int32) (H : Heap) (locs : List Loc), (z0_80 = 0 ∨ z0_80 = 1) → D_X0_bySequences_3_j80 (D_X0_bySequences_3_20 r q f i p0 p1 nn20) y5_20 y3_20 x26 x28 z0_80 = o_x → Bd κ A s (cw κ a r q f) H locs → ∀ ls : Array Slot, lv_has ls 9 [(6, .long (x26 * x28)), (5, .int y5_20), (3, .long y3_20), (0, .ref (a (6 + 2 * i))), (1, .int p0), (2, .int p1)] → W p l e (Rm 3 84 0 0) s m args below meth c H locs 0 0 Q (F0 m 80 ls [.int z0_80]) := by
                intro z0_80 H locs hz0_80 hR hB ls hl
                replace hR := (D_X0_bySequences_3_j80_s).symm.trans hR
                refine lv_istore (lv' := [(8, .int z0_80), (6, .long (x26 * x28)), (5, .int y5_20), (3, .long y3_20), (0, .ref (a (6 + 2 * i))), (1, .int p0), (2, .int p1)]) hx hb dX0_bySequences_80 hl (by decide) rfl (fun ls hl => ?_)
                refine lv_lload_n hx hb dX0_bySequences_82 rfl (lv_at hl 3 rfl) ?_
                refine lv_iload hx hb dX0_bySequences_83 (lv_at hl 0 rfl) ?_
                refine lv_if_eq (tgt := 94) hx hb dX0_bySequences_85 (by decide) (fun c31 => ?_) (fun c31 => ?_)
                · replace hR := ifp c31 hR
                  refine lv_lload hx hb dX0_bySequences_94 (lv_at hl 1 rfl) ?_
                  refine lv_ladd hx hb dX0_bySequences_96 ?_
                  refine lv_lstore_n (lv' := [(3, .long (y3_20 + (x26 * x28))), (8, .int z0_80), (6, .long (x26 * x28)), (5, .int y5_20), (0, .ref (a (6 + 2 * i))), (1, .int p0), (2, .int p1)]) hx hb dX0_bySequences_97 rfl hl (by decide) rfl (fun ls hl => ?_)
                  refine lv_iinc (v := y5_20 + 1) (lv' := [(5, .int (y5_20 + 1)), (3, .long (y3_20 + (x26 * x28))), (8, .int z0_80), (6, .long (x26 * x28)), (0, .ref (a (6 + 2 * i))), (1, .int p0), (2, .int p1)]) hx hb dX0_bySequences_98 hl (k := 3) rfl rfl (by decide) rfl (fun ls hl => ?_)
                  refine lv_goto (tgt := 20) hx hb dX0_bySequences_101 (by decide) ?_
                  exact ih20 (y5_20 + 1) (y3_20 + (x26 * x28)) _ _  (gap_step c23 hμ20) hR hB _ (lv_sub hl [0, 1, 4, 5, 6] rfl)
                · replace hR := ifn c31 hR
                  refine lv_lload hx hb dX0_bySequences_88 (lv_at hl 1 rfl) ?_
                  refine lv_lneg hx hb dX0_bySequences_90 ?_
                  refine lv_goto (tgt := 96) hx hb dX0_bySequences_91 (by decide) ?_
                  refine lv_ladd hx hb dX0_bySequences_96 ?_
                  refine lv_lstore_n (lv' := [(3, .long (y3_20 + (-(x26 * x28)))), (8, .int z0_80), (6, .long (x26 * x28)), (5, .int y5_20), (0, .ref (a (6 + 2 * i))), (1, .int p0), (2, .int p1)]) hx hb dX0_bySequences_97 rfl hl (by decide) rfl (fun ls hl => ?_)
                  refine lv_iinc (v := y5_20 + 1) (lv' := [(5, .int (y5_20 + 1)), (3, .long (y3_20 + (-(x26 * x28)))), (8, .int z0_80), (6, .long (x26 * x28)), (0, .ref (a (6 + 2 * i))), (1, .int p0), (2, .int p1)]) hx hb dX0_bySequences_98 hl (k := 3) rfl rfl (by decide) rfl (fun ls hl => ?_)
                  refine lv_goto (tgt := 20) hx hb dX0_bySequences_101 (by decide) ?_
                  exact ih20 (y5_20 + 1) (y3_20 + (-(x26 * x28))) _ _  (gap_step c23 hμ20) hR hB _ (lv_sub hl [0, 1, 4, 5, 6] rfl)
              refine lv_if_eq (tgt := 79) hx hb dX0_bySequences_72 (by decide) (fun c32 => ?_) (fun c32 => ?_)
              · replace hR := ifp c32 hR
                refine lv_iconst (v := 0) hx hb dX0_bySequences_79 (by decide) ?_
                exact jn80 0 _ _ (Or.inl rfl) hR hB _ hl
              · replace hR := ifn c32 hR
                refine lv_iconst (v := 1) hx hb dX0_bySequences_75 (by decide) ?_
                refine lv_goto (tgt := 80) hx hb dX0_bySequences_76 (by decide) ?_
                exact jn80 1 _ _ (Or.inr rfl) hR hB _ hl
      exact lp20 _ 0 0 _ _  (Nat.lt_succ_self _) hR hB _ hl
    · replace hR := ifn c2 hR
      refine lv_lconst (v := 1) hx hb dX0_bySequences_13 (by decide) ?_
      rw [← hQ]
      exact end_l hX hB hA3 rfl (by obtain rfl := hR; exact ⟨rfl, rfl⟩) (Nat.le_of_ble_eq_true rfl) (Nat.le_of_ble_eq_true rfl) dX0_bySequences_14
noncomputable def D_X0_bySequences_4_j80 (lb20 : Int32 → Int64 → Int64) (y5_20 : Int32) (y3_20 : Int64) (x26 : Int64) (x28 : Int64) (z0_80 : Int32) : Int64 := (if z0_80 = 0 then (lb20 (y5_20 + 1) (y3_20 + (x26 * x28))) else (lb20 (y5_20 + 1) (y3_20 + (-(x26 * x28)))))
theorem D_X0_bySequences_4_j80_s {lb20 : Int32 → Int64 → Int64} {y5_20 : Int32} {y3_20 : Int64} {x26 : Int64} {x28 : Int64} {z0_80 : Int32} : D_X0_bySequences_4_j80 lb20 y5_20 y3_20 x26 x28 z0_80 = (if z0_80 = 0 then (lb20 (y5_20 + 1) (y3_20 + (x26 * x28))) else (lb20 (y5_20 + 1) (y3_20 + (-(x26 * x28))))) := rfl
noncomputable def D_X0_bySequences_4_20 (r : Nat → Int32) (q : Nat → Int32) (f : Nat → Nat → Int64) (i : Nat) (p0 : Int32) (p1 : Int32) (nn : Nat) : Int32 → Int64 → Int64 := @Nat.rec (fun _ => Int32 → Int64 → Int64) (fun _ _ => default) (fun _ lb20 (y5_20 : Int32) (y3_20 : Int64) => (if (r (2 * i + 1)) ≤ y5_20 then y3_20 else (if ((p1 >>> (y5_20 &&& 31)) &&& 1) = 0 then bnd1 (D_X3_get r q f i p0 y5_20) (fun (x26 : Int64) => bnd1 (D_X0_bySequences_3 r q f i (p0 + 1) (p1 ||| (1 <<< (y5_20 &&& 31)))) (fun (x28 : Int64) => nm ((bcE (p1 >>> ((y5_20 + 1) &&& 31))) : Int32) (fun (x29 : Int32) => (if (x29 - x29 / 2 * 2) = 0 then (D_X0_bySequences_4_j80 lb20 y5_20 y3_20 x26 x28 0) else (D_X0_bySequences_4_j80 lb20 y5_20 y3_20 x26 x28 1))))) else (lb20 (y5_20 + 1) y3_20)))) nn
theorem D_X0_bySequences_4_20_s {r : Nat → Int32} {q : Nat → Int32} {f : Nat → Nat → Int64} {i : Nat} {p0 : Int32} {p1 : Int32} {nn : Nat} {y5_20 : Int32} {y3_20 : Int64} : D_X0_bySequences_4_20 r q f i p0 p1 (nn + 1) y5_20 y3_20 = (if (r (2 * i + 1)) ≤ y5_20 then y3_20 else (if ((p1 >>> (y5_20 &&& 31)) &&& 1) = 0 then bnd1 (D_X3_get r q f i p0 y5_20) (fun (x26 : Int64) => bnd1 (D_X0_bySequences_3 r q f i (p0 + 1) (p1 ||| (1 <<< (y5_20 &&& 31)))) (fun (x28 : Int64) => nm ((bcE (p1 >>> ((y5_20 + 1) &&& 31))) : Int32) (fun (x29 : Int32) => (if (x29 - x29 / 2 * 2) = 0 then (D_X0_bySequences_4_j80 (D_X0_bySequences_4_20 r q f i p0 p1 nn) y5_20 y3_20 x26 x28 0) else (D_X0_bySequences_4_j80 (D_X0_bySequences_4_20 r q f i p0 p1 nn) y5_20 y3_20 x26 x28 1))))) else ((D_X0_bySequences_4_20 r q f i p0 p1 nn) (y5_20 + 1) y3_20))) := rfl
noncomputable def D_X0_bySequences_4 (r : Nat → Int32) (q : Nat → Int32) (f : Nat → Nat → Int64) (i : Nat) (p0 : Int32) (p1 : Int32) : Int64 := (if (r (2 * i)) ≤ p0 then 1 else (if p0 < 4 then (D_X0_bySequences_4_20 r q f i p0 p1 (gap (r (2 * i + 1)) 0 + 1) 0 0) else 1))
theorem D_X0_bySequences_4_s {r : Nat → Int32} {q : Nat → Int32} {f : Nat → Nat → Int64} {i : Nat} {p0 : Int32} {p1 : Int32} : D_X0_bySequences_4 r q f i p0 p1 = (if (r (2 * i)) ≤ p0 then 1 else (if p0 < 4 then (D_X0_bySequences_4_20 r q f i p0 p1 (gap (r (2 * i + 1)) 0 + 1) 0 0) else 1)) := rfl
set_option maxHeartbeats 4000000 in
set_option maxRecDepth 100000 in
theorem k_X0_bySequences_4 (κ : Kt) (l : Launch) (a : Nat → Nat) (r q : Nat → Int32) (f : Nat → Nat → Int64) (i : Nat) (p0 : Int32) (p1 : Int32) (hi : i < 15) (hp0 : 0 ≤ p0) (o_x : Int64) (hR : D_X0_bySequences_4 r q f i p0 p1 = o_x) : CM κ l yX0_bySequences cX0_bySequences 9 (some .long) 4 112 0 0 [.ref (a (6 + 2 * i)), .int p0, .int p1] (cw κ a r q f) (fun o w' => o = some (.long o_x) ∧ w' = cw κ a r q f) := by
  refine CM_begin (plainFor_of_name (by decide)) (Nat.le_of_ble_eq_true rfl) ?_
  intro p e s m args below meth c A Q hX hnm hA3 hQ hB ls hl
  have hx := hX.1.1
  have hb := hX.1.2.1
  have hl : lv_has ls 9 [(0, .ref (a (6 + 2 * i))), (1, .int p0), (2, .int p1)] := hl
  replace hR := (D_X0_bySequences_4_s).symm.trans hR
  refine lv_iload_n hx hb dX0_bySequences_0 rfl (lv_at hl 1 rfl) ?_
  refine lv_aload_n hx hb dX0_bySequences_1 rfl (lv_at hl 0 rfl) ?_
  refine gfN hX hB (cwG (i := i) hi) rfl in3 1 (by decide) wn_1_47 rfl rfl dX0_bySequences_2 ?_
  refine lv_icmp_ge (tgt := 13) hx hb dX0_bySequences_5 (by decide) (fun c1 => ?_) (fun c1 => ?_)
  · replace hR := ifp c1 hR
    refine lv_lconst (v := 1) hx hb dX0_bySequences_13 (by decide) ?_
    rw [← hQ]
    exact end_l hX hB hA3 rfl (by obtain rfl := hR; exact ⟨rfl, rfl⟩) (Nat.le_of_ble_eq_true rfl) (Nat.le_of_ble_eq_true rfl) dX0_bySequences_14
  · replace hR := ifn c1 hR
    refine lv_iload_n hx hb dX0_bySequences_8 rfl (lv_at hl 1 rfl) ?_
    refine lv_iconst (v := 4) hx hb dX0_bySequences_9 (by decide) ?_
    refine lv_icmp_lt (tgt := 15) hx hb dX0_bySequences_10 (by decide) (fun c2 => ?_) (fun c2 => ?_)
    · replace hR := ifp c2 hR
      refine lv_lconst (v := 0) hx hb dX0_bySequences_15 (by decide) ?_
      refine lv_lstore_n (lv' := [(3, .long 0), (0, .ref (a (6 + 2 * i))), (1, .int p0), (2, .int p1)]) hx hb dX0_bySequences_16 rfl hl (by decide) rfl (fun ls hl => ?_)
      refine lv_iconst (v := 0) hx hb dX0_bySequences_17 (by decide) ?_
      refine lv_istore (lv' := [(5, .int 0), (3, .long 0), (0, .ref (a (6 + 2 * i))), (1, .int p0), (2, .int p1)]) hx hb dX0_bySequences_18 hl (by decide) rfl (fun ls hl => ?_)
      have lp20 : ∀ (nn20 : Nat) (y5_20 : Int32) (y3_20 : Int64) (H : Heap) (locs : List Loc), gap (r (2 * i + 1)) y5_20 < nn20 → D_X0_bySequences_4_20 r q f i p0 p1 nn20 y5_20 y3_20 = o_x → Bd κ A s (cw κ a r q f) H locs → ∀ ls : Array Slot, lv_has ls 9 [(5, .int y5_20), (3, .long y3_20), (0, .ref (a (6 + 2 * i))), (1, .int p0), (2, .int p1)] → W p l e (Rm 4 112 0 0) s m args below meth c H locs 0 0 Q (F0 m 20 ls []) := by
        intro nn20
        induction nn20 with
        | zero => intro y5_20 y3_20 H locs hμ; exact absurd hμ (Nat.not_lt_zero _)
        | succ nn20 ih20 =>
          intro y5_20 y3_20 H locs hμ20 hR hB ls hl
          replace hR := (D_X0_bySequences_4_20_s).symm.trans hR
          refine lv_iload hx hb dX0_bySequences_20 (lv_at hl 0 rfl) ?_
          refine lv_aload_n hx hb dX0_bySequences_22 rfl (lv_at hl 2 rfl) ?_
          refine gfN hX hB (cwG (i := i) hi) rfl in3 2 (by decide) wn_1_53 rfl rfl dX0_bySequences_23 ?_
          refine lv_icmp_ge (tgt := 104) hx hb dX0_bySequences_26 (by decide) (fun c23 => ?_) (fun c23 => ?_)
          · replace hR := ifp c23 hR
            refine lv_lload_n hx hb dX0_bySequences_104 rfl (lv_at hl 1 rfl) ?_
            rw [← hQ]
            exact end_l hX hB hA3 rfl (by obtain rfl := hR; exact ⟨rfl, rfl⟩) (Nat.le_of_ble_eq_true rfl) (Nat.le_of_ble_eq_true rfl) dX0_bySequences_105
          · replace hR := ifn c23 hR
            refine lv_iload_n hx hb dX0_bySequences_29 rfl (lv_at hl 4 rfl) ?_
            refine lv_iload hx hb dX0_bySequences_30 (lv_at hl 0 rfl) ?_
            refine lv_ishr hx hb dX0_bySequences_32 ?_
            refine lv_iconst (v := 1) hx hb dX0_bySequences_33 (by decide) ?_
            refine lv_iand hx hb dX0_bySequences_34 ?_
            refine lv_if_ne (tgt := 98) hx hb dX0_bySequences_35 (by decide) (fun c24 => ?_) (fun c24 => ?_)
            · replace hR := ifn c24 hR
              refine lv_iinc (v := y5_20 + 1) (lv' := [(5, .int (y5_20 + 1)), (3, .long y3_20), (0, .ref (a (6 + 2 * i))), (1, .int p0), (2, .int p1)]) hx hb dX0_bySequences_98 hl (k := 0) rfl rfl (by decide) rfl (fun ls hl => ?_)
              refine lv_goto (tgt := 20) hx hb dX0_bySequences_101 (by decide) ?_
              exact ih20 (y5_20 + 1) y3_20 _ _  (gap_step c23 hμ20) hR hB _ hl
            · replace hR := ifp c24 hR
              refine lv_aload_n hx hb dX0_bySequences_38 rfl (lv_at hl 2 rfl) ?_
              refine lv_iload_n hx hb dX0_bySequences_39 rfl (lv_at hl 3 rfl) ?_
              refine lv_iload hx hb dX0_bySequences_40 (lv_at hl 0 rfl) ?_
              obtain ⟨x26, hd25⟩ := ex1 (D_X3_get r q f i p0 y5_20)
              replace hR := bnd1_use hd25 hR
              refine call_V (n := 2) (As := [.int p0, .int y5_20]) (rest := []) hX hB (k_X3_get κ l a r q f i p0 y5_20 hi x26 hd25) ⟨rfl, by decide, by decide, by decide +kernel⟩ wm_1_186 wm_1_187 wm_1_188 wm_1_2 wm_1_189 ⟨Nat.le_of_ble_eq_true rfl, Nat.le_of_ble_eq_true rfl⟩ ⟨Nat.le_of_ble_eq_true rfl, Nat.le_of_ble_eq_true rfl⟩ (cwG (i := i) hi) rfl rfl rfl hl.1 rfl (Nat.le_of_ble_eq_true rfl) dX0_bySequences_42 (fun o w' H locs hp hB => ?_)
              obtain ⟨rfl, rfl⟩ := hp
              refine W.eq (g2 := F0 m 45 ls [.long x26]) rfl ?_
              refine lv_aload_n hx hb dX0_bySequences_45 rfl (lv_at hl 2 rfl) ?_
              refine lv_iload_n hx hb dX0_bySequences_46 rfl (lv_at hl 3 rfl) ?_
              refine lv_iconst (v := 1) hx hb dX0_bySequences_47 (by decide) ?_
              refine lv_iadd hx hb dX0_bySequences_48 ?_
              refine lv_iload_n hx hb dX0_bySequences_49 rfl (lv_at hl 4 rfl) ?_
              refine lv_iconst (v := 1) hx hb dX0_bySequences_50 (by decide) ?_
              refine lv_iload hx hb dX0_bySequences_51 (lv_at hl 0 rfl) ?_
              refine lv_ishl hx hb dX0_bySequences_53 ?_
              refine lv_ior hx hb dX0_bySequences_54 ?_
              obtain ⟨x28, hd27⟩ := ex1 (D_X0_bySequences_3 r q f i (p0 + 1) (p1 ||| (1 <<< (y5_20 &&& 31))))
              replace hR := bnd1_use hd27 hR
              refine call_S (n := 3) (As := [.ref (a (6 + 2 * i)), .int (p0 + 1), .int (p1 ||| (1 <<< (y5_20 &&& 31)))]) (rest := [.long x26]) hX hB (k_X0_bySequences_3 κ l a r q f i (p0 + 1) (p1 ||| (1 <<< (y5_20 &&& 31))) hi (lvup (lo := 0) (hi := 1) rfl hp0 (by assumption)) x28 hd27) ⟨by decide, by decide, by decide +kernel⟩ wm_1_193 wm_1_191 wm_1_29 wm_1_192 ⟨Nat.le_of_ble_eq_true rfl, Nat.le_of_ble_eq_true rfl⟩ ⟨Nat.le_of_ble_eq_true rfl, Nat.le_of_ble_eq_true rfl⟩ rfl hl.1 rfl (Nat.le_of_ble_eq_true rfl) dX0_bySequences_55 (fun o w' H locs hp hB => ?_)
              obtain ⟨rfl, rfl⟩ := hp
              refine W.eq (g2 := F0 m 58 ls [.long x28, .long x26]) rfl ?_
              refine lv_lmul hx hb dX0_bySequences_58 ?_
              refine lv_lstore (lv' := [(6, .long (x26 * x28)), (5, .int y5_20), (3, .long y3_20), (0, .ref (a (6 + 2 * i))), (1, .int p0), (2, .int p1)]) hx hb dX0_bySequences_59 hl (by decide) rfl (fun ls hl => ?_)
              refine lv_iload_n hx hb dX0_bySequences_61 rfl (lv_at hl 5 rfl) ?_
              refine lv_iload hx hb dX0_bySequences_62 (lv_at hl 1 rfl) ?_
              refine lv_iconst (v := 1) hx hb dX0_bySequences_64 (by decide) ?_
              refine lv_iadd hx hb dX0_bySequences_65 ?_
              refine lv_ishr hx hb dX0_bySequences_66 ?_
              refine call_S (n := 1) (As := [.int (p1 >>> ((y5_20 + 1) &&& 31))]) (rest := []) hX hB (k_J6_bitCount_0f7a4 κ l (cw κ a r q f) (p1 >>> ((y5_20 + 1) &&& 31)) ) ⟨by decide, by decide, by decide +kernel⟩ wm_1_194 wm_1_195 wm_1_26 wm_1_196 ⟨Nat.le_of_ble_eq_true rfl, Nat.le_of_ble_eq_true rfl⟩ ⟨Nat.le_of_ble_eq_true rfl, Nat.le_of_ble_eq_true rfl⟩ rfl hl.1 rfl (Nat.le_of_ble_eq_true rfl) dX0_bySequences_67 (fun o w' H locs hp hB => ?_)
              obtain ⟨x29, rfl, ex29, hw9⟩ := hp
              replace hR := nm_use ex29 hR
              rw [hw9] at hB
              refine W.eq (g2 := F0 m 70 ls [.int x29]) rfl ?_
              refine lv_iconst (v := 2) hx hb dX0_bySequences_70 (by decide) ?_
              refine lv_irem hx hb dX0_bySequences_71 (by decide) ?_
              have jn80 : ∀ (z0_80 : Int32) (H : Heap) (locs : List Loc), (z0_80 = 0 ∨ z0_80 = 1) → D_X0_bySequences_4_j80 (D_X0_bySequences_4_20 r q f i p0 p1 nn20) y5_20 y3_20 x26 x28 z0_80 = o_x → Bd κ A s (cw κ a r q f) H locs → ∀ ls : Array Slot, lv_has ls 9 [(6, .long (x26 * x28)), (5, .int y5_20), (3, .long y3_20), (0, .ref (a (6 + 2 * i))), (1, .int p0), (2, .int p1)] → W p l e (Rm 4 112 0 0) s m args below meth c H locs 0 0 Q (F0 m 80 ls [.int z0_80]) := by
                intro z0_80 H locs hz0_80 hR hB ls hl
                replace hR := (D_X0_bySequences_4_j80_s).symm.trans hR
                refine lv_istore (lv' := [(8, .int z0_80), (6, .long (x26 * x28)), (5, .int y5_20), (3, .long y3_20), (0, .ref (a (6 + 2 * i))), (1, .int p0), (2, .int p1)]) hx hb dX0_bySequences_80 hl (by decide) rfl (fun ls hl => ?_)
                refine lv_lload_n hx hb dX0_bySequences_82 rfl (lv_at hl 3 rfl) ?_
                refine lv_iload hx hb dX0_bySequences_83 (lv_at hl 0 rfl) ?_
                refine lv_if_eq (tgt := 94) hx hb dX0_bySequences_85 (by decide) (fun c31 => ?_) (fun c31 => ?_)
                · replace hR := ifp c31 hR
                  refine lv_lload hx hb dX0_bySequences_94 (lv_at hl 1 rfl) ?_
                  refine lv_ladd hx hb dX0_bySequences_96 ?_
                  refine lv_lstore_n (lv' := [(3, .long (y3_20 + (x26 * x28))), (8, .int z0_80), (6, .long (x26 * x28)), (5, .int y5_20), (0, .ref (a (6 + 2 * i))), (1, .int p0), (2, .int p1)]) hx hb dX0_bySequences_97 rfl hl (by decide) rfl (fun ls hl => ?_)
                  refine lv_iinc (v := y5_20 + 1) (lv' := [(5, .int (y5_20 + 1)), (3, .long (y3_20 + (x26 * x28))), (8, .int z0_80), (6, .long (x26 * x28)), (0, .ref (a (6 + 2 * i))), (1, .int p0), (2, .int p1)]) hx hb dX0_bySequences_98 hl (k := 3) rfl rfl (by decide) rfl (fun ls hl => ?_)
                  refine lv_goto (tgt := 20) hx hb dX0_bySequences_101 (by decide) ?_
                  exact ih20 (y5_20 + 1) (y3_20 + (x26 * x28)) _ _  (gap_step c23 hμ20) hR hB _ (lv_sub hl [0, 1, 4, 5, 6] rfl)
                · replace hR := ifn c31 hR
                  refine lv_lload hx hb dX0_bySequences_88 (lv_at hl 1 rfl) ?_
                  refine lv_lneg hx hb dX0_bySequences_90 ?_
                  refine lv_goto (tgt := 96) hx hb dX0_bySequences_91 (by decide) ?_
                  refine lv_ladd hx hb dX0_bySequences_96 ?_
                  refine lv_lstore_n (lv' := [(3, .long (y3_20 + (-(x26 * x28)))), (8, .int z0_80), (6, .long (x26 * x28)), (5, .int y5_20), (0, .ref (a (6 + 2 * i))), (1, .int p0), (2, .int p1)]) hx hb dX0_bySequences_97 rfl hl (by decide) rfl (fun ls hl => ?_)
                  refine lv_iinc (v := y5_20 + 1) (lv' := [(5, .int (y5_20 + 1)), (3, .long (y3_20 + (-(x26 * x28)))), (8, .int z0_80), (6, .long (x26 * x28)), (0, .ref (a (6 + 2 * i))), (1, .int p0), (2, .int p1)]) hx hb dX0_bySequences_98 hl (k := 3) rfl rfl (by decide) rfl (fun ls hl => ?_)
                  refine lv_goto (tgt := 20) hx hb dX0_bySequences_101 (by decide) ?_
                  exact ih20 (y5_20 + 1) (y3_20 + (-(x26 * x28))) _ _  (gap_step c23 hμ20) hR hB _ (lv_sub hl [0, 1, 4, 5, 6] rfl)
              refine lv_if_eq (tgt := 79) hx hb dX0_bySequences_72 (by decide) (fun c32 => ?_) (fun c32 => ?_)
              · replace hR := ifp c32 hR
                refine lv_iconst (v := 0) hx hb dX0_bySequences_79 (by decide) ?_
                exact jn80 0 _ _ (Or.inl rfl) hR hB _ hl
              · replace hR := ifn c32 hR
                refine lv_iconst (v := 1) hx hb dX0_bySequences_75 (by decide) ?_
                refine lv_goto (tgt := 80) hx hb dX0_bySequences_76 (by decide) ?_
                exact jn80 1 _ _ (Or.inr rfl) hR hB _ hl
      exact lp20 _ 0 0 _ _  (Nat.lt_succ_self _) hR hB _ hl
    · replace hR := ifn c2 hR
      refine lv_lconst (v := 1) hx hb dX0_bySequences_13 (by decide) ?_
      rw [← hQ]
      exact end_l hX hB hA3 rfl (by obtain rfl := hR; exact ⟨rfl, rfl⟩) (Nat.le_of_ble_eq_true rfl) (Nat.le_of_ble_eq_true rfl) dX0_bySequences_14
noncomputable def D_X0_byFirstRow (r : Nat → Int32) (q : Nat → Int32) (f : Nat → Nat → Int64) (i : Nat) : Int64 := bnd1 (D_X0_ofRest_4 r q f i ((1 <<< ((r (2 * i)) &&& 31)) - 1) ((1 <<< ((r (2 * i + 1)) &&& 31)) - 1) 0) (fun (x2 : Int64) => x2)
theorem D_X0_byFirstRow_s {r : Nat → Int32} {q : Nat → Int32} {f : Nat → Nat → Int64} {i : Nat} : D_X0_byFirstRow r q f i = bnd1 (D_X0_ofRest_4 r q f i ((1 <<< ((r (2 * i)) &&& 31)) - 1) ((1 <<< ((r (2 * i + 1)) &&& 31)) - 1) 0) (fun (x2 : Int64) => x2) := rfl
set_option maxHeartbeats 4000000 in
set_option maxRecDepth 100000 in
theorem k_X0_byFirstRow (κ : Kt) (l : Launch) (a : Nat → Nat) (r q : Nat → Int32) (f : Nat → Nat → Int64) (i : Nat) (hi : i < 15) (o_x : Int64) (hR : D_X0_byFirstRow r q f i = o_x) : CM κ l yX0_byFirstRow cX0_byFirstRow 1 (some .long) 5 145 0 0 [.ref (a (6 + 2 * i))] (cw κ a r q f) (fun o w' => o = some (.long o_x) ∧ w' = cw κ a r q f) := by
  refine CM_begin (plainFor_of_name (by decide)) (Nat.le_of_ble_eq_true rfl) ?_
  intro p e s m args below meth c A Q hX hnm hA3 hQ hB ls hl
  have hx := hX.1.1
  have hb := hX.1.2.1
  have hl : lv_has ls 1 [(0, .ref (a (6 + 2 * i)))] := hl
  replace hR := (D_X0_byFirstRow_s).symm.trans hR
  refine lv_aload_n hx hb dX0_byFirstRow_0 rfl (lv_at hl 0 rfl) ?_
  refine lv_iconst (v := 1) hx hb dX0_byFirstRow_1 (by decide) ?_
  refine lv_aload_n hx hb dX0_byFirstRow_2 rfl (lv_at hl 0 rfl) ?_
  refine gfN hX hB (cwG (i := i) hi) rfl in3 1 (by decide) wn_1_47 rfl rfl dX0_byFirstRow_3 ?_
  refine lv_ishl hx hb dX0_byFirstRow_6 ?_
  refine lv_iconst (v := 1) hx hb dX0_byFirstRow_7 (by decide) ?_
  refine lv_isub hx hb dX0_byFirstRow_8 ?_
  refine lv_iconst (v := 1) hx hb dX0_byFirstRow_9 (by decide) ?_
  refine lv_aload_n hx hb dX0_byFirstRow_10 rfl (lv_at hl 0 rfl) ?_
  refine gfN hX hB (cwG (i := i) hi) rfl in3 2 (by decide) wn_1_53 rfl rfl dX0_byFirstRow_11 ?_
  refine lv_ishl hx hb dX0_byFirstRow_14 ?_
  refine lv_iconst (v := 1) hx hb dX0_byFirstRow_15 (by decide) ?_
  refine lv_isub hx hb dX0_byFirstRow_16 ?_
  refine lv_iconst (v := 0) hx hb dX0_byFirstRow_17 (by decide) ?_
  obtain ⟨x2, hd1⟩ := ex1 (D_X0_ofRest_4 r q f i ((1 <<< ((r (2 * i)) &&& 31)) - 1) ((1 <<< ((r (2 * i + 1)) &&& 31)) - 1) 0)
  replace hR := bnd1_use hd1 hR
  refine call_S (n := 4) (As := [.ref (a (6 + 2 * i)), .int ((1 <<< ((r (2 * i)) &&& 31)) - 1), .int ((1 <<< ((r (2 * i + 1)) &&& 31)) - 1), .int 0]) (rest := []) hX hB (k_X0_ofRest_4 κ l a r q f i ((1 <<< ((r (2 * i)) &&& 31)) - 1) ((1 <<< ((r (2 * i + 1)) &&& 31)) - 1) 0 hi (by decide) x2 hd1) ⟨by decide, by decide, by decide +kernel⟩ wm_1_183 wm_1_184 wm_1_29 wm_1_185 ⟨Nat.le_of_ble_eq_true rfl, Nat.le_of_ble_eq_true rfl⟩ ⟨Nat.le_of_ble_eq_true rfl, Nat.le_of_ble_eq_true rfl⟩ rfl hl.1 rfl (Nat.le_of_ble_eq_true rfl) dX0_byFirstRow_18 (fun o w' H locs hp hB => ?_)
  obtain ⟨rfl, rfl⟩ := hp
  refine W.eq (g2 := F0 m 21 ls [.long x2]) rfl ?_
  rw [← hQ]
  exact end_l hX hB hA3 rfl (by obtain rfl := hR; exact ⟨rfl, rfl⟩) (Nat.le_of_ble_eq_true rfl) (Nat.le_of_ble_eq_true rfl) dX0_byFirstRow_21
noncomputable def D_X0_findDivisor_35 (r : Nat → Int32) (q : Nat → Int32) (f : Nat → Nat → Int64) (i : Nat) (p0 : Int32) (lb5 : Int32 → Int64 → Int64) (y4_5 : Int32) (nn : Nat) : Int32 → Int64 → Int64 := @Nat.rec (fun _ => Int32 → Int64 → Int64) (fun _ _ => default) (fun _ lb35 (y6_35 : Int32) (y2_35 : Int64) => (if (0 : Int32) = 0 then (lb5 (y4_5 + 1) y2_35) else (if (1 <<< ((r (2 * i + 1)) &&& 31)) ≤ y6_35 then (lb5 (y4_5 + 1) y2_35) else nm ((bcE y6_35) : Int32) (fun (x124 : Int32) => (if x124 = p0 then bnd1 (D_X0_ofRest_4 r q f i y4_5 y6_35 0) (fun (x127 : Int64) => bnd1 (D_X5_greatestCommonDivisor y2_35 x127) (fun (x128 : Int64) => (lb35 (y6_35 + 1) x128))) else (lb35 (y6_35 + 1) y2_35)))))) nn
theorem D_X0_findDivisor_35_s {r : Nat → Int32} {q : Nat → Int32} {f : Nat → Nat → Int64} {i : Nat} {p0 : Int32} {lb5 : Int32 → Int64 → Int64} {y4_5 : Int32} {nn : Nat} {y6_35 : Int32} {y2_35 : Int64} : D_X0_findDivisor_35 r q f i p0 lb5 y4_5 (nn + 1) y6_35 y2_35 = (if (0 : Int32) = 0 then (lb5 (y4_5 + 1) y2_35) else (if (1 <<< ((r (2 * i + 1)) &&& 31)) ≤ y6_35 then (lb5 (y4_5 + 1) y2_35) else nm ((bcE y6_35) : Int32) (fun (x124 : Int32) => (if x124 = p0 then bnd1 (D_X0_ofRest_4 r q f i y4_5 y6_35 0) (fun (x127 : Int64) => bnd1 (D_X5_greatestCommonDivisor y2_35 x127) (fun (x128 : Int64) => ((D_X0_findDivisor_35 r q f i p0 lb5 y4_5 nn) (y6_35 + 1) x128))) else ((D_X0_findDivisor_35 r q f i p0 lb5 y4_5 nn) (y6_35 + 1) y2_35))))) := rfl
noncomputable def D_X0_findDivisor_35_1 (r : Nat → Int32) (q : Nat → Int32) (f : Nat → Nat → Int64) (i : Nat) (p0 : Int32) (lb5 : Int32 → Int64 → Int64) (y4_5 : Int32) (nn : Nat) : Int32 → Int64 → Int64 := @Nat.rec (fun _ => Int32 → Int64 → Int64) (fun _ _ => default) (fun _ lb35 (y6_35 : Int32) (y2_35 : Int64) => (if (1 : Int32) = 0 then (lb5 (y4_5 + 1) y2_35) else (if (1 <<< ((r (2 * i + 1)) &&& 31)) ≤ y6_35 then (lb5 (y4_5 + 1) y2_35) else nm ((bcE y6_35) : Int32) (fun (x148 : Int32) => (if x148 = p0 then bnd1 (D_X0_ofRest_4 r q f i y4_5 y6_35 0) (fun (x151 : Int64) => bnd1 (D_X5_greatestCommonDivisor y2_35 x151) (fun (x152 : Int64) => (lb35 (y6_35 + 1) x152))) else (lb35 (y6_35 + 1) y2_35)))))) nn
theorem D_X0_findDivisor_35_1_s {r : Nat → Int32} {q : Nat → Int32} {f : Nat → Nat → Int64} {i : Nat} {p0 : Int32} {lb5 : Int32 → Int64 → Int64} {y4_5 : Int32} {nn : Nat} {y6_35 : Int32} {y2_35 : Int64} : D_X0_findDivisor_35_1 r q f i p0 lb5 y4_5 (nn + 1) y6_35 y2_35 = (if (1 : Int32) = 0 then (lb5 (y4_5 + 1) y2_35) else (if (1 <<< ((r (2 * i + 1)) &&& 31)) ≤ y6_35 then (lb5 (y4_5 + 1) y2_35) else nm ((bcE y6_35) : Int32) (fun (x148 : Int32) => (if x148 = p0 then bnd1 (D_X0_ofRest_4 r q f i y4_5 y6_35 0) (fun (x151 : Int64) => bnd1 (D_X5_greatestCommonDivisor y2_35 x151) (fun (x152 : Int64) => ((D_X0_findDivisor_35_1 r q f i p0 lb5 y4_5 nn) (y6_35 + 1) x152))) else ((D_X0_findDivisor_35_1 r q f i p0 lb5 y4_5 nn) (y6_35 + 1) y2_35))))) := rfl
noncomputable def D_X0_findDivisor_5 (r : Nat → Int32) (q : Nat → Int32) (f : Nat → Nat → Int64) (i : Nat) (p0 : Int32) (nn : Nat) : Int32 → Int64 → Int64 := @Nat.rec (fun _ => Int32 → Int64 → Int64) (fun _ _ => default) (fun _ lb5 (y4_5 : Int32) (y2_5 : Int64) => (if (1 <<< ((r (2 * i)) &&& 31)) ≤ y4_5 then y2_5 else nm ((bcE y4_5) : Int32) (fun (x104 : Int32) => (if x104 = p0 then (D_X0_findDivisor_35_1 r q f i p0 lb5 y4_5 (gap (1 <<< ((r (2 * i + 1)) &&& 31)) 0 + 1) 0 y2_5) else (D_X0_findDivisor_35 r q f i p0 lb5 y4_5 (gap (1 <<< ((r (2 * i + 1)) &&& 31)) 0 + 1) 0 y2_5))))) nn
theorem D_X0_findDivisor_5_s {r : Nat → Int32} {q : Nat → Int32} {f : Nat → Nat → Int64} {i : Nat} {p0 : Int32} {nn : Nat} {y4_5 : Int32} {y2_5 : Int64} : D_X0_findDivisor_5 r q f i p0 (nn + 1) y4_5 y2_5 = (if (1 <<< ((r (2 * i)) &&& 31)) ≤ y4_5 then y2_5 else nm ((bcE y4_5) : Int32) (fun (x104 : Int32) => (if x104 = p0 then (D_X0_findDivisor_35_1 r q f i p0 (D_X0_findDivisor_5 r q f i p0 nn) y4_5 (gap (1 <<< ((r (2 * i + 1)) &&& 31)) 0 + 1) 0 y2_5) else (D_X0_findDivisor_35 r q f i p0 (D_X0_findDivisor_5 r q f i p0 nn) y4_5 (gap (1 <<< ((r (2 * i + 1)) &&& 31)) 0 + 1) 0 y2_5)))) := rfl
noncomputable def D_X0_findDivisor (r : Nat → Int32) (q : Nat → Int32) (f : Nat → Nat → Int64) (i : Nat) (p0 : Int32) : Int64 := (D_X0_findDivisor_5 r q f i p0 (gap (1 <<< ((r (2 * i)) &&& 31)) 0 + 1) 0 0)
theorem D_X0_findDivisor_s {r : Nat → Int32} {q : Nat → Int32} {f : Nat → Nat → Int64} {i : Nat} {p0 : Int32} : D_X0_findDivisor r q f i p0 = (D_X0_findDivisor_5 r q f i p0 (gap (1 <<< ((r (2 * i)) &&& 31)) 0 + 1) 0 0) := rfl
set_option maxHeartbeats 4000000 in
set_option maxRecDepth 100000 in
theorem k_X0_findDivisor (κ : Kt) (l : Launch) (a : Nat → Nat) (r q : Nat → Int32) (f : Nat → Nat → Int64) (i : Nat) (p0 : Int32) (hi : i < 15) (o_x : Int64) (hR : D_X0_findDivisor r q f i p0 = o_x) : CM κ l yX0_findDivisor cX0_findDivisor 7 (some .long) 5 145 0 0 [.ref (a (6 + 2 * i)), .int p0] (cw κ a r q f) (fun o w' => o = some (.long o_x) ∧ w' = cw κ a r q f) := by
  refine CM_begin (plainFor_of_name (by decide)) (Nat.le_of_ble_eq_true rfl) ?_
  intro p e s m args below meth c A Q hX hnm hA3 hQ hB ls hl
  have hx := hX.1.1
  have hb := hX.1.2.1
  have hl : lv_has ls 7 [(0, .ref (a (6 + 2 * i))), (1, .int p0)] := hl
  replace hR := (D_X0_findDivisor_s).symm.trans hR
  refine lv_lconst (v := 0) hx hb dX0_findDivisor_0 (by decide) ?_
  refine lv_lstore_n (lv' := [(2, .long 0), (0, .ref (a (6 + 2 * i))), (1, .int p0)]) hx hb dX0_findDivisor_1 rfl hl (by decide) rfl (fun ls hl => ?_)
  refine lv_iconst (v := 0) hx hb dX0_findDivisor_2 (by decide) ?_
  refine lv_istore (lv' := [(4, .int 0), (2, .long 0), (0, .ref (a (6 + 2 * i))), (1, .int p0)]) hx hb dX0_findDivisor_3 hl (by decide) rfl (fun ls hl => ?_)
  have lp5 : ∀ (nn5 : Nat) (y4_5 : Int32) (y2_5 : Int64) (H : Heap) (locs : List Loc), gap (1 <<< ((r (2 * i)) &&& 31)) y4_5 < nn5 → D_X0_findDivisor_5 r q f i p0 nn5 y4_5 y2_5 = o_x → Bd κ A s (cw κ a r q f) H locs → ∀ ls : Array Slot, lv_has ls 7 [(4, .int y4_5), (2, .long y2_5), (0, .ref (a (6 + 2 * i))), (1, .int p0)] → W p l e (Rm 5 145 0 0) s m args below meth c H locs 0 0 Q (F0 m 5 ls []) := by
    intro nn5
    induction nn5 with
    | zero => intro y4_5 y2_5 H locs hμ; exact absurd hμ (Nat.not_lt_zero _)
    | succ nn5 ih5 =>
      intro y4_5 y2_5 H locs hμ5 hR hB ls hl
      replace hR := (D_X0_findDivisor_5_s).symm.trans hR
      refine lv_iload hx hb dX0_findDivisor_5 (lv_at hl 0 rfl) ?_
      refine lv_iconst (v := 1) hx hb dX0_findDivisor_7 (by decide) ?_
      refine lv_aload_n hx hb dX0_findDivisor_8 rfl (lv_at hl 2 rfl) ?_
      refine gfN hX hB (cwG (i := i) hi) rfl in3 1 (by decide) wn_1_47 rfl rfl dX0_findDivisor_9 ?_
      refine lv_ishl hx hb dX0_findDivisor_12 ?_
      refine lv_icmp_ge (tgt := 86) hx hb dX0_findDivisor_13 (by decide) (fun c103 => ?_) (fun c103 => ?_)
      · replace hR := ifp c103 hR
        refine lv_lload_n hx hb dX0_findDivisor_86 rfl (lv_at hl 1 rfl) ?_
        rw [← hQ]
        exact end_l hX hB hA3 rfl (by obtain rfl := hR; exact ⟨rfl, rfl⟩) (Nat.le_of_ble_eq_true rfl) (Nat.le_of_ble_eq_true rfl) dX0_findDivisor_87
      · replace hR := ifn c103 hR
        refine lv_iload hx hb dX0_findDivisor_16 (lv_at hl 0 rfl) ?_
        refine call_S (n := 1) (As := [.int y4_5]) (rest := []) hX hB (k_J6_bitCount_0f7a4 κ l (cw κ a r q f) y4_5 ) ⟨by decide, by decide, by decide +kernel⟩ wm_1_194 wm_1_195 wm_1_26 wm_1_196 ⟨Nat.le_of_ble_eq_true rfl, Nat.le_of_ble_eq_true rfl⟩ ⟨Nat.le_of_ble_eq_true rfl, Nat.le_of_ble_eq_true rfl⟩ rfl hl.1 rfl (Nat.le_of_ble_eq_true rfl) dX0_findDivisor_18 (fun o w' H locs hp hB => ?_)
        obtain ⟨x104, rfl, ex104, hw9⟩ := hp
        replace hR := nm_use ex104 hR
        rw [hw9] at hB
        refine W.eq (g2 := F0 m 21 ls [.int x104]) rfl ?_
        refine lv_iload_n hx hb dX0_findDivisor_21 rfl (lv_at hl 3 rfl) ?_
        refine lv_icmp_ne (tgt := 29) hx hb dX0_findDivisor_22 (by decide) (fun c105 => ?_) (fun c105 => ?_)
        · replace hR := ifn c105 hR
          refine lv_iconst (v := 0) hx hb dX0_findDivisor_29 (by decide) ?_
          refine lv_istore (lv' := [(5, .int 0), (4, .int y4_5), (2, .long y2_5), (0, .ref (a (6 + 2 * i))), (1, .int p0)]) hx hb dX0_findDivisor_30 hl (by decide) rfl (fun ls hl => ?_)
          refine lv_iconst (v := 0) hx hb dX0_findDivisor_32 (by decide) ?_
          refine lv_istore (lv' := [(6, .int 0), (5, .int 0), (4, .int y4_5), (2, .long y2_5), (0, .ref (a (6 + 2 * i))), (1, .int p0)]) hx hb dX0_findDivisor_33 hl (by decide) rfl (fun ls hl => ?_)
          have lp35 : ∀ (nn35 : Nat) (y6_35 : Int32) (y2_35 : Int64) (H : Heap) (locs : List Loc), gap (1 <<< ((r (2 * i + 1)) &&& 31)) y6_35 < nn35 → D_X0_findDivisor_35 r q f i p0 (D_X0_findDivisor_5 r q f i p0 nn5) y4_5 nn35 y6_35 y2_35 = o_x → Bd κ A s (cw κ a r q f) H locs → ∀ ls : Array Slot, lv_has ls 7 [(6, .int y6_35), (5, .int 0), (4, .int y4_5), (2, .long y2_35), (0, .ref (a (6 + 2 * i))), (1, .int p0)] → W p l e (Rm 5 145 0 0) s m args below meth c H locs 0 0 Q (F0 m 35 ls []) := by
            intro nn35
            induction nn35 with
            | zero => intro y6_35 y2_35 H locs hμ; exact absurd hμ (Nat.not_lt_zero _)
            | succ nn35 ih35 =>
              intro y6_35 y2_35 H locs hμ35 hR hB ls hl
              replace hR := (D_X0_findDivisor_35_s).symm.trans hR
              refine lv_iload hx hb dX0_findDivisor_35 (lv_at hl 1 rfl) ?_
              refine lv_if_eq (tgt := 80) hx hb dX0_findDivisor_37 (by decide) (fun c122 => ?_) (fun c122 => ?_)
              · replace hR := ifp c122 hR
                refine lv_iinc (v := y4_5 + 1) (lv' := [(4, .int (y4_5 + 1)), (6, .int y6_35), (5, .int 0), (2, .long y2_35), (0, .ref (a (6 + 2 * i))), (1, .int p0)]) hx hb dX0_findDivisor_80 hl (k := 2) rfl rfl (by decide) rfl (fun ls hl => ?_)
                refine lv_goto (tgt := 5) hx hb dX0_findDivisor_83 (by decide) ?_
                exact ih5 (y4_5 + 1) y2_35 _ _  (gap_step c103 hμ5) hR hB _ (lv_sub hl [0, 3, 4, 5] rfl)
              · replace hR := ifn c122 hR
                refine lv_iload hx hb dX0_findDivisor_40 (lv_at hl 0 rfl) ?_
                refine lv_iconst (v := 1) hx hb dX0_findDivisor_42 (by decide) ?_
                refine lv_aload_n hx hb dX0_findDivisor_43 rfl (lv_at hl 4 rfl) ?_
                refine gfN hX hB (cwG (i := i) hi) rfl in3 2 (by decide) wn_1_53 rfl rfl dX0_findDivisor_44 ?_
                refine lv_ishl hx hb dX0_findDivisor_47 ?_
                refine lv_icmp_ge (tgt := 80) hx hb dX0_findDivisor_48 (by decide) (fun c123 => ?_) (fun c123 => ?_)
                · replace hR := ifp c123 hR
                  refine lv_iinc (v := y4_5 + 1) (lv' := [(4, .int (y4_5 + 1)), (6, .int y6_35), (5, .int 0), (2, .long y2_35), (0, .ref (a (6 + 2 * i))), (1, .int p0)]) hx hb dX0_findDivisor_80 hl (k := 2) rfl rfl (by decide) rfl (fun ls hl => ?_)
                  refine lv_goto (tgt := 5) hx hb dX0_findDivisor_83 (by decide) ?_
                  exact ih5 (y4_5 + 1) y2_35 _ _  (gap_step c103 hμ5) hR hB _ (lv_sub hl [0, 3, 4, 5] rfl)
                · replace hR := ifn c123 hR
                  refine lv_iload hx hb dX0_findDivisor_51 (lv_at hl 0 rfl) ?_
                  refine call_S (n := 1) (As := [.int y6_35]) (rest := []) hX hB (k_J6_bitCount_0f7a4 κ l (cw κ a r q f) y6_35 ) ⟨by decide, by decide, by decide +kernel⟩ wm_1_194 wm_1_195 wm_1_26 wm_1_196 ⟨Nat.le_of_ble_eq_true rfl, Nat.le_of_ble_eq_true rfl⟩ ⟨Nat.le_of_ble_eq_true rfl, Nat.le_of_ble_eq_true rfl⟩ rfl hl.1 rfl (Nat.le_of_ble_eq_true rfl) dX0_findDivisor_53 (fun o w' H locs hp hB => ?_)
                  obtain ⟨x124, rfl, ex124, hw9⟩ := hp
                  replace hR := nm_use ex124 hR
                  rw [hw9] at hB
                  refine W.eq (g2 := F0 m 56 ls [.int x124]) rfl ?_
                  refine lv_iload_n hx hb dX0_findDivisor_56 rfl (lv_at hl 5 rfl) ?_
                  refine lv_icmp_ne (tgt := 74) hx hb dX0_findDivisor_57 (by decide) (fun c125 => ?_) (fun c125 => ?_)
                  · replace hR := ifn c125 hR
                    refine lv_iinc (v := y6_35 + 1) (lv' := [(6, .int (y6_35 + 1)), (5, .int 0), (4, .int y4_5), (2, .long y2_35), (0, .ref (a (6 + 2 * i))), (1, .int p0)]) hx hb dX0_findDivisor_74 hl (k := 0) rfl rfl (by decide) rfl (fun ls hl => ?_)
                    refine lv_goto (tgt := 35) hx hb dX0_findDivisor_77 (by decide) ?_
                    exact ih35 (y6_35 + 1) y2_35 _ _  (gap_step c123 hμ35) hR hB _ hl
                  · replace hR := ifp c125 hR
                    refine lv_lload_n hx hb dX0_findDivisor_60 rfl (lv_at hl 3 rfl) ?_
                    refine lv_aload_n hx hb dX0_findDivisor_61 rfl (lv_at hl 4 rfl) ?_
                    refine lv_iload hx hb dX0_findDivisor_62 (lv_at hl 2 rfl) ?_
                    refine lv_iload hx hb dX0_findDivisor_64 (lv_at hl 0 rfl) ?_
                    refine lv_iconst (v := 0) hx hb dX0_findDivisor_66 (by decide) ?_
                    obtain ⟨x127, hd126⟩ := ex1 (D_X0_ofRest_4 r q f i y4_5 y6_35 0)
                    replace hR := bnd1_use hd126 hR
                    refine call_S (n := 4) (As := [.ref (a (6 + 2 * i)), .int y4_5, .int y6_35, .int 0]) (rest := [.long y2_35]) hX hB (k_X0_ofRest_4 κ l a r q f i y4_5 y6_35 0 hi (by decide) x127 hd126) ⟨by decide, by decide, by decide +kernel⟩ wm_1_183 wm_1_184 wm_1_29 wm_1_185 ⟨Nat.le_of_ble_eq_true rfl, Nat.le_of_ble_eq_true rfl⟩ ⟨Nat.le_of_ble_eq_true rfl, Nat.le_of_ble_eq_true rfl⟩ rfl hl.1 rfl (Nat.le_of_ble_eq_true rfl) dX0_findDivisor_67 (fun o w' H locs hp hB => ?_)
                    obtain ⟨rfl, rfl⟩ := hp
                    refine W.eq (g2 := F0 m 70 ls [.long x127, .long y2_35]) rfl ?_
                    obtain ⟨x128, hd129⟩ := ex1 (D_X5_greatestCommonDivisor y2_35 x127)
                    replace hR := bnd1_use hd129 hR
                    refine call_SN (n := 2) (As := [.long y2_35, .long x127]) (rest := []) hX hB (k_X5_greatestCommonDivisor κ l (cw κ a r q f) y2_35 x127  x128 hd129) ⟨by decide, by decide, by decide +kernel⟩ wn_2_58 wm_2_59 wm_1_1 wm_2_60 ⟨Nat.le_of_ble_eq_true rfl, Nat.le_of_ble_eq_true rfl⟩ ⟨Nat.le_of_ble_eq_true rfl, Nat.le_of_ble_eq_true rfl⟩ rfl hl.1 rfl (Nat.le_of_ble_eq_true rfl) dX0_findDivisor_70 (fun o w' H locs hp hB => ?_)
                    obtain ⟨rfl, hw9⟩ := hp
                    rw [hw9] at hB
                    refine W.eq (g2 := F0 m 73 ls [.long x128]) rfl ?_
                    refine lv_lstore_n (lv' := [(2, .long x128), (6, .int y6_35), (5, .int 0), (4, .int y4_5), (0, .ref (a (6 + 2 * i))), (1, .int p0)]) hx hb dX0_findDivisor_73 rfl hl (by decide) rfl (fun ls hl => ?_)
                    refine lv_iinc (v := y6_35 + 1) (lv' := [(6, .int (y6_35 + 1)), (2, .long x128), (5, .int 0), (4, .int y4_5), (0, .ref (a (6 + 2 * i))), (1, .int p0)]) hx hb dX0_findDivisor_74 hl (k := 1) rfl rfl (by decide) rfl (fun ls hl => ?_)
                    refine lv_goto (tgt := 35) hx hb dX0_findDivisor_77 (by decide) ?_
                    exact ih35 (y6_35 + 1) x128 _ _  (gap_step c123 hμ35) hR hB _ (lv_sub hl [0, 2, 3, 1, 4, 5] rfl)
          exact lp35 _ 0 y2_5 _ _  (Nat.lt_succ_self _) hR hB _ hl
        · replace hR := ifp c105 hR
          refine lv_iconst (v := 1) hx hb dX0_findDivisor_25 (by decide) ?_
          refine lv_goto (tgt := 30) hx hb dX0_findDivisor_26 (by decide) ?_
          refine lv_istore (lv' := [(5, .int 1), (4, .int y4_5), (2, .long y2_5), (0, .ref (a (6 + 2 * i))), (1, .int p0)]) hx hb dX0_findDivisor_30 hl (by decide) rfl (fun ls hl => ?_)
          refine lv_iconst (v := 0) hx hb dX0_findDivisor_32 (by decide) ?_
          refine lv_istore (lv' := [(6, .int 0), (5, .int 1), (4, .int y4_5), (2, .long y2_5), (0, .ref (a (6 + 2 * i))), (1, .int p0)]) hx hb dX0_findDivisor_33 hl (by decide) rfl (fun ls hl => ?_)
          have lp35 : ∀ (nn35 : Nat) (y6_35 : Int32) (y2_35 : Int64) (H : Heap) (locs : List Loc), gap (1 <<< ((r (2 * i + 1)) &&& 31)) y6_35 < nn35 → D_X0_findDivisor_35_1 r q f i p0 (D_X0_findDivisor_5 r q f i p0 nn5) y4_5 nn35 y6_35 y2_35 = o_x → Bd κ A s (cw κ a r q f) H locs → ∀ ls : Array Slot, lv_has ls 7 [(6, .int y6_35), (5, .int 1), (4, .int y4_5), (2, .long y2_35), (0, .ref (a (6 + 2 * i))), (1, .int p0)] → W p l e (Rm 5 145 0 0) s m args below meth c H locs 0 0 Q (F0 m 35 ls []) := by
            intro nn35
            induction nn35 with
            | zero => intro y6_35 y2_35 H locs hμ; exact absurd hμ (Nat.not_lt_zero _)
            | succ nn35 ih35 =>
              intro y6_35 y2_35 H locs hμ35 hR hB ls hl
              replace hR := (D_X0_findDivisor_35_1_s).symm.trans hR
              refine lv_iload hx hb dX0_findDivisor_35 (lv_at hl 1 rfl) ?_
              refine lv_if_eq (tgt := 80) hx hb dX0_findDivisor_37 (by decide) (fun c146 => ?_) (fun c146 => ?_)
              · replace hR := ifp c146 hR
                refine lv_iinc (v := y4_5 + 1) (lv' := [(4, .int (y4_5 + 1)), (6, .int y6_35), (5, .int 1), (2, .long y2_35), (0, .ref (a (6 + 2 * i))), (1, .int p0)]) hx hb dX0_findDivisor_80 hl (k := 2) rfl rfl (by decide) rfl (fun ls hl => ?_)
                refine lv_goto (tgt := 5) hx hb dX0_findDivisor_83 (by decide) ?_
                exact ih5 (y4_5 + 1) y2_35 _ _  (gap_step c103 hμ5) hR hB _ (lv_sub hl [0, 3, 4, 5] rfl)
              · replace hR := ifn c146 hR
                refine lv_iload hx hb dX0_findDivisor_40 (lv_at hl 0 rfl) ?_
                refine lv_iconst (v := 1) hx hb dX0_findDivisor_42 (by decide) ?_
                refine lv_aload_n hx hb dX0_findDivisor_43 rfl (lv_at hl 4 rfl) ?_
                refine gfN hX hB (cwG (i := i) hi) rfl in3 2 (by decide) wn_1_53 rfl rfl dX0_findDivisor_44 ?_
                refine lv_ishl hx hb dX0_findDivisor_47 ?_
                refine lv_icmp_ge (tgt := 80) hx hb dX0_findDivisor_48 (by decide) (fun c147 => ?_) (fun c147 => ?_)
                · replace hR := ifp c147 hR
                  refine lv_iinc (v := y4_5 + 1) (lv' := [(4, .int (y4_5 + 1)), (6, .int y6_35), (5, .int 1), (2, .long y2_35), (0, .ref (a (6 + 2 * i))), (1, .int p0)]) hx hb dX0_findDivisor_80 hl (k := 2) rfl rfl (by decide) rfl (fun ls hl => ?_)
                  refine lv_goto (tgt := 5) hx hb dX0_findDivisor_83 (by decide) ?_
                  exact ih5 (y4_5 + 1) y2_35 _ _  (gap_step c103 hμ5) hR hB _ (lv_sub hl [0, 3, 4, 5] rfl)
                · replace hR := ifn c147 hR
                  refine lv_iload hx hb dX0_findDivisor_51 (lv_at hl 0 rfl) ?_
                  refine call_S (n := 1) (As := [.int y6_35]) (rest := []) hX hB (k_J6_bitCount_0f7a4 κ l (cw κ a r q f) y6_35 ) ⟨by decide, by decide, by decide +kernel⟩ wm_1_194 wm_1_195 wm_1_26 wm_1_196 ⟨Nat.le_of_ble_eq_true rfl, Nat.le_of_ble_eq_true rfl⟩ ⟨Nat.le_of_ble_eq_true rfl, Nat.le_of_ble_eq_true rfl⟩ rfl hl.1 rfl (Nat.le_of_ble_eq_true rfl) dX0_findDivisor_53 (fun o w' H locs hp hB => ?_)
                  obtain ⟨x148, rfl, ex148, hw9⟩ := hp
                  replace hR := nm_use ex148 hR
                  rw [hw9] at hB
                  refine W.eq (g2 := F0 m 56 ls [.int x148]) rfl ?_
                  refine lv_iload_n hx hb dX0_findDivisor_56 rfl (lv_at hl 5 rfl) ?_
                  refine lv_icmp_ne (tgt := 74) hx hb dX0_findDivisor_57 (by decide) (fun c149 => ?_) (fun c149 => ?_)
                  · replace hR := ifn c149 hR
                    refine lv_iinc (v := y6_35 + 1) (lv' := [(6, .int (y6_35 + 1)), (5, .int 1), (4, .int y4_5), (2, .long y2_35), (0, .ref (a (6 + 2 * i))), (1, .int p0)]) hx hb dX0_findDivisor_74 hl (k := 0) rfl rfl (by decide) rfl (fun ls hl => ?_)
                    refine lv_goto (tgt := 35) hx hb dX0_findDivisor_77 (by decide) ?_
                    exact ih35 (y6_35 + 1) y2_35 _ _  (gap_step c147 hμ35) hR hB _ hl
                  · replace hR := ifp c149 hR
                    refine lv_lload_n hx hb dX0_findDivisor_60 rfl (lv_at hl 3 rfl) ?_
                    refine lv_aload_n hx hb dX0_findDivisor_61 rfl (lv_at hl 4 rfl) ?_
                    refine lv_iload hx hb dX0_findDivisor_62 (lv_at hl 2 rfl) ?_
                    refine lv_iload hx hb dX0_findDivisor_64 (lv_at hl 0 rfl) ?_
                    refine lv_iconst (v := 0) hx hb dX0_findDivisor_66 (by decide) ?_
                    obtain ⟨x151, hd150⟩ := ex1 (D_X0_ofRest_4 r q f i y4_5 y6_35 0)
                    replace hR := bnd1_use hd150 hR
                    refine call_S (n := 4) (As := [.ref (a (6 + 2 * i)), .int y4_5, .int y6_35, .int 0]) (rest := [.long y2_35]) hX hB (k_X0_ofRest_4 κ l a r q f i y4_5 y6_35 0 hi (by decide) x151 hd150) ⟨by decide, by decide, by decide +kernel⟩ wm_1_183 wm_1_184 wm_1_29 wm_1_185 ⟨Nat.le_of_ble_eq_true rfl, Nat.le_of_ble_eq_true rfl⟩ ⟨Nat.le_of_ble_eq_true rfl, Nat.le_of_ble_eq_true rfl⟩ rfl hl.1 rfl (Nat.le_of_ble_eq_true rfl) dX0_findDivisor_67 (fun o w' H locs hp hB => ?_)
                    obtain ⟨rfl, rfl⟩ := hp
                    refine W.eq (g2 := F0 m 70 ls [.long x151, .long y2_35]) rfl ?_
                    obtain ⟨x152, hd153⟩ := ex1 (D_X5_greatestCommonDivisor y2_35 x151)
                    replace hR := bnd1_use hd153 hR
                    refine call_SN (n := 2) (As := [.long y2_35, .long x151]) (rest := []) hX hB (k_X5_greatestCommonDivisor κ l (cw κ a r q f) y2_35 x151  x152 hd153) ⟨by decide, by decide, by decide +kernel⟩ wn_2_58 wm_2_59 wm_1_1 wm_2_60 ⟨Nat.le_of_ble_eq_true rfl, Nat.le_of_ble_eq_true rfl⟩ ⟨Nat.le_of_ble_eq_true rfl, Nat.le_of_ble_eq_true rfl⟩ rfl hl.1 rfl (Nat.le_of_ble_eq_true rfl) dX0_findDivisor_70 (fun o w' H locs hp hB => ?_)
                    obtain ⟨rfl, hw9⟩ := hp
                    rw [hw9] at hB
                    refine W.eq (g2 := F0 m 73 ls [.long x152]) rfl ?_
                    refine lv_lstore_n (lv' := [(2, .long x152), (6, .int y6_35), (5, .int 1), (4, .int y4_5), (0, .ref (a (6 + 2 * i))), (1, .int p0)]) hx hb dX0_findDivisor_73 rfl hl (by decide) rfl (fun ls hl => ?_)
                    refine lv_iinc (v := y6_35 + 1) (lv' := [(6, .int (y6_35 + 1)), (2, .long x152), (5, .int 1), (4, .int y4_5), (0, .ref (a (6 + 2 * i))), (1, .int p0)]) hx hb dX0_findDivisor_74 hl (k := 1) rfl rfl (by decide) rfl (fun ls hl => ?_)
                    refine lv_goto (tgt := 35) hx hb dX0_findDivisor_77 (by decide) ?_
                    exact ih35 (y6_35 + 1) x152 _ _  (gap_step c147 hμ35) hR hB _ (lv_sub hl [0, 2, 3, 1, 4, 5] rfl)
          exact lp35 _ 0 y2_5 _ _  (Nat.lt_succ_self _) hR hB _ hl
  exact lp5 _ 0 0 _ _  (Nat.lt_succ_self _) hR hB _ hl
noncomputable def D_X0_findRank_4 (r : Nat → Int32) (q : Nat → Int32) (f : Nat → Nat → Int64) (i : Nat) (nn : Nat) : Int32 → Int32 → Int32 := @Nat.rec (fun _ => Int32 → Int32 → Int32) (fun _ _ => default) (fun _ lb4 (y2_4 : Int32) (y1_4 : Int32) => (if (r (2 * i)) < y2_4 then y1_4 else (if (r (2 * i + 1)) < y2_4 then y1_4 else bnd1 (D_X0_findDivisor r q f i y2_4) (fun (x14 : Int64) => (if (lg_cmp x14 0) = 0 then (lb4 (y2_4 + 1) y1_4) else (lb4 (y2_4 + 1) y2_4)))))) nn
theorem D_X0_findRank_4_s {r : Nat → Int32} {q : Nat → Int32} {f : Nat → Nat → Int64} {i : Nat} {nn : Nat} {y2_4 : Int32} {y1_4 : Int32} : D_X0_findRank_4 r q f i (nn + 1) y2_4 y1_4 = (if (r (2 * i)) < y2_4 then y1_4 else (if (r (2 * i + 1)) < y2_4 then y1_4 else bnd1 (D_X0_findDivisor r q f i y2_4) (fun (x14 : Int64) => (if (lg_cmp x14 0) = 0 then ((D_X0_findRank_4 r q f i nn) (y2_4 + 1) y1_4) else ((D_X0_findRank_4 r q f i nn) (y2_4 + 1) y2_4))))) := rfl
noncomputable def D_X0_findRank (r : Nat → Int32) (q : Nat → Int32) (f : Nat → Nat → Int64) (i : Nat) : Int32 := (D_X0_findRank_4 r q f i (gap1 (r (2 * i)) 1 + 1) 1 0)
theorem D_X0_findRank_s {r : Nat → Int32} {q : Nat → Int32} {f : Nat → Nat → Int64} {i : Nat} : D_X0_findRank r q f i = (D_X0_findRank_4 r q f i (gap1 (r (2 * i)) 1 + 1) 1 0) := rfl
set_option maxHeartbeats 4000000 in
set_option maxRecDepth 100000 in
theorem k_X0_findRank (κ : Kt) (l : Launch) (a : Nat → Nat) (r q : Nat → Int32) (f : Nat → Nat → Int64) (i : Nat) (hi : i < 15) (hok : okr r) (o_x : Int32) (hR : D_X0_findRank r q f i = o_x) : CM κ l yX0_findRank cX0_findRank 3 (some .int) 6 171 0 0 [.ref (a (6 + 2 * i))] (cw κ a r q f) (fun o w' => o = some (.int o_x) ∧ w' = cw κ a r q f) := by
  refine CM_begin (plainFor_of_name (by decide)) (Nat.le_of_ble_eq_true rfl) ?_
  intro p e s m args below meth c A Q hX hnm hA3 hQ hB ls hl
  have hx := hX.1.1
  have hb := hX.1.2.1
  have hl : lv_has ls 3 [(0, .ref (a (6 + 2 * i)))] := hl
  replace hR := (D_X0_findRank_s).symm.trans hR
  refine lv_iconst (v := 0) hx hb dX0_findRank_0 (by decide) ?_
  refine lv_istore_n (lv' := [(1, .int 0), (0, .ref (a (6 + 2 * i)))]) hx hb dX0_findRank_1 rfl hl (by decide) rfl (fun ls hl => ?_)
  refine lv_iconst (v := 1) hx hb dX0_findRank_2 (by decide) ?_
  refine lv_istore_n (lv' := [(2, .int 1), (1, .int 0), (0, .ref (a (6 + 2 * i)))]) hx hb dX0_findRank_3 rfl hl (by decide) rfl (fun ls hl => ?_)
  have lp4 : ∀ (nn4 : Nat) (y2_4 : Int32) (y1_4 : Int32) (H : Heap) (locs : List Loc), gap1 (r (2 * i)) y2_4 < nn4 → D_X0_findRank_4 r q f i nn4 y2_4 y1_4 = o_x → Bd κ A s (cw κ a r q f) H locs → ∀ ls : Array Slot, lv_has ls 3 [(2, .int y2_4), (1, .int y1_4), (0, .ref (a (6 + 2 * i)))] → W p l e (Rm 6 171 0 0) s m args below meth c H locs 0 0 Q (F0 m 4 ls []) := by
    intro nn4
    induction nn4 with
    | zero => intro y2_4 y1_4 H locs hμ; exact absurd hμ (Nat.not_lt_zero _)
    | succ nn4 ih4 =>
      intro y2_4 y1_4 H locs hμ4 hR hB ls hl
      replace hR := (D_X0_findRank_4_s).symm.trans hR
      refine lv_iload_n hx hb dX0_findRank_4 rfl (lv_at hl 0 rfl) ?_
      refine lv_aload_n hx hb dX0_findRank_5 rfl (lv_at hl 2 rfl) ?_
      refine gfN hX hB (cwG (i := i) hi) rfl in3 1 (by decide) wn_1_47 rfl rfl dX0_findRank_6 ?_
      refine lv_icmp_gt (tgt := 38) hx hb dX0_findRank_9 (by decide) (fun c11 => ?_) (fun c11 => ?_)
      · replace hR := ifp c11 hR
        refine lv_iload_n hx hb dX0_findRank_38 rfl (lv_at hl 1 rfl) ?_
        rw [← hQ]
        exact end_i hX hB hA3 rfl rfl (by obtain rfl := hR; exact ⟨rfl, rfl⟩) (Nat.le_of_ble_eq_true rfl) (Nat.le_of_ble_eq_true rfl) dX0_findRank_39
      · replace hR := ifn c11 hR
        refine lv_iload_n hx hb dX0_findRank_12 rfl (lv_at hl 0 rfl) ?_
        refine lv_aload_n hx hb dX0_findRank_13 rfl (lv_at hl 2 rfl) ?_
        refine gfN hX hB (cwG (i := i) hi) rfl in3 2 (by decide) wn_1_53 rfl rfl dX0_findRank_14 ?_
        refine lv_icmp_gt (tgt := 38) hx hb dX0_findRank_17 (by decide) (fun c12 => ?_) (fun c12 => ?_)
        · replace hR := ifp c12 hR
          refine lv_iload_n hx hb dX0_findRank_38 rfl (lv_at hl 1 rfl) ?_
          rw [← hQ]
          exact end_i hX hB hA3 rfl rfl (by obtain rfl := hR; exact ⟨rfl, rfl⟩) (Nat.le_of_ble_eq_true rfl) (Nat.le_of_ble_eq_true rfl) dX0_findRank_39
        · replace hR := ifn c12 hR
          refine lv_aload_n hx hb dX0_findRank_20 rfl (lv_at hl 2 rfl) ?_
          refine lv_iload_n hx hb dX0_findRank_21 rfl (lv_at hl 0 rfl) ?_
          obtain ⟨x14, hd13⟩ := ex1 (D_X0_findDivisor r q f i y2_4)
          replace hR := bnd1_use hd13 hR
          refine call_S (n := 2) (As := [.ref (a (6 + 2 * i)), .int y2_4]) (rest := []) hX hB (k_X0_findDivisor κ l a r q f i y2_4 hi x14 hd13) ⟨by decide, by decide, by decide +kernel⟩ wm_2_55 wm_2_56 wm_1_29 wm_2_57 ⟨Nat.le_of_ble_eq_true rfl, Nat.le_of_ble_eq_true rfl⟩ ⟨Nat.le_of_ble_eq_true rfl, Nat.le_of_ble_eq_true rfl⟩ rfl hl.1 rfl (Nat.le_of_ble_eq_true rfl) dX0_findRank_22 (fun o w' H locs hp hB => ?_)
          obtain ⟨rfl, rfl⟩ := hp
          refine W.eq (g2 := F0 m 25 ls [.long x14]) rfl ?_
          refine lv_lconst (v := 0) hx hb dX0_findRank_25 (by decide) ?_
          refine W.lcmp hx hb dX0_findRank_26 ?_
          refine lv_if_eq (tgt := 32) hx hb dX0_findRank_27 (by decide) (fun c15 => ?_) (fun c15 => ?_)
          · replace hR := ifp c15 hR
            refine lv_iinc (v := y2_4 + 1) (lv' := [(2, .int (y2_4 + 1)), (1, .int y1_4), (0, .ref (a (6 + 2 * i)))]) hx hb dX0_findRank_32 hl (k := 0) rfl rfl (by decide) rfl (fun ls hl => ?_)
            refine lv_goto (tgt := 4) hx hb dX0_findRank_35 (by decide) ?_
            exact ih4 (y2_4 + 1) y1_4 _ _  (gap1_step (le45 (hok i hi).1.2) c11 hμ4) hR hB _ hl
          · replace hR := ifn c15 hR
            refine lv_iload_n hx hb dX0_findRank_30 rfl (lv_at hl 0 rfl) ?_
            refine lv_istore_n (lv' := [(1, .int y2_4), (2, .int y2_4), (0, .ref (a (6 + 2 * i)))]) hx hb dX0_findRank_31 rfl hl (by decide) rfl (fun ls hl => ?_)
            refine lv_iinc (v := y2_4 + 1) (lv' := [(2, .int (y2_4 + 1)), (1, .int y2_4), (0, .ref (a (6 + 2 * i)))]) hx hb dX0_findRank_32 hl (k := 1) rfl rfl (by decide) rfl (fun ls hl => ?_)
            refine lv_goto (tgt := 4) hx hb dX0_findRank_35 (by decide) ?_
            exact ih4 (y2_4 + 1) y2_4 _ _  (gap1_step (le45 (hok i hi).1.2) c11 hμ4) hR hB _ hl
  exact lp4 _ 1 0 _ _  (Nat.lt_succ_self _) hR hB _ hl
