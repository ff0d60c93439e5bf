
noncomputable def D_X5_countLikePairs_13 (r : Nat → Int32) (q : Nat → Int32) (f : Nat → Nat → Int64) (lb4 : Int32 → Int32 → Int32) (y2_4 : Int32) (nn : Nat) : Int32 → Int32 → Int32 := @Nat.rec (fun _ => Int32 → Int32 → Int32) (fun _ _ => default) (fun _ lb13 (y3_13 : Int32) (y1_13 : Int32) => (if 4 ≤ y3_13 then (lb4 (y2_4 + 1) y1_13) else bnd1 (D_X3_isLike r q f ((y2_4).toNatClampNeg) ((y3_13).toNatClampNeg)) (fun (x38 : Int32) => (if x38 = 0 then (lb13 (y3_13 + 1) y1_13) else (lb13 (y3_13 + 1) (y1_13 + 1)))))) nn
theorem D_X5_countLikePairs_13_s {r : Nat → Int32} {q : Nat → Int32} {f : Nat → Nat → Int64} {lb4 : Int32 → Int32 → Int32} {y2_4 : Int32} {nn : Nat} {y3_13 : Int32} {y1_13 : Int32} : D_X5_countLikePairs_13 r q f lb4 y2_4 (nn + 1) y3_13 y1_13 = (if 4 ≤ y3_13 then (lb4 (y2_4 + 1) y1_13) else bnd1 (D_X3_isLike r q f ((y2_4).toNatClampNeg) ((y3_13).toNatClampNeg)) (fun (x38 : Int32) => (if x38 = 0 then ((D_X5_countLikePairs_13 r q f lb4 y2_4 nn) (y3_13 + 1) y1_13) else ((D_X5_countLikePairs_13 r q f lb4 y2_4 nn) (y3_13 + 1) (y1_13 + 1))))) := rfl
noncomputable def D_X5_countLikePairs_4 (r : Nat → Int32) (q : Nat → Int32) (f : Nat → Nat → Int64) (nn : Nat) : Int32 → Int32 → Int32 := @Nat.rec (fun _ => Int32 → Int32 → Int32) (fun _ _ => default) (fun _ lb4 (y2_4 : Int32) (y1_4 : Int32) => (if 4 ≤ y2_4 then y1_4 else (D_X5_countLikePairs_13 r q f lb4 y2_4 (gap 4 (y2_4 + 1) + 1) (y2_4 + 1) y1_4))) nn
theorem D_X5_countLikePairs_4_s {r : Nat → Int32} {q : Nat → Int32} {f : Nat → Nat → Int64} {nn : Nat} {y2_4 : Int32} {y1_4 : Int32} : D_X5_countLikePairs_4 r q f (nn + 1) y2_4 y1_4 = (if 4 ≤ y2_4 then y1_4 else (D_X5_countLikePairs_13 r q f (D_X5_countLikePairs_4 r q f nn) y2_4 (gap 4 (y2_4 + 1) + 1) (y2_4 + 1) y1_4)) := rfl
noncomputable def D_X5_countLikePairs (r : Nat → Int32) (q : Nat → Int32) (f : Nat → Nat → Int64) : Int32 := (D_X5_countLikePairs_4 r q f (gap 4 0 + 1) 0 0)
theorem D_X5_countLikePairs_s {r : Nat → Int32} {q : Nat → Int32} {f : Nat → Nat → Int64} : D_X5_countLikePairs r q f = (D_X5_countLikePairs_4 r q f (gap 4 0 + 1) 0 0) := rfl
set_option maxHeartbeats 4000000 in
set_option maxRecDepth 100000 in
theorem k_X5_countLikePairs (κ : Kt) (l : Launch) (a : Nat → Nat) (r q : Nat → Int32) (f : Nat → Nat → Int64)  (o_x : Int32) (hR : D_X5_countLikePairs r q f = o_x) : CM κ l yX5_countLikePairs cX5_countLikePairs 4 (some .int) 3 67 0 0 [.ref (a 0)] (cw κ a r q f) (fun o w' => o = some (.int o_x) ∧ w' = cw κ a r q f) := by
  refine CM_begin (plainFor_of_name (by decide)) (Nat.le_of_ble_eq_true rfl) ?_
  intro p e s m args below meth c A Q hX hnm hA3 hQ hB ls hl
  have hx := hX.1.1
  have hb := hX.1.2.1
  have hl : lv_has ls 4 [(0, .ref (a 0))] := hl
  replace hR := (D_X5_countLikePairs_s).symm.trans hR
  refine lv_iconst (v := 0) hx hb dX5_countLikePairs_0 (by decide) ?_
  refine lv_istore_n (lv' := [(1, .int 0), (0, .ref (a 0))]) hx hb dX5_countLikePairs_1 rfl hl (by decide) rfl (fun ls hl => ?_)
  refine lv_iconst (v := 0) hx hb dX5_countLikePairs_2 (by decide) ?_
  refine lv_istore_n (lv' := [(2, .int 0), (1, .int 0), (0, .ref (a 0))]) hx hb dX5_countLikePairs_3 rfl hl (by decide) rfl (fun ls hl => ?_)
  have lp4 : ∀ (nn4 : Nat) (y2_4 : Int32) (y1_4 : Int32) (H : Heap) (locs : List Loc), 0 ≤ y2_4 → gap 4 y2_4 < nn4 → D_X5_countLikePairs_4 r q f nn4 y2_4 y1_4 = o_x → Bd κ A s (cw κ a r q f) H locs → ∀ ls : Array Slot, lv_has ls 4 [(2, .int y2_4), (1, .int y1_4), (0, .ref (a 0))] → W p l e (Rm 3 67 0 0) s m args below meth c H locs 0 0 Q (F0 m 4 ls []) := by
    intro nn4
    induction nn4 with
    | zero => intro y2_4 y1_4 H locs hn2_4 hμ; exact absurd hμ (Nat.not_lt_zero _)
    | succ nn4 ih4 =>
      intro y2_4 y1_4 H locs hn2_4 hμ4 hR hB ls hl
      replace hR := (D_X5_countLikePairs_4_s).symm.trans hR
      refine lv_iload_n hx hb dX5_countLikePairs_4 rfl (lv_at hl 0 rfl) ?_
      refine lv_iconst (v := 4) hx hb dX5_countLikePairs_5 (by decide) ?_
      refine lv_icmp_ge (tgt := 51) hx hb dX5_countLikePairs_6 (by decide) (fun c27 => ?_) (fun c27 => ?_)
      · replace hR := ifp c27 hR
        refine lv_iload_n hx hb dX5_countLikePairs_51 rfl (lv_at hl 1 rfl) ?_
        rw [← hQ]
        exact end_i hX hB hA3 rfl rfl (by obtain rfl := hR; exact ⟨rfl, rfl⟩) (Nat.le_of_ble_eq_true rfl) (Nat.le_of_ble_eq_true rfl) dX5_countLikePairs_52
      · replace hR := ifn c27 hR
        refine lv_iload_n hx hb dX5_countLikePairs_9 rfl (lv_at hl 0 rfl) ?_
        refine lv_iconst (v := 1) hx hb dX5_countLikePairs_10 (by decide) ?_
        refine lv_iadd hx hb dX5_countLikePairs_11 ?_
        refine lv_istore_n (lv' := [(3, .int (y2_4 + 1)), (2, .int y2_4), (1, .int y1_4), (0, .ref (a 0))]) hx hb dX5_countLikePairs_12 rfl hl (by decide) rfl (fun ls hl => ?_)
        have lp13 : ∀ (nn13 : Nat) (y3_13 : Int32) (y1_13 : Int32) (H : Heap) (locs : List Loc), 0 ≤ y3_13 → gap 4 y3_13 < nn13 → D_X5_countLikePairs_13 r q f (D_X5_countLikePairs_4 r q f nn4) y2_4 nn13 y3_13 y1_13 = o_x → Bd κ A s (cw κ a r q f) H locs → ∀ ls : Array Slot, lv_has ls 4 [(3, .int y3_13), (2, .int y2_4), (1, .int y1_13), (0, .ref (a 0))] → W p l e (Rm 3 67 0 0) s m args below meth c H locs 0 0 Q (F0 m 13 ls []) := by
          intro nn13
          induction nn13 with
          | zero => intro y3_13 y1_13 H locs hn3_13 hμ; exact absurd hμ (Nat.not_lt_zero _)
          | succ nn13 ih13 =>
            intro y3_13 y1_13 H locs hn3_13 hμ13 hR hB ls hl
            replace hR := (D_X5_countLikePairs_13_s).symm.trans hR
            refine lv_iload_n hx hb dX5_countLikePairs_13 rfl (lv_at hl 0 rfl) ?_
            refine lv_iconst (v := 4) hx hb dX5_countLikePairs_14 (by decide) ?_
            refine lv_icmp_ge (tgt := 45) hx hb dX5_countLikePairs_15 (by decide) (fun c36 => ?_) (fun c36 => ?_)
            · replace hR := ifp c36 hR
              refine lv_iinc (v := y2_4 + 1) (lv' := [(2, .int (y2_4 + 1)), (3, .int y3_13), (1, .int y1_13), (0, .ref (a 0))]) hx hb dX5_countLikePairs_45 hl (k := 1) rfl rfl (by decide) rfl (fun ls hl => ?_)
              refine lv_goto (tgt := 4) hx hb dX5_countLikePairs_48 (by decide) ?_
              exact ih4 (y2_4 + 1) y1_13 _ _ (nn_step hn2_4 c27) (gap_step c27 hμ4) hR hB _ (lv_sub hl [0, 2, 3] rfl)
            · replace hR := ifn c36 hR
              refine lv_aload_n hx hb dX5_countLikePairs_18 rfl (lv_at hl 3 rfl) ?_
              refine gf hX hB cw0 rfl in5 0 (by decide) wm_1_137 rfl rfl dX5_countLikePairs_19 ?_
              refine lv_iload_n hx hb dX5_countLikePairs_22 rfl (lv_at hl 1 rfl) ?_
              refine aaldG hX hB cw1 (in_of (N := 4) rfl hn2_4 c27) rfl dX5_countLikePairs_23 ?_
              refine lv_aload_n hx hb dX5_countLikePairs_24 rfl (lv_at hl 3 rfl) ?_
              refine gf hX hB cw0 rfl in5 0 (by decide) wm_1_137 rfl rfl dX5_countLikePairs_25 ?_
              refine lv_iload_n hx hb dX5_countLikePairs_28 rfl (lv_at hl 0 rfl) ?_
              refine aaldG hX hB cw1 (in_of (N := 4) rfl hn3_13 c36) rfl dX5_countLikePairs_29 ?_
              obtain ⟨x38, hd37⟩ := ex1 (D_X3_isLike r q f ((y2_4).toNatClampNeg) ((y3_13).toNatClampNeg))
              replace hR := bnd1_use hd37 hR
              refine call_V (n := 1) (As := [.ref (a (6 + 2 * ((y3_13).toNatClampNeg)))]) (rest := []) hX hB (k_X3_isLike κ l a r q f ((y2_4).toNatClampNeg) ((y3_13).toNatClampNeg) (lt15 (clamp_lt (in_of (N := 4) rfl hn2_4 c27))) (lt15 (clamp_lt (in_of (N := 4) rfl hn3_13 c36))) x38 hd37) ⟨rfl, by decide, by decide, by decide +kernel⟩ wm_2_44 wm_2_45 wm_2_46 wm_1_2 wm_2_47 ⟨Nat.le_of_ble_eq_true rfl, Nat.le_of_ble_eq_true rfl⟩ ⟨Nat.le_of_ble_eq_true rfl, Nat.le_of_ble_eq_true rfl⟩ (cwG (i := (y2_4).toNatClampNeg) (lt15 (clamp_lt (in_of (N := 4) rfl hn2_4 c27)))) rfl rfl rfl hl.1 rfl (Nat.le_of_ble_eq_true rfl) dX5_countLikePairs_30 (fun o w' H locs hp hB => ?_)
              obtain ⟨rfl, bx38, rfl⟩ := hp
              refine W.eq (g2 := F0 m 33 ls [.int x38]) rfl ?_
              refine lv_if_eq (tgt := 39) hx hb dX5_countLikePairs_33 (by decide) (fun c39 => ?_) (fun c39 => ?_)
              · replace hR := ifp c39 hR
                refine lv_iinc (v := y3_13 + 1) (lv' := [(3, .int (y3_13 + 1)), (2, .int y2_4), (1, .int y1_13), (0, .ref (a 0))]) hx hb dX5_countLikePairs_39 hl (k := 0) rfl rfl (by decide) rfl (fun ls hl => ?_)
                refine lv_goto (tgt := 13) hx hb dX5_countLikePairs_42 (by decide) ?_
                exact ih13 (y3_13 + 1) y1_13 _ _ (nn_step hn3_13 c36) (gap_step c36 hμ13) hR hB _ hl
              · replace hR := ifn c39 hR
                refine lv_iinc (v := y1_13 + 1) (lv' := [(1, .int (y1_13 + 1)), (3, .int y3_13), (2, .int y2_4), (0, .ref (a 0))]) hx hb dX5_countLikePairs_36 hl (k := 2) rfl rfl (by decide) rfl (fun ls hl => ?_)
                refine lv_iinc (v := y3_13 + 1) (lv' := [(3, .int (y3_13 + 1)), (1, .int (y1_13 + 1)), (2, .int y2_4), (0, .ref (a 0))]) hx hb dX5_countLikePairs_39 hl (k := 1) rfl rfl (by decide) rfl (fun ls hl => ?_)
                refine lv_goto (tgt := 13) hx hb dX5_countLikePairs_42 (by decide) ?_
                exact ih13 (y3_13 + 1) (y1_13 + 1) _ _ (nn_step hn3_13 c36) (gap_step c36 hμ13) hR hB _ (lv_sub hl [0, 2, 1, 3] rfl)
        exact lp13 _ (y2_4 + 1) y1_4 _ _ (nn_step hn2_4 c27) (Nat.lt_succ_self _) hR hB _ hl
  exact lp4 _ 0 0 _ _ (by decide) (Nat.lt_succ_self _) hR hB _ hl
noncomputable def D_X5_countHouse (r : Nat → Int32) (q : Nat → Int32) (f : Nat → Nat → Int64) (p0 : Int32) : Int32 := (if p0 = 0 then q 2 else (if p0 = 1 then q 3 else (if p0 = 2 then q 4 else bnd1 (D_X5_countLikePairs r q f) (fun (x5 : Int32) => x5))))
theorem D_X5_countHouse_s {r : Nat → Int32} {q : Nat → Int32} {f : Nat → Nat → Int64} {p0 : Int32} : D_X5_countHouse r q f p0 = (if p0 = 0 then q 2 else (if p0 = 1 then q 3 else (if p0 = 2 then q 4 else bnd1 (D_X5_countLikePairs r q f) (fun (x5 : Int32) => x5)))) := rfl
set_option maxHeartbeats 4000000 in
set_option maxRecDepth 100000 in
theorem k_X5_countHouse (κ : Kt) (l : Launch) (a : Nat → Nat) (r q : Nat → Int32) (f : Nat → Nat → Int64) (p0 : Int32)  (o_x : Int32) (hR : D_X5_countHouse r q f p0 = o_x) : CM κ l yX5_countHouse cX5_countHouse 2 (some .int) 4 90 0 0 [.ref (a 0), .int p0] (cw κ a r q f) (fun o w' => o = some (.int o_x) ∧ w' = cw κ a r q f) := by
  refine CM_begin (plainFor_of_name (by decide)) (Nat.le_of_ble_eq_true rfl) ?_
  intro p e s m args below meth c A Q hX hnm hA3 hQ hB ls hl
  have hx := hX.1.1
  have hb := hX.1.2.1
  have hl : lv_has ls 2 [(0, .ref (a 0)), (1, .int p0)] := hl
  replace hR := (D_X5_countHouse_s).symm.trans hR
  refine lv_iload_n hx hb dX5_countHouse_0 rfl (lv_at hl 1 rfl) ?_
  refine lv_if_ne (tgt := 9) hx hb dX5_countHouse_1 (by decide) (fun c1 => ?_) (fun c1 => ?_)
  · replace hR := ifn c1 hR
    refine lv_iload_n hx hb dX5_countHouse_9 rfl (lv_at hl 1 rfl) ?_
    refine lv_iconst (v := 1) hx hb dX5_countHouse_10 (by decide) ?_
    refine lv_icmp_ne (tgt := 19) hx hb dX5_countHouse_11 (by decide) (fun c2 => ?_) (fun c2 => ?_)
    · replace hR := ifn c2 hR
      refine lv_iload_n hx hb dX5_countHouse_19 rfl (lv_at hl 1 rfl) ?_
      refine lv_iconst (v := 2) hx hb dX5_countHouse_20 (by decide) ?_
      refine lv_icmp_ne (tgt := 31) hx hb dX5_countHouse_21 (by decide) (fun c3 => ?_) (fun c3 => ?_)
      · replace hR := ifn c3 hR
        refine lv_aload_n hx hb dX5_countHouse_31 rfl (lv_at hl 0 rfl) ?_
        obtain ⟨x5, hd4⟩ := ex1 (D_X5_countLikePairs r q f)
        replace hR := bnd1_use hd4 hR
        refine call_V (n := 0) (As := []) (rest := []) hX hB (k_X5_countLikePairs κ l a r q f x5 hd4) ⟨rfl, by decide, by decide, by decide +kernel⟩ wm_2_139 wm_2_141 wp_16 wm_1_1 wm_2_142 ⟨Nat.le_of_ble_eq_true rfl, Nat.le_of_ble_eq_true rfl⟩ ⟨Nat.le_of_ble_eq_true rfl, Nat.le_of_ble_eq_true rfl⟩ cw0 rfl rfl rfl hl.1 rfl (Nat.le_of_ble_eq_true rfl) dX5_countHouse_32 (fun o w' H locs hp hB => ?_)
        obtain ⟨rfl, rfl⟩ := hp
        refine W.eq (g2 := F0 m 35 ls [.int x5]) rfl ?_
        rw [← hQ]
        exact end_i hX hB hA3 rfl rfl (by obtain rfl := hR; exact ⟨rfl, rfl⟩) (Nat.le_of_ble_eq_true rfl) (Nat.le_of_ble_eq_true rfl) dX5_countHouse_35
      · replace hR := ifp c3 hR
        refine lv_aload_n hx hb dX5_countHouse_24 rfl (lv_at hl 0 rfl) ?_
        refine gf hX hB cw0 rfl in5 9 (by decide) wm_1_146 rfl rfl dX5_countHouse_25 ?_
        refine lv_goto (tgt := 35) hx hb dX5_countHouse_28 (by decide) ?_
        rw [← hQ]
        exact end_i hX hB hA3 rfl rfl (by obtain rfl := hR; exact ⟨rfl, rfl⟩) (Nat.le_of_ble_eq_true rfl) (Nat.le_of_ble_eq_true rfl) dX5_countHouse_35
    · replace hR := ifp c2 hR
      refine lv_aload_n hx hb dX5_countHouse_14 rfl (lv_at hl 0 rfl) ?_
      refine gf hX hB cw0 rfl in5 8 (by decide) wm_1_145 rfl rfl dX5_countHouse_15 ?_
      rw [← hQ]
      exact end_i hX hB hA3 rfl rfl (by obtain rfl := hR; exact ⟨rfl, rfl⟩) (Nat.le_of_ble_eq_true rfl) (Nat.le_of_ble_eq_true rfl) dX5_countHouse_18
  · replace hR := ifp c1 hR
    refine lv_aload_n hx hb dX5_countHouse_4 rfl (lv_at hl 0 rfl) ?_
    refine gf hX hB cw0 rfl in5 7 (by decide) wm_1_144 rfl rfl dX5_countHouse_5 ?_
    rw [← hQ]
    exact end_i hX hB hA3 rfl rfl (by obtain rfl := hR; exact ⟨rfl, rfl⟩) (Nat.le_of_ble_eq_true rfl) (Nat.le_of_ble_eq_true rfl) dX5_countHouse_8
noncomputable def D_X5_isSoundByRowSteps (r : Nat → Int32) (q : Nat → Int32) (f : Nat → Nat → Int64) (i : Nat) : Int32 × (Nat → Int32) × (Nat → Int32) × (Nat → Nat → Int64) := bnd3 (D_X3_becomeProduct r q f 5 7 i) (fun (r2 : Nat → Int32) (q4 : Nat → Int32) (f6 : Nat → Nat → Int64) => bnd1 (D_X3_isLike r2 q4 f6 5 6) (fun (x8 : Int32) => (if x8 = 0 then (0, r2, q4, f6) else bnd1 (D_X0_findRank r2 q4 f6 i) (fun (x11 : Int32) => bnd1 (D_X4_countFilledRows r2 q4 f6) (fun (x13 : Int32) => (if x11 = x13 then (if (r2 (2 * i)) = (r2 (2 * i + 1)) then bnd1 (D_X0_byFirstRow r2 q4 f6 i) (fun (x17 : Int64) => bnd1 (D_X4_findDeterminant r2 q4 f6) (fun (x19 : Int64) => (if (lg_cmp x17 x19) = 0 then (1, r2, q4, f6) else (0, r2, q4, f6)))) else (1, r2, q4, f6)) else (0, r2, q4, f6)))))))
theorem D_X5_isSoundByRowSteps_s {r : Nat → Int32} {q : Nat → Int32} {f : Nat → Nat → Int64} {i : Nat} : D_X5_isSoundByRowSteps r q f i = bnd3 (D_X3_becomeProduct r q f 5 7 i) (fun (r2 : Nat → Int32) (q4 : Nat → Int32) (f6 : Nat → Nat → Int64) => bnd1 (D_X3_isLike r2 q4 f6 5 6) (fun (x8 : Int32) => (if x8 = 0 then (0, r2, q4, f6) else bnd1 (D_X0_findRank r2 q4 f6 i) (fun (x11 : Int32) => bnd1 (D_X4_countFilledRows r2 q4 f6) (fun (x13 : Int32) => (if x11 = x13 then (if (r2 (2 * i)) = (r2 (2 * i + 1)) then bnd1 (D_X0_byFirstRow r2 q4 f6 i) (fun (x17 : Int64) => bnd1 (D_X4_findDeterminant r2 q4 f6) (fun (x19 : Int64) => (if (lg_cmp x17 x19) = 0 then (1, r2, q4, f6) else (0, r2, q4, f6)))) else (1, r2, q4, f6)) else (0, r2, q4, f6))))))) := rfl
set_option maxHeartbeats 4000000 in
set_option maxRecDepth 100000 in
theorem k_X5_isSoundByRowSteps (κ : Kt) (l : Launch) (a : Nat → Nat) (r q : Nat → Int32) (f : Nat → Nat → Int64) (i : Nat) (hi : i < 15) (hok : okr r) (o_x : Int32) (o_r : Nat → Int32) (o_q : Nat → Int32) (o_f : Nat → Nat → Int64) (hR : D_X5_isSoundByRowSteps r q f i = (o_x, o_r, o_q, o_f)) : CM κ l yX5_isSoundByRowSteps cX5_isSoundByRowSteps 2 (some .boolean) 7 193 0 0 [.ref (a 0), .ref (a (6 + 2 * i))] (cw κ a r q f) (fun o w' => o = some (.int o_x) ∧ (o_x = 0 ∨ o_x = 1) ∧ (okr r → okr o_r) ∧ o_q 4 = q 4 ∧ w' = cw κ a o_r o_q o_f) := by
  refine CM_begin (plainFor_of_name (by decide)) (Nat.le_of_ble_eq_true rfl) ?_
  intro p e s m args below meth c A Q hX hnm hA3 hQ hB ls hl
  have hx := hX.1.1
  have hb := hX.1.2.1
  have hl : lv_has ls 2 [(0, .ref (a 0)), (1, .ref (a (6 + 2 * i)))] := hl
  replace hR := (D_X5_isSoundByRowSteps_s).symm.trans hR
  refine lv_aload_n hx hb dX5_isSoundByRowSteps_0 rfl (lv_at hl 0 rfl) ?_
  refine gf hX hB cw0 rfl in5 2 (by decide) wm_1_139 rfl rfl dX5_isSoundByRowSteps_1 ?_
  refine lv_aload_n hx hb dX5_isSoundByRowSteps_4 rfl (lv_at hl 0 rfl) ?_
  refine gf hX hB cw0 rfl in5 3 (by decide) wm_1_140 rfl rfl dX5_isSoundByRowSteps_5 ?_
  refine gfN hX hB cw2 rfl in4 1 (by decide) wn_1_77 rfl rfl dX5_isSoundByRowSteps_8 ?_
  refine lv_aload_n hx hb dX5_isSoundByRowSteps_11 rfl (lv_at hl 1 rfl) ?_
  obtain ⟨r2, q4, f6, hd1⟩ := ex3 (D_X3_becomeProduct r q f 5 7 i)
  replace hR := bnd3_use hd1 hR
  refine call_V (n := 2) (As := [.ref (a 20), .ref (a (6 + 2 * i))]) (rest := []) hX hB (k_X3_becomeProduct κ l a r q f 5 7 i (by decide) (by decide) hi r2 q4 f6 hd1) ⟨rfl, by decide, by decide, by decide +kernel⟩ wm_2_40 wm_2_41 wm_2_42 wm_1_2 wm_2_43 ⟨Nat.le_of_ble_eq_true rfl, Nat.le_of_ble_eq_true rfl⟩ ⟨Nat.le_of_ble_eq_true rfl, Nat.le_of_ble_eq_true rfl⟩ (cwG (i := 5) (by decide)) rfl rfl rfl hl.1 rfl (Nat.le_of_ble_eq_true rfl) dX5_isSoundByRowSteps_12 (fun o w' H locs hp hB => ?_)
  obtain ⟨rfl, ho3, hq5, rfl⟩ := hp
  refine W.eq (g2 := F0 m 15 ls []) rfl ?_
  refine lv_aload_n hx hb dX5_isSoundByRowSteps_15 rfl (lv_at hl 0 rfl) ?_
  refine gf hX hB cw0 rfl in5 2 (by decide) wm_1_139 rfl rfl dX5_isSoundByRowSteps_16 ?_
  refine lv_aload_n hx hb dX5_isSoundByRowSteps_19 rfl (lv_at hl 0 rfl) ?_
  refine gf hX hB cw0 rfl in5 3 (by decide) wm_1_140 rfl rfl dX5_isSoundByRowSteps_20 ?_
  refine gfN hX hB cw2 rfl in4 0 (by decide) wn_1_75 rfl rfl dX5_isSoundByRowSteps_23 ?_
  obtain ⟨x8, hd7⟩ := ex1 (D_X3_isLike r2 q4 f6 5 6)
  replace hR := bnd1_use hd7 hR
  refine call_V (n := 1) (As := [.ref (a 18)]) (rest := []) hX hB (k_X3_isLike κ l a r2 q4 f6 5 6 (by decide) (by decide) x8 hd7) ⟨rfl, by decide, by decide, by decide +kernel⟩ wm_2_44 wm_2_45 wm_2_46 wm_1_2 wm_2_47 ⟨Nat.le_of_ble_eq_true rfl, Nat.le_of_ble_eq_true rfl⟩ ⟨Nat.le_of_ble_eq_true rfl, Nat.le_of_ble_eq_true rfl⟩ (cwG (i := 5) (by decide)) rfl rfl rfl hl.1 rfl (Nat.le_of_ble_eq_true rfl) dX5_isSoundByRowSteps_26 (fun o w' H locs hp hB => ?_)
  obtain ⟨rfl, bx8, rfl⟩ := hp
  refine W.eq (g2 := F0 m 29 ls [.int x8]) rfl ?_
  refine lv_if_eq (tgt := 76) hx hb dX5_isSoundByRowSteps_29 (by decide) (fun c9 => ?_) (fun c9 => ?_)
  · replace hR := ifp c9 hR
    refine lv_iconst (v := 0) hx hb dX5_isSoundByRowSteps_76 (by decide) ?_
    rw [← hQ]
    exact end_i hX hB hA3 rfl rfl (by obtain ⟨rfl, rfl, rfl, rfl⟩ := pr4 hR; exact ⟨rfl, Or.inl rfl, (fun h => ho3 ((fun h => h) h)), (hq5.trans rfl), rfl⟩) (Nat.le_of_ble_eq_true rfl) (Nat.le_of_ble_eq_true rfl) dX5_isSoundByRowSteps_77
  · replace hR := ifn c9 hR
    refine lv_aload_n hx hb dX5_isSoundByRowSteps_32 rfl (lv_at hl 1 rfl) ?_
    obtain ⟨x11, hd10⟩ := ex1 (D_X0_findRank r2 q4 f6 i)
    replace hR := bnd1_use hd10 hR
    refine call_S (n := 1) (As := [.ref (a (6 + 2 * i))]) (rest := []) hX hB (k_X0_findRank κ l a r2 q4 f6 i hi ((fun h => ho3 ((fun h => h) h)) hok) x11 hd10) ⟨by decide, by decide, by decide +kernel⟩ wm_2_52 wm_2_53 wm_1_29 wm_2_54 ⟨Nat.le_of_ble_eq_true rfl, Nat.le_of_ble_eq_true rfl⟩ ⟨Nat.le_of_ble_eq_true rfl, Nat.le_of_ble_eq_true rfl⟩ rfl hl.1 rfl (Nat.le_of_ble_eq_true rfl) dX5_isSoundByRowSteps_33 (fun o w' H locs hp hB => ?_)
    obtain ⟨rfl, rfl⟩ := hp
    refine W.eq (g2 := F0 m 36 ls [.int x11]) rfl ?_
    refine lv_aload_n hx hb dX5_isSoundByRowSteps_36 rfl (lv_at hl 0 rfl) ?_
    refine gf hX hB cw0 rfl in5 3 (by decide) wm_1_140 rfl rfl dX5_isSoundByRowSteps_37 ?_
    obtain ⟨x13, hd12⟩ := ex1 (D_X4_countFilledRows r2 q4 f6)
    replace hR := bnd1_use hd12 hR
    refine call_V (n := 0) (As := []) (rest := [.int x11]) hX hB (k_X4_countFilledRows κ l a r2 q4 f6 x13 hd12) ⟨rfl, by decide, by decide, by decide +kernel⟩ wm_2_63 wm_2_64 wm_2_65 wm_1_3 wm_2_66 ⟨Nat.le_of_ble_eq_true rfl, Nat.le_of_ble_eq_true rfl⟩ ⟨Nat.le_of_ble_eq_true rfl, Nat.le_of_ble_eq_true rfl⟩ cw2 rfl rfl rfl hl.1 rfl (Nat.le_of_ble_eq_true rfl) dX5_isSoundByRowSteps_40 (fun o w' H locs hp hB => ?_)
    obtain ⟨rfl, rfl⟩ := hp
    refine W.eq (g2 := F0 m 43 ls [.int x13, .int x11]) rfl ?_
    refine lv_icmp_ne (tgt := 76) hx hb dX5_isSoundByRowSteps_43 (by decide) (fun c14 => ?_) (fun c14 => ?_)
    · replace hR := ifn c14 hR
      refine lv_iconst (v := 0) hx hb dX5_isSoundByRowSteps_76 (by decide) ?_
      rw [← hQ]
      exact end_i hX hB hA3 rfl rfl (by obtain ⟨rfl, rfl, rfl, rfl⟩ := pr4 hR; exact ⟨rfl, Or.inl rfl, (fun h => ho3 ((fun h => h) h)), (hq5.trans rfl), rfl⟩) (Nat.le_of_ble_eq_true rfl) (Nat.le_of_ble_eq_true rfl) dX5_isSoundByRowSteps_77
    · replace hR := ifp c14 hR
      refine lv_aload_n hx hb dX5_isSoundByRowSteps_46 rfl (lv_at hl 1 rfl) ?_
      refine gfN hX hB (cwG (i := i) hi) rfl in3 1 (by decide) wn_1_51 rfl rfl dX5_isSoundByRowSteps_47 ?_
      refine lv_aload_n hx hb dX5_isSoundByRowSteps_50 rfl (lv_at hl 1 rfl) ?_
      refine gfN hX hB (cwG (i := i) hi) rfl in3 2 (by decide) wn_1_57 rfl rfl dX5_isSoundByRowSteps_51 ?_
      refine lv_icmp_ne (tgt := 72) hx hb dX5_isSoundByRowSteps_54 (by decide) (fun c15 => ?_) (fun c15 => ?_)
      · replace hR := ifn c15 hR
        refine lv_iconst (v := 1) hx hb dX5_isSoundByRowSteps_72 (by decide) ?_
        refine lv_goto (tgt := 77) hx hb dX5_isSoundByRowSteps_73 (by decide) ?_
        rw [← hQ]
        exact end_i hX hB hA3 rfl rfl (by obtain ⟨rfl, rfl, rfl, rfl⟩ := pr4 hR; exact ⟨rfl, Or.inr rfl, (fun h => ho3 ((fun h => h) h)), (hq5.trans rfl), rfl⟩) (Nat.le_of_ble_eq_true rfl) (Nat.le_of_ble_eq_true rfl) dX5_isSoundByRowSteps_77
      · replace hR := ifp c15 hR
        refine lv_aload_n hx hb dX5_isSoundByRowSteps_57 rfl (lv_at hl 1 rfl) ?_
        obtain ⟨x17, hd16⟩ := ex1 (D_X0_byFirstRow r2 q4 f6 i)
        replace hR := bnd1_use hd16 hR
        refine call_S (n := 1) (As := [.ref (a (6 + 2 * i))]) (rest := []) hX hB (k_X0_byFirstRow κ l a r2 q4 f6 i hi x17 hd16) ⟨by decide, by decide, by decide +kernel⟩ wm_1_180 wm_1_181 wm_1_29 wm_1_182 ⟨Nat.le_of_ble_eq_true rfl, Nat.le_of_ble_eq_true rfl⟩ ⟨Nat.le_of_ble_eq_true rfl, Nat.le_of_ble_eq_true rfl⟩ rfl hl.1 rfl (Nat.le_of_ble_eq_true rfl) dX5_isSoundByRowSteps_58 (fun o w' H locs hp hB => ?_)
        obtain ⟨rfl, rfl⟩ := hp
        refine W.eq (g2 := F0 m 61 ls [.long x17]) rfl ?_
        refine lv_aload_n hx hb dX5_isSoundByRowSteps_61 rfl (lv_at hl 0 rfl) ?_
        refine gf hX hB cw0 rfl in5 3 (by decide) wm_1_140 rfl rfl dX5_isSoundByRowSteps_62 ?_
        obtain ⟨x19, hd18⟩ := ex1 (D_X4_findDeterminant r2 q4 f6)
        replace hR := bnd1_use hd18 hR
        refine call_V (n := 0) (As := []) (rest := [.long x17]) hX hB (k_X4_findDeterminant κ l a r2 q4 f6 x19 hd18) ⟨rfl, by decide, by decide, by decide +kernel⟩ wm_2_67 wm_2_68 wm_2_69 wm_1_3 wm_2_70 ⟨Nat.le_of_ble_eq_true rfl, Nat.le_of_ble_eq_true rfl⟩ ⟨Nat.le_of_ble_eq_true rfl, Nat.le_of_ble_eq_true rfl⟩ cw2 rfl rfl rfl hl.1 rfl (Nat.le_of_ble_eq_true rfl) dX5_isSoundByRowSteps_65 (fun o w' H locs hp hB => ?_)
        obtain ⟨rfl, rfl⟩ := hp
        refine W.eq (g2 := F0 m 68 ls [.long x19, .long x17]) rfl ?_
        refine W.lcmp hx hb dX5_isSoundByRowSteps_68 ?_
        refine lv_if_ne (tgt := 76) hx hb dX5_isSoundByRowSteps_69 (by decide) (fun c20 => ?_) (fun c20 => ?_)
        · replace hR := ifn c20 hR
          refine lv_iconst (v := 0) hx hb dX5_isSoundByRowSteps_76 (by decide) ?_
          rw [← hQ]
          exact end_i hX hB hA3 rfl rfl (by obtain ⟨rfl, rfl, rfl, rfl⟩ := pr4 hR; exact ⟨rfl, Or.inl rfl, (fun h => ho3 ((fun h => h) h)), (hq5.trans rfl), rfl⟩) (Nat.le_of_ble_eq_true rfl) (Nat.le_of_ble_eq_true rfl) dX5_isSoundByRowSteps_77
        · replace hR := ifp c20 hR
          refine lv_iconst (v := 1) hx hb dX5_isSoundByRowSteps_72 (by decide) ?_
          refine lv_goto (tgt := 77) hx hb dX5_isSoundByRowSteps_73 (by decide) ?_
          rw [← hQ]
          exact end_i hX hB hA3 rfl rfl (by obtain ⟨rfl, rfl, rfl, rfl⟩ := pr4 hR; exact ⟨rfl, Or.inr rfl, (fun h => ho3 ((fun h => h) h)), (hq5.trans rfl), rfl⟩) (Nat.le_of_ble_eq_true rfl) (Nat.le_of_ble_eq_true rfl) dX5_isSoundByRowSteps_77
noncomputable def D_X5_isSoundBySteps_54 (i : Nat) (r8 : Nat → Int32) (q10 : Nat → Int32) (f12 : Nat → Nat → Int64) (nn : Nat) : Int32 → Int32 × (Nat → Int32) × (Nat → Int32) × (Nat → Nat → Int64) := @Nat.rec (fun _ => Int32 → Int32 × (Nat → Int32) × (Nat → Int32) × (Nat → Nat → Int64)) (fun _ => default) (fun _ lb54 (y2_54 : Int32) => (if (r8 (2 * i)) ≤ y2_54 then (1, r8, q10, f12) else (if (r8 (2 * i + 1)) ≤ y2_54 then (1, r8, q10, f12) else bnd1 (D_X0_findDivisor r8 q10 f12 i y2_54) (fun (x37 : Int64) => bnd1 (D_X3_get r8 q10 f12 8 y2_54 y2_54) (fun (x39 : Int64) => bnd1 (D_X0_findDivisor r8 q10 f12 i (y2_54 + 1)) (fun (x41 : Int64) => (if (lg_cmp (x37 * x39) x41) = 0 then (lb54 (y2_54 + 1)) else (0, r8, q10, f12)))))))) nn
theorem D_X5_isSoundBySteps_54_s {i : Nat} {r8 : Nat → Int32} {q10 : Nat → Int32} {f12 : Nat → Nat → Int64} {nn : Nat} {y2_54 : Int32} : D_X5_isSoundBySteps_54 i r8 q10 f12 (nn + 1) y2_54 = (if (r8 (2 * i)) ≤ y2_54 then (1, r8, q10, f12) else (if (r8 (2 * i + 1)) ≤ y2_54 then (1, r8, q10, f12) else bnd1 (D_X0_findDivisor r8 q10 f12 i y2_54) (fun (x37 : Int64) => bnd1 (D_X3_get r8 q10 f12 8 y2_54 y2_54) (fun (x39 : Int64) => bnd1 (D_X0_findDivisor r8 q10 f12 i (y2_54 + 1)) (fun (x41 : Int64) => (if (lg_cmp (x37 * x39) x41) = 0 then ((D_X5_isSoundBySteps_54 i r8 q10 f12 nn) (y2_54 + 1)) else (0, r8, q10, f12))))))) := rfl
noncomputable def D_X5_isSoundBySteps (r : Nat → Int32) (q : Nat → Int32) (f : Nat → Nat → Int64) (i : Nat) : Int32 × (Nat → Int32) × (Nat → Int32) × (Nat → Nat → Int64) := bnd3 (D_X3_becomeProduct r q f 4 9 i) (fun (r2 : Nat → Int32) (q4 : Nat → Int32) (f6 : Nat → Nat → Int64) => bnd3 (D_X3_becomeProduct r2 q4 f6 5 4 10) (fun (r8 : Nat → Int32) (q10 : Nat → Int32) (f12 : Nat → Nat → Int64) => bnd1 (D_X3_isLike r8 q10 f12 5 8) (fun (x14 : Int32) => (if x14 = 0 then (0, r8, q10, f12) else (D_X5_isSoundBySteps_54 i r8 q10 f12 (gap (r8 (2 * i)) 0 + 1) 0)))))
theorem D_X5_isSoundBySteps_s {r : Nat → Int32} {q : Nat → Int32} {f : Nat → Nat → Int64} {i : Nat} : D_X5_isSoundBySteps r q f i = bnd3 (D_X3_becomeProduct r q f 4 9 i) (fun (r2 : Nat → Int32) (q4 : Nat → Int32) (f6 : Nat → Nat → Int64) => bnd3 (D_X3_becomeProduct r2 q4 f6 5 4 10) (fun (r8 : Nat → Int32) (q10 : Nat → Int32) (f12 : Nat → Nat → Int64) => bnd1 (D_X3_isLike r8 q10 f12 5 8) (fun (x14 : Int32) => (if x14 = 0 then (0, r8, q10, f12) else (D_X5_isSoundBySteps_54 i r8 q10 f12 (gap (r8 (2 * i)) 0 + 1) 0))))) := rfl
set_option maxHeartbeats 4000000 in
set_option maxRecDepth 100000 in
theorem k_X5_isSoundBySteps (κ : Kt) (l : Launch) (a : Nat → Nat) (r q : Nat → Int32) (f : Nat → Nat → Int64) (i : Nat) (hi : i < 15) (o_x : Int32) (o_r : Nat → Int32) (o_q : Nat → Int32) (o_f : Nat → Nat → Int64) (hR : D_X5_isSoundBySteps r q f i = (o_x, o_r, o_q, o_f)) : CM κ l yX5_isSoundBySteps cX5_isSoundBySteps 5 (some .boolean) 6 171 0 0 [.ref (a 0), .ref (a (6 + 2 * i))] (cw κ a r q f) (fun o w' => o = some (.int o_x) ∧ (o_x = 0 ∨ o_x = 1) ∧ (okr r → okr o_r) ∧ o_q 4 = q 4 ∧ w' = cw κ a o_r o_q o_f) := by
  refine CM_begin (plainFor_of_name (by decide)) (Nat.le_of_ble_eq_true rfl) ?_
  intro p e s m args below meth c A Q hX hnm hA3 hQ hB ls hl
  have hx := hX.1.1
  have hb := hX.1.2.1
  have hl : lv_has ls 5 [(0, .ref (a 0)), (1, .ref (a (6 + 2 * i)))] := hl
  replace hR := (D_X5_isSoundBySteps_s).symm.trans hR
  refine lv_aload_n hx hb dX5_isSoundBySteps_0 rfl (lv_at hl 0 rfl) ?_
  refine gf hX hB cw0 rfl in5 1 (by decide) wm_1_138 rfl rfl dX5_isSoundBySteps_1 ?_
  refine lv_aload_n hx hb dX5_isSoundBySteps_4 rfl (lv_at hl 0 rfl) ?_
  refine gf hX hB cw0 rfl in5 4 (by decide) wm_1_141 rfl rfl dX5_isSoundBySteps_5 ?_
  refine gfN hX hB cw3 rfl in1 1 (by decide) wn_1_100 rfl rfl dX5_isSoundBySteps_8 ?_
  refine lv_aload_n hx hb dX5_isSoundBySteps_11 rfl (lv_at hl 1 rfl) ?_
  obtain ⟨r2, q4, f6, hd1⟩ := ex3 (D_X3_becomeProduct r q f 4 9 i)
  replace hR := bnd3_use hd1 hR
  refine call_V (n := 2) (As := [.ref (a 24), .ref (a (6 + 2 * i))]) (rest := []) hX hB (k_X3_becomeProduct κ l a r q f 4 9 i (by decide) (by decide) hi r2 q4 f6 hd1) ⟨rfl, by decide, by decide, by decide +kernel⟩ wm_2_40 wm_2_41 wm_2_42 wm_1_2 wm_2_43 ⟨Nat.le_of_ble_eq_true rfl, Nat.le_of_ble_eq_true rfl⟩ ⟨Nat.le_of_ble_eq_true rfl, Nat.le_of_ble_eq_true rfl⟩ (cwG (i := 4) (by decide)) rfl rfl rfl hl.1 rfl (Nat.le_of_ble_eq_true rfl) dX5_isSoundBySteps_12 (fun o w' H locs hp hB => ?_)
  obtain ⟨rfl, ho3, hq5, rfl⟩ := hp
  refine W.eq (g2 := F0 m 15 ls []) rfl ?_
  refine lv_aload_n hx hb dX5_isSoundBySteps_15 rfl (lv_at hl 0 rfl) ?_
  refine gf hX hB cw0 rfl in5 2 (by decide) wm_1_139 rfl rfl dX5_isSoundBySteps_16 ?_
  refine lv_aload_n hx hb dX5_isSoundBySteps_19 rfl (lv_at hl 0 rfl) ?_
  refine gf hX hB cw0 rfl in5 1 (by decide) wm_1_138 rfl rfl dX5_isSoundBySteps_20 ?_
  refine lv_aload_n hx hb dX5_isSoundBySteps_23 rfl (lv_at hl 0 rfl) ?_
  refine gf hX hB cw0 rfl in5 4 (by decide) wm_1_141 rfl rfl dX5_isSoundBySteps_24 ?_
  refine gfN hX hB cw3 rfl in1 2 (by decide) wn_1_103 rfl rfl dX5_isSoundBySteps_27 ?_
  obtain ⟨r8, q10, f12, hd7⟩ := ex3 (D_X3_becomeProduct r2 q4 f6 5 4 10)
  replace hR := bnd3_use hd7 hR
  refine call_V (n := 2) (As := [.ref (a 14), .ref (a 26)]) (rest := []) hX hB (k_X3_becomeProduct κ l a r2 q4 f6 5 4 10 (by decide) (by decide) (by decide) r8 q10 f12 hd7) ⟨rfl, by decide, by decide, by decide +kernel⟩ wm_2_40 wm_2_41 wm_2_42 wm_1_2 wm_2_43 ⟨Nat.le_of_ble_eq_true rfl, Nat.le_of_ble_eq_true rfl⟩ ⟨Nat.le_of_ble_eq_true rfl, Nat.le_of_ble_eq_true rfl⟩ (cwG (i := 5) (by decide)) rfl rfl rfl hl.1 rfl (Nat.le_of_ble_eq_true rfl) dX5_isSoundBySteps_30 (fun o w' H locs hp hB => ?_)
  obtain ⟨rfl, ho9, hq11, rfl⟩ := hp
  refine W.eq (g2 := F0 m 33 ls []) rfl ?_
  refine lv_aload_n hx hb dX5_isSoundBySteps_33 rfl (lv_at hl 0 rfl) ?_
  refine gf hX hB cw0 rfl in5 2 (by decide) wm_1_139 rfl rfl dX5_isSoundBySteps_34 ?_
  refine lv_aload_n hx hb dX5_isSoundBySteps_37 rfl (lv_at hl 0 rfl) ?_
  refine gf hX hB cw0 rfl in5 4 (by decide) wm_1_141 rfl rfl dX5_isSoundBySteps_38 ?_
  refine gfN hX hB cw3 rfl in1 0 (by decide) wn_1_97 rfl rfl dX5_isSoundBySteps_41 ?_
  obtain ⟨x14, hd13⟩ := ex1 (D_X3_isLike r8 q10 f12 5 8)
  replace hR := bnd1_use hd13 hR
  refine call_V (n := 1) (As := [.ref (a 22)]) (rest := []) hX hB (k_X3_isLike κ l a r8 q10 f12 5 8 (by decide) (by decide) x14 hd13) ⟨rfl, by decide, by decide, by decide +kernel⟩ wm_2_44 wm_2_45 wm_2_46 wm_1_2 wm_2_47 ⟨Nat.le_of_ble_eq_true rfl, Nat.le_of_ble_eq_true rfl⟩ ⟨Nat.le_of_ble_eq_true rfl, Nat.le_of_ble_eq_true rfl⟩ (cwG (i := 5) (by decide)) rfl rfl rfl hl.1 rfl (Nat.le_of_ble_eq_true rfl) dX5_isSoundBySteps_44 (fun o w' H locs hp hB => ?_)
  obtain ⟨rfl, bx14, rfl⟩ := hp
  refine W.eq (g2 := F0 m 47 ls [.int x14]) rfl ?_
  refine lv_if_ne (tgt := 52) hx hb dX5_isSoundBySteps_47 (by decide) (fun c15 => ?_) (fun c15 => ?_)
  · replace hR := ifn c15 hR
    refine lv_iconst (v := 0) hx hb dX5_isSoundBySteps_52 (by decide) ?_
    refine lv_istore_n (lv' := [(2, .int 0), (0, .ref (a 0)), (1, .ref (a (6 + 2 * i)))]) hx hb dX5_isSoundBySteps_53 rfl hl (by decide) rfl (fun ls hl => ?_)
    have lp54 : ∀ (nn54 : Nat) (y2_54 : Int32) (H : Heap) (locs : List Loc), gap (r8 (2 * i)) y2_54 < nn54 → D_X5_isSoundBySteps_54 i r8 q10 f12 nn54 y2_54 = (o_x, o_r, o_q, o_f) → Bd κ A s (cw κ a r8 q10 f12) H locs → ∀ ls : Array Slot, lv_has ls 5 [(2, .int y2_54), (0, .ref (a 0)), (1, .ref (a (6 + 2 * i)))] → W p l e (Rm 6 171 0 0) s m args below meth c H locs 0 0 Q (F0 m 54 ls []) := by
      intro nn54
      induction nn54 with
      | zero => intro y2_54 H locs hμ; exact absurd hμ (Nat.not_lt_zero _)
      | succ nn54 ih54 =>
        intro y2_54 H locs hμ54 hR hB ls hl
        replace hR := (D_X5_isSoundBySteps_54_s).symm.trans hR
        refine lv_iload_n hx hb dX5_isSoundBySteps_54 rfl (lv_at hl 0 rfl) ?_
        refine lv_aload_n hx hb dX5_isSoundBySteps_55 rfl (lv_at hl 2 rfl) ?_
        refine gfN hX hB (cwG (i := i) hi) rfl in3 1 (by decide) wn_1_51 rfl rfl dX5_isSoundBySteps_56 ?_
        refine lv_icmp_ge (tgt := 109) hx hb dX5_isSoundBySteps_59 (by decide) (fun c34 => ?_) (fun c34 => ?_)
        · replace hR := ifp c34 hR
          refine lv_iconst (v := 1) hx hb dX5_isSoundBySteps_109 (by decide) ?_
          rw [← hQ]
          exact end_i hX hB hA3 rfl rfl (by obtain ⟨rfl, rfl, rfl, rfl⟩ := pr4 hR; exact ⟨rfl, Or.inr rfl, (fun h => ho9 ((fun h => ho3 ((fun h => h) h)) h)), (hq11.trans (hq5.trans rfl)), rfl⟩) (Nat.le_of_ble_eq_true rfl) (Nat.le_of_ble_eq_true rfl) dX5_isSoundBySteps_110
        · replace hR := ifn c34 hR
          refine lv_iload_n hx hb dX5_isSoundBySteps_62 rfl (lv_at hl 0 rfl) ?_
          refine lv_aload_n hx hb dX5_isSoundBySteps_63 rfl (lv_at hl 2 rfl) ?_
          refine gfN hX hB (cwG (i := i) hi) rfl in3 2 (by decide) wn_1_57 rfl rfl dX5_isSoundBySteps_64 ?_
          refine lv_icmp_ge (tgt := 109) hx hb dX5_isSoundBySteps_67 (by decide) (fun c35 => ?_) (fun c35 => ?_)
          · replace hR := ifp c35 hR
            refine lv_iconst (v := 1) hx hb dX5_isSoundBySteps_109 (by decide) ?_
            rw [← hQ]
            exact end_i hX hB hA3 rfl rfl (by obtain ⟨rfl, rfl, rfl, rfl⟩ := pr4 hR; exact ⟨rfl, Or.inr rfl, (fun h => ho9 ((fun h => ho3 ((fun h => h) h)) h)), (hq11.trans (hq5.trans rfl)), rfl⟩) (Nat.le_of_ble_eq_true rfl) (Nat.le_of_ble_eq_true rfl) dX5_isSoundBySteps_110
          · replace hR := ifn c35 hR
            refine lv_aload_n hx hb dX5_isSoundBySteps_70 rfl (lv_at hl 2 rfl) ?_
            refine lv_iload_n hx hb dX5_isSoundBySteps_71 rfl (lv_at hl 0 rfl) ?_
            obtain ⟨x37, hd36⟩ := ex1 (D_X0_findDivisor r8 q10 f12 i y2_54)
            replace hR := bnd1_use hd36 hR
            refine call_S (n := 2) (As := [.ref (a (6 + 2 * i)), .int y2_54]) (rest := []) hX hB (k_X0_findDivisor κ l a r8 q10 f12 i y2_54 hi x37 hd36) ⟨by decide, by decide, by decide +kernel⟩ wm_2_122 wm_2_56 wm_1_29 wm_2_57 ⟨Nat.le_of_ble_eq_true rfl, Nat.le_of_ble_eq_true rfl⟩ ⟨Nat.le_of_ble_eq_true rfl, Nat.le_of_ble_eq_true rfl⟩ rfl hl.1 rfl (Nat.le_of_ble_eq_true rfl) dX5_isSoundBySteps_72 (fun o w' H locs hp hB => ?_)
            obtain ⟨rfl, rfl⟩ := hp
            refine W.eq (g2 := F0 m 75 ls [.long x37]) rfl ?_
            refine lv_lstore_n (lv' := [(3, .long x37), (2, .int y2_54), (0, .ref (a 0)), (1, .ref (a (6 + 2 * i)))]) hx hb dX5_isSoundBySteps_75 rfl hl (by decide) rfl (fun ls hl => ?_)
            refine lv_lload_n hx hb dX5_isSoundBySteps_76 rfl (lv_at hl 0 rfl) ?_
            refine lv_aload_n hx hb dX5_isSoundBySteps_77 rfl (lv_at hl 2 rfl) ?_
            refine gf hX hB cw0 rfl in5 4 (by decide) wm_1_141 rfl rfl dX5_isSoundBySteps_78 ?_
            refine gfN hX hB cw3 rfl in1 0 (by decide) wn_1_97 rfl rfl dX5_isSoundBySteps_81 ?_
            refine lv_iload_n hx hb dX5_isSoundBySteps_84 rfl (lv_at hl 1 rfl) ?_
            refine lv_iload_n hx hb dX5_isSoundBySteps_85 rfl (lv_at hl 1 rfl) ?_
            obtain ⟨x39, hd38⟩ := ex1 (D_X3_get r8 q10 f12 8 y2_54 y2_54)
            replace hR := bnd1_use hd38 hR
            refine call_V (n := 2) (As := [.int y2_54, .int y2_54]) (rest := [.long x37]) hX hB (k_X3_get κ l a r8 q10 f12 8 y2_54 y2_54 (by decide) x39 hd38) ⟨rfl, by decide, by decide, by decide +kernel⟩ wm_2_123 wm_1_187 wm_1_188 wm_1_2 wm_1_189 ⟨Nat.le_of_ble_eq_true rfl, Nat.le_of_ble_eq_true rfl⟩ ⟨Nat.le_of_ble_eq_true rfl, Nat.le_of_ble_eq_true rfl⟩ (cwG (i := 8) (by decide)) rfl rfl rfl hl.1 rfl (Nat.le_of_ble_eq_true rfl) dX5_isSoundBySteps_86 (fun o w' H locs hp hB => ?_)
            obtain ⟨rfl, rfl⟩ := hp
            refine W.eq (g2 := F0 m 89 ls [.long x39, .long x37]) rfl ?_
            refine lv_lmul hx hb dX5_isSoundBySteps_89 ?_
            refine lv_aload_n hx hb dX5_isSoundBySteps_90 rfl (lv_at hl 3 rfl) ?_
            refine lv_iload_n hx hb dX5_isSoundBySteps_91 rfl (lv_at hl 1 rfl) ?_
            refine lv_iconst (v := 1) hx hb dX5_isSoundBySteps_92 (by decide) ?_
            refine lv_iadd hx hb dX5_isSoundBySteps_93 ?_
            obtain ⟨x41, hd40⟩ := ex1 (D_X0_findDivisor r8 q10 f12 i (y2_54 + 1))
            replace hR := bnd1_use hd40 hR
            refine call_S (n := 2) (As := [.ref (a (6 + 2 * i)), .int (y2_54 + 1)]) (rest := [.long (x37 * x39)]) hX hB (k_X0_findDivisor κ l a r8 q10 f12 i (y2_54 + 1) hi x41 hd40) ⟨by decide, by decide, by decide +kernel⟩ wm_2_122 wm_2_56 wm_1_29 wm_2_57 ⟨Nat.le_of_ble_eq_true rfl, Nat.le_of_ble_eq_true rfl⟩ ⟨Nat.le_of_ble_eq_true rfl, Nat.le_of_ble_eq_true rfl⟩ rfl hl.1 rfl (Nat.le_of_ble_eq_true rfl) dX5_isSoundBySteps_94 (fun o w' H locs hp hB => ?_)
            obtain ⟨rfl, rfl⟩ := hp
            refine W.eq (g2 := F0 m 97 ls [.long x41, .long (x37 * x39)]) rfl ?_
            refine W.lcmp hx hb dX5_isSoundBySteps_97 ?_
            refine lv_if_eq (tgt := 103) hx hb dX5_isSoundBySteps_98 (by decide) (fun c42 => ?_) (fun c42 => ?_)
            · replace hR := ifp c42 hR
              refine lv_iinc (v := y2_54 + 1) (lv' := [(2, .int (y2_54 + 1)), (3, .long x37), (0, .ref (a 0)), (1, .ref (a (6 + 2 * i)))]) hx hb dX5_isSoundBySteps_103 hl (k := 1) rfl rfl (by decide) rfl (fun ls hl => ?_)
              refine lv_goto (tgt := 54) hx hb dX5_isSoundBySteps_106 (by decide) ?_
              exact ih54 (y2_54 + 1) _ _  (gap_step c34 hμ54) hR hB _ (lv_sub hl [0, 2, 3] rfl)
            · replace hR := ifn c42 hR
              refine lv_iconst (v := 0) hx hb dX5_isSoundBySteps_101 (by decide) ?_
              rw [← hQ]
              exact end_i hX hB hA3 rfl rfl (by obtain ⟨rfl, rfl, rfl, rfl⟩ := pr4 hR; exact ⟨rfl, Or.inl rfl, (fun h => ho9 ((fun h => ho3 ((fun h => h) h)) h)), (hq11.trans (hq5.trans rfl)), rfl⟩) (Nat.le_of_ble_eq_true rfl) (Nat.le_of_ble_eq_true rfl) dX5_isSoundBySteps_102
    exact lp54 _ 0 _ _  (Nat.lt_succ_self _) hR hB _ hl
  · replace hR := ifp c15 hR
    refine lv_iconst (v := 0) hx hb dX5_isSoundBySteps_50 (by decide) ?_
    rw [← hQ]
    exact end_i hX hB hA3 rfl rfl (by obtain ⟨rfl, rfl, rfl, rfl⟩ := pr4 hR; exact ⟨rfl, Or.inl rfl, (fun h => ho9 ((fun h => ho3 ((fun h => h) h)) h)), (hq11.trans (hq5.trans rfl)), rfl⟩) (Nat.le_of_ble_eq_true rfl) (Nat.le_of_ble_eq_true rfl) dX5_isSoundBySteps_51
noncomputable def D_X5_isFirstSound (r : Nat → Int32) (q : Nat → Int32) (f : Nat → Nat → Int64) : Int32 × (Nat → Int32) × (Nat → Int32) × (Nat → Nat → Int64) := (if 3 < (r (2 * 0)) then (1, r, q, f) else (if (r (2 * 0 + 1)) ≤ 3 then (if (r (2 * 0)) = (r (2 * 0 + 1)) then bnd1 (D_X0_byFirstRow r q f 0) (fun (x50 : Int64) => bnd1 (D_X0_bySequences_4 r q f 0 0 0) (fun (x52 : Int64) => (if (lg_cmp x50 x52) = 0 then bnd3 (D_X4_walk r q f 0) (fun (r55 : Nat → Int32) (q57 : Nat → Int32) (f59 : Nat → Nat → Int64) => (if (q57 0) = 0 then bnd4 (D_X5_isSoundByRowSteps r55 q57 f59 0) (fun (x77 : Int32) (r78 : Nat → Int32) (q80 : Nat → Int32) (f82 : Nat → Nat → Int64) => (if x77 = 0 then (0, r78, q80, f82) else bnd3 (D_X1_walk r78 q80 f82 0) (fun (r85 : Nat → Int32) (q87 : Nat → Int32) (f89 : Nat → Nat → Int64) => (if (q87 1) = 0 then bnd4 (D_X5_isSoundBySteps r85 q87 f89 0) (fun (x92 : Int32) (r93 : Nat → Int32) (q95 : Nat → Int32) (f97 : Nat → Nat → Int64) => (if x92 = 0 then (0, r93, q95, f97) else (1, r93, q95, f97))) else (1, r85, q87, f89))))) else bnd3 (D_X1_walk r55 q57 f59 0) (fun (r62 : Nat → Int32) (q64 : Nat → Int32) (f66 : Nat → Nat → Int64) => (if (q64 1) = 0 then bnd4 (D_X5_isSoundBySteps r62 q64 f66 0) (fun (x69 : Int32) (r70 : Nat → Int32) (q72 : Nat → Int32) (f74 : Nat → Nat → Int64) => (if x69 = 0 then (0, r70, q72, f74) else (1, r70, q72, f74))) else (1, r62, q64, f66))))) else (0, r, q, f)))) else bnd3 (D_X4_walk r q f 0) (fun (r5 : Nat → Int32) (q7 : Nat → Int32) (f9 : Nat → Nat → Int64) => (if (q7 0) = 0 then bnd4 (D_X5_isSoundByRowSteps r5 q7 f9 0) (fun (x27 : Int32) (r28 : Nat → Int32) (q30 : Nat → Int32) (f32 : Nat → Nat → Int64) => (if x27 = 0 then (0, r28, q30, f32) else bnd3 (D_X1_walk r28 q30 f32 0) (fun (r35 : Nat → Int32) (q37 : Nat → Int32) (f39 : Nat → Nat → Int64) => (if (q37 1) = 0 then bnd4 (D_X5_isSoundBySteps r35 q37 f39 0) (fun (x42 : Int32) (r43 : Nat → Int32) (q45 : Nat → Int32) (f47 : Nat → Nat → Int64) => (if x42 = 0 then (0, r43, q45, f47) else (1, r43, q45, f47))) else (1, r35, q37, f39))))) else bnd3 (D_X1_walk r5 q7 f9 0) (fun (r12 : Nat → Int32) (q14 : Nat → Int32) (f16 : Nat → Nat → Int64) => (if (q14 1) = 0 then bnd4 (D_X5_isSoundBySteps r12 q14 f16 0) (fun (x19 : Int32) (r20 : Nat → Int32) (q22 : Nat → Int32) (f24 : Nat → Nat → Int64) => (if x19 = 0 then (0, r20, q22, f24) else (1, r20, q22, f24))) else (1, r12, q14, f16)))))) else (1, r, q, f)))
theorem D_X5_isFirstSound_s {r : Nat → Int32} {q : Nat → Int32} {f : Nat → Nat → Int64} : D_X5_isFirstSound r q f = (if 3 < (r (2 * 0)) then (1, r, q, f) else (if (r (2 * 0 + 1)) ≤ 3 then (if (r (2 * 0)) = (r (2 * 0 + 1)) then bnd1 (D_X0_byFirstRow r q f 0) (fun (x50 : Int64) => bnd1 (D_X0_bySequences_4 r q f 0 0 0) (fun (x52 : Int64) => (if (lg_cmp x50 x52) = 0 then bnd3 (D_X4_walk r q f 0) (fun (r55 : Nat → Int32) (q57 : Nat → Int32) (f59 : Nat → Nat → Int64) => (if (q57 0) = 0 then bnd4 (D_X5_isSoundByRowSteps r55 q57 f59 0) (fun (x77 : Int32) (r78 : Nat → Int32) (q80 : Nat → Int32) (f82 : Nat → Nat → Int64) => (if x77 = 0 then (0, r78, q80, f82) else bnd3 (D_X1_walk r78 q80 f82 0) (fun (r85 : Nat → Int32) (q87 : Nat → Int32) (f89 : Nat → Nat → Int64) => (if (q87 1) = 0 then bnd4 (D_X5_isSoundBySteps r85 q87 f89 0) (fun (x92 : Int32) (r93 : Nat → Int32) (q95 : Nat → Int32) (f97 : Nat → Nat → Int64) => (if x92 = 0 then (0, r93, q95, f97) else (1, r93, q95, f97))) else (1, r85, q87, f89))))) else bnd3 (D_X1_walk r55 q57 f59 0) (fun (r62 : Nat → Int32) (q64 : Nat → Int32) (f66 : Nat → Nat → Int64) => (if (q64 1) = 0 then bnd4 (D_X5_isSoundBySteps r62 q64 f66 0) (fun (x69 : Int32) (r70 : Nat → Int32) (q72 : Nat → Int32) (f74 : Nat → Nat → Int64) => (if x69 = 0 then (0, r70, q72, f74) else (1, r70, q72, f74))) else (1, r62, q64, f66))))) else (0, r, q, f)))) else bnd3 (D_X4_walk r q f 0) (fun (r5 : Nat → Int32) (q7 : Nat → Int32) (f9 : Nat → Nat → Int64) => (if (q7 0) = 0 then bnd4 (D_X5_isSoundByRowSteps r5 q7 f9 0) (fun (x27 : Int32) (r28 : Nat → Int32) (q30 : Nat → Int32) (f32 : Nat → Nat → Int64) => (if x27 = 0 then (0, r28, q30, f32) else bnd3 (D_X1_walk r28 q30 f32 0) (fun (r35 : Nat → Int32) (q37 : Nat → Int32) (f39 : Nat → Nat → Int64) => (if (q37 1) = 0 then bnd4 (D_X5_isSoundBySteps r35 q37 f39 0) (fun (x42 : Int32) (r43 : Nat → Int32) (q45 : Nat → Int32) (f47 : Nat → Nat → Int64) => (if x42 = 0 then (0, r43, q45, f47) else (1, r43, q45, f47))) else (1, r35, q37, f39))))) else bnd3 (D_X1_walk r5 q7 f9 0) (fun (r12 : Nat → Int32) (q14 : Nat → Int32) (f16 : Nat → Nat → Int64) => (if (q14 1) = 0 then bnd4 (D_X5_isSoundBySteps r12 q14 f16 0) (fun (x19 : Int32) (r20 : Nat → Int32) (q22 : Nat → Int32) (f24 : Nat → Nat → Int64) => (if x19 = 0 then (0, r20, q22, f24) else (1, r20, q22, f24))) else (1, r12, q14, f16)))))) else (1, r, q, f))) := rfl
set_option maxHeartbeats 4000000 in
set_option maxRecDepth 100000 in
theorem k_X5_isFirstSound (κ : Kt) (l : Launch) (a : Nat → Nat) (r q : Nat → Int32) (f : Nat → Nat → Int64) (hok : okr r) (o_x : Int32) (o_r : Nat → Int32) (o_q : Nat → Int32) (o_f : Nat → Nat → Int64) (hR : D_X5_isFirstSound r q f = (o_x, o_r, o_q, o_f)) : CM κ l yX5_isFirstSound cX5_isFirstSound 2 (some .boolean) 8 214 0 0 [.ref (a 0)] (cw κ a r q f) (fun o w' => o = some (.int o_x) ∧ (o_x = 0 ∨ o_x = 1) ∧ (okr r → okr o_r) ∧ o_q 4 = q 4 ∧ w' = cw κ a o_r o_q o_f) := by
  refine CM_begin (plainFor_of_name (by decide)) (Nat.le_of_ble_eq_true rfl) ?_
  intro p e s m args below meth c A Q hX hnm hA3 hQ hB ls hl
  have hx := hX.1.1
  have hb := hX.1.2.1
  have hl : lv_has ls 2 [(0, .ref (a 0))] := hl
  replace hR := (D_X5_isFirstSound_s).symm.trans hR
  refine lv_aload_n hx hb dX5_isFirstSound_0 rfl (lv_at hl 0 rfl) ?_
  refine gf hX hB cw0 rfl in5 0 (by decide) wm_1_137 rfl rfl dX5_isFirstSound_1 ?_
  refine lv_iconst (v := 0) hx hb dX5_isFirstSound_4 (by decide) ?_
  refine aaldG hX hB cw1 (vp_in_iff.mpr ⟨by decide, by decide⟩) (rfl : (fun j => some (a (6 + 2 * j))) (Int32.toNatClampNeg 0) = some (a 6)) dX5_isFirstSound_5 ?_
  refine lv_astore_n (lv' := [(1, .ref (a 6)), (0, .ref (a 0))]) hx hb dX5_isFirstSound_6 rfl hl (by decide) rfl (fun ls hl => ?_)
  refine lv_aload_n hx hb dX5_isFirstSound_7 rfl (lv_at hl 0 rfl) ?_
  refine gfN hX hB (cwG (i := 0) (by decide)) rfl in3 1 (by decide) wn_1_51 rfl rfl dX5_isFirstSound_8 ?_
  refine lv_iconst (v := 3) hx hb dX5_isFirstSound_11 (by decide) ?_
  refine lv_icmp_gt (tgt := 23) hx hb dX5_isFirstSound_12 (by decide) (fun c1 => ?_) (fun c1 => ?_)
  · replace hR := ifp c1 hR
    refine lv_iconst (v := 1) hx hb dX5_isFirstSound_23 (by decide) ?_
    rw [← hQ]
    exact end_i hX hB hA3 rfl rfl (by obtain ⟨rfl, rfl, rfl, rfl⟩ := pr4 hR; exact ⟨rfl, Or.inr rfl, (fun h => h), rfl, rfl⟩) (Nat.le_of_ble_eq_true rfl) (Nat.le_of_ble_eq_true rfl) dX5_isFirstSound_24
  · replace hR := ifn c1 hR
    refine lv_aload_n hx hb dX5_isFirstSound_15 rfl (lv_at hl 0 rfl) ?_
    refine gfN hX hB (cwG (i := 0) (by decide)) rfl in3 2 (by decide) wn_1_57 rfl rfl dX5_isFirstSound_16 ?_
    refine lv_iconst (v := 3) hx hb dX5_isFirstSound_19 (by decide) ?_
    refine lv_icmp_le (tgt := 25) hx hb dX5_isFirstSound_20 (by decide) (fun c2 => ?_) (fun c2 => ?_)
    · replace hR := ifp c2 hR
      refine lv_aload_n hx hb dX5_isFirstSound_25 rfl (lv_at hl 0 rfl) ?_
      refine gfN hX hB (cwG (i := 0) (by decide)) rfl in3 1 (by decide) wn_1_51 rfl rfl dX5_isFirstSound_26 ?_
      refine lv_aload_n hx hb dX5_isFirstSound_29 rfl (lv_at hl 0 rfl) ?_
      refine gfN hX hB (cwG (i := 0) (by decide)) rfl in3 2 (by decide) wn_1_57 rfl rfl dX5_isFirstSound_30 ?_
      refine lv_icmp_ne (tgt := 52) hx hb dX5_isFirstSound_33 (by decide) (fun c3 => ?_) (fun c3 => ?_)
      · replace hR := ifn c3 hR
        refine lv_aload_n hx hb dX5_isFirstSound_52 rfl (lv_at hl 1 rfl) ?_
        refine gf hX hB cw0 rfl in5 3 (by decide) wm_1_140 rfl rfl dX5_isFirstSound_53 ?_
        refine lv_aload_n hx hb dX5_isFirstSound_56 rfl (lv_at hl 0 rfl) ?_
        obtain ⟨r5, q7, f9, hd4⟩ := ex3 (D_X4_walk r q f 0)
        replace hR := bnd3_use hd4 hR
        refine call_V (n := 1) (As := [.ref (a 6)]) (rest := []) hX hB (k_X4_walk κ l a r q f 0 (by decide) r5 q7 f9 hd4) ⟨rfl, by decide, by decide, by decide +kernel⟩ wm_1_200 wm_1_201 wm_1_202 wm_1_3 wm_1_203 ⟨Nat.le_of_ble_eq_true rfl, Nat.le_of_ble_eq_true rfl⟩ ⟨Nat.le_of_ble_eq_true rfl, Nat.le_of_ble_eq_true rfl⟩ cw2 rfl rfl rfl hl.1 rfl (Nat.le_of_ble_eq_true rfl) dX5_isFirstSound_57 (fun o w' H locs hp hB => ?_)
        obtain ⟨rfl, ho6, hq8, rfl⟩ := hp
        refine W.eq (g2 := F0 m 60 ls []) rfl ?_
        refine lv_aload_n hx hb dX5_isFirstSound_60 rfl (lv_at hl 1 rfl) ?_
        refine gf hX hB cw0 rfl in5 3 (by decide) wm_1_140 rfl rfl dX5_isFirstSound_61 ?_
        refine gfN hX hB cw2 rfl in4 2 (by decide) wn_1_79 rfl rfl dX5_isFirstSound_64 ?_
        refine lv_if_ne (tgt := 80) hx hb dX5_isFirstSound_67 (by decide) (fun c10 => ?_) (fun c10 => ?_)
        · replace hR := ifn c10 hR
          refine lv_aload_n hx hb dX5_isFirstSound_80 rfl (lv_at hl 1 rfl) ?_
          refine gf hX hB cw0 rfl in5 4 (by decide) wm_1_141 rfl rfl dX5_isFirstSound_81 ?_
          refine lv_aload_n hx hb dX5_isFirstSound_84 rfl (lv_at hl 0 rfl) ?_
          obtain ⟨r12, q14, f16, hd11⟩ := ex3 (D_X1_walk r5 q7 f9 0)
          replace hR := bnd3_use hd11 hR
          refine call_V (n := 1) (As := [.ref (a 6)]) (rest := []) hX hB (k_X1_walk κ l a r5 q7 f9 0 (by decide) r12 q14 f16 hd11) ⟨rfl, by decide, by decide, by decide +kernel⟩ wm_2_72 wm_2_73 wm_2_74 wm_1_4 wm_2_75 ⟨Nat.le_of_ble_eq_true rfl, Nat.le_of_ble_eq_true rfl⟩ ⟨Nat.le_of_ble_eq_true rfl, Nat.le_of_ble_eq_true rfl⟩ cw3 rfl rfl rfl hl.1 rfl (Nat.le_of_ble_eq_true rfl) dX5_isFirstSound_85 (fun o w' H locs hp hB => ?_)
          obtain ⟨rfl, ho13, hq15, rfl⟩ := hp
          refine W.eq (g2 := F0 m 88 ls []) rfl ?_
          refine lv_aload_n hx hb dX5_isFirstSound_88 rfl (lv_at hl 1 rfl) ?_
          refine gf hX hB cw0 rfl in5 4 (by decide) wm_1_141 rfl rfl dX5_isFirstSound_89 ?_
          refine gfN hX hB cw3 rfl in1 3 (by decide) wn_1_105 rfl rfl dX5_isFirstSound_92 ?_
          refine lv_if_ne (tgt := 106) hx hb dX5_isFirstSound_95 (by decide) (fun c17 => ?_) (fun c17 => ?_)
          · replace hR := ifn c17 hR
            refine lv_iconst (v := 1) hx hb dX5_isFirstSound_106 (by decide) ?_
            refine lv_goto (tgt := 111) hx hb dX5_isFirstSound_107 (by decide) ?_
            rw [← hQ]
            exact end_i hX hB hA3 rfl rfl (by obtain ⟨rfl, rfl, rfl, rfl⟩ := pr4 hR; exact ⟨rfl, Or.inr rfl, (fun h => ho13 ((fun h => ho6 ((fun h => h) h)) h)), (hq15.trans (hq8.trans rfl)), rfl⟩) (Nat.le_of_ble_eq_true rfl) (Nat.le_of_ble_eq_true rfl) dX5_isFirstSound_111
          · replace hR := ifp c17 hR
            refine lv_aload_n hx hb dX5_isFirstSound_98 rfl (lv_at hl 1 rfl) ?_
            refine lv_aload_n hx hb dX5_isFirstSound_99 rfl (lv_at hl 0 rfl) ?_
            obtain ⟨x19, r20, q22, f24, hd18⟩ := ex4 (D_X5_isSoundBySteps r12 q14 f16 0)
            replace hR := bnd4_use hd18 hR
            refine call_V (n := 1) (As := [.ref (a 6)]) (rest := []) hX hB (k_X5_isSoundBySteps κ l a r12 q14 f16 0 (by decide) x19 r20 q22 f24 hd18) ⟨rfl, by decide, by decide, by decide +kernel⟩ wm_2_118 wm_2_120 wp_14 wm_1_1 wm_2_121 ⟨Nat.le_of_ble_eq_true rfl, Nat.le_of_ble_eq_true rfl⟩ ⟨Nat.le_of_ble_eq_true rfl, Nat.le_of_ble_eq_true rfl⟩ cw0 rfl rfl rfl hl.1 rfl (Nat.le_of_ble_eq_true rfl) dX5_isFirstSound_100 (fun o w' H locs hp hB => ?_)
            obtain ⟨rfl, bx19, ho21, hq23, rfl⟩ := hp
            refine W.eq (g2 := F0 m 103 ls [.int x19]) rfl ?_
            refine lv_if_eq (tgt := 110) hx hb dX5_isFirstSound_103 (by decide) (fun c25 => ?_) (fun c25 => ?_)
            · replace hR := ifp c25 hR
              refine lv_iconst (v := 0) hx hb dX5_isFirstSound_110 (by decide) ?_
              rw [← hQ]
              exact end_i hX hB hA3 rfl rfl (by obtain ⟨rfl, rfl, rfl, rfl⟩ := pr4 hR; exact ⟨rfl, Or.inl rfl, (fun h => ho21 ((fun h => ho13 ((fun h => ho6 ((fun h => h) h)) h)) h)), (hq23.trans (hq15.trans (hq8.trans rfl))), rfl⟩) (Nat.le_of_ble_eq_true rfl) (Nat.le_of_ble_eq_true rfl) dX5_isFirstSound_111
            · replace hR := ifn c25 hR
              refine lv_iconst (v := 1) hx hb dX5_isFirstSound_106 (by decide) ?_
              refine lv_goto (tgt := 111) hx hb dX5_isFirstSound_107 (by decide) ?_
              rw [← hQ]
              exact end_i hX hB hA3 rfl rfl (by obtain ⟨rfl, rfl, rfl, rfl⟩ := pr4 hR; exact ⟨rfl, Or.inr rfl, (fun h => ho21 ((fun h => ho13 ((fun h => ho6 ((fun h => h) h)) h)) h)), (hq23.trans (hq15.trans (hq8.trans rfl))), rfl⟩) (Nat.le_of_ble_eq_true rfl) (Nat.le_of_ble_eq_true rfl) dX5_isFirstSound_111
        · replace hR := ifp c10 hR
          refine lv_aload_n hx hb dX5_isFirstSound_70 rfl (lv_at hl 1 rfl) ?_
          refine lv_aload_n hx hb dX5_isFirstSound_71 rfl (lv_at hl 0 rfl) ?_
          obtain ⟨x27, r28, q30, f32, hd26⟩ := ex4 (D_X5_isSoundByRowSteps r5 q7 f9 0)
          replace hR := bnd4_use hd26 hR
          refine call_V (n := 1) (As := [.ref (a 6)]) (rest := []) hX hB (k_X5_isSoundByRowSteps κ l a r5 q7 f9 0 (by decide) ((fun h => ho6 ((fun h => h) h)) hok) x27 r28 q30 f32 hd26) ⟨rfl, by decide, by decide, by decide +kernel⟩ wm_2_36 wm_2_38 wp_6 wm_1_1 wm_2_39 ⟨Nat.le_of_ble_eq_true rfl, Nat.le_of_ble_eq_true rfl⟩ ⟨Nat.le_of_ble_eq_true rfl, Nat.le_of_ble_eq_true rfl⟩ cw0 rfl rfl rfl hl.1 rfl (Nat.le_of_ble_eq_true rfl) dX5_isFirstSound_72 (fun o w' H locs hp hB => ?_)
          obtain ⟨rfl, bx27, ho29, hq31, rfl⟩ := hp
          refine W.eq (g2 := F0 m 75 ls [.int x27]) rfl ?_
          refine lv_if_ne (tgt := 80) hx hb dX5_isFirstSound_75 (by decide) (fun c33 => ?_) (fun c33 => ?_)
          · replace hR := ifn c33 hR
            refine lv_aload_n hx hb dX5_isFirstSound_80 rfl (lv_at hl 1 rfl) ?_
            refine gf hX hB cw0 rfl in5 4 (by decide) wm_1_141 rfl rfl dX5_isFirstSound_81 ?_
            refine lv_aload_n hx hb dX5_isFirstSound_84 rfl (lv_at hl 0 rfl) ?_
            obtain ⟨r35, q37, f39, hd34⟩ := ex3 (D_X1_walk r28 q30 f32 0)
            replace hR := bnd3_use hd34 hR
            refine call_V (n := 1) (As := [.ref (a 6)]) (rest := []) hX hB (k_X1_walk κ l a r28 q30 f32 0 (by decide) r35 q37 f39 hd34) ⟨rfl, by decide, by decide, by decide +kernel⟩ wm_2_72 wm_2_73 wm_2_74 wm_1_4 wm_2_75 ⟨Nat.le_of_ble_eq_true rfl, Nat.le_of_ble_eq_true rfl⟩ ⟨Nat.le_of_ble_eq_true rfl, Nat.le_of_ble_eq_true rfl⟩ cw3 rfl rfl rfl hl.1 rfl (Nat.le_of_ble_eq_true rfl) dX5_isFirstSound_85 (fun o w' H locs hp hB => ?_)
            obtain ⟨rfl, ho36, hq38, rfl⟩ := hp
            refine W.eq (g2 := F0 m 88 ls []) rfl ?_
            refine lv_aload_n hx hb dX5_isFirstSound_88 rfl (lv_at hl 1 rfl) ?_
            refine gf hX hB cw0 rfl in5 4 (by decide) wm_1_141 rfl rfl dX5_isFirstSound_89 ?_
            refine gfN hX hB cw3 rfl in1 3 (by decide) wn_1_105 rfl rfl dX5_isFirstSound_92 ?_
            refine lv_if_ne (tgt := 106) hx hb dX5_isFirstSound_95 (by decide) (fun c40 => ?_) (fun c40 => ?_)
            · replace hR := ifn c40 hR
              refine lv_iconst (v := 1) hx hb dX5_isFirstSound_106 (by decide) ?_
              refine lv_goto (tgt := 111) hx hb dX5_isFirstSound_107 (by decide) ?_
              rw [← hQ]
              exact end_i hX hB hA3 rfl rfl (by obtain ⟨rfl, rfl, rfl, rfl⟩ := pr4 hR; exact ⟨rfl, Or.inr rfl, (fun h => ho36 ((fun h => ho29 ((fun h => ho6 ((fun h => h) h)) h)) h)), (hq38.trans (hq31.trans (hq8.trans rfl))), rfl⟩) (Nat.le_of_ble_eq_true rfl) (Nat.le_of_ble_eq_true rfl) dX5_isFirstSound_111
            · replace hR := ifp c40 hR
              refine lv_aload_n hx hb dX5_isFirstSound_98 rfl (lv_at hl 1 rfl) ?_
              refine lv_aload_n hx hb dX5_isFirstSound_99 rfl (lv_at hl 0 rfl) ?_
              obtain ⟨x42, r43, q45, f47, hd41⟩ := ex4 (D_X5_isSoundBySteps r35 q37 f39 0)
              replace hR := bnd4_use hd41 hR
              refine call_V (n := 1) (As := [.ref (a 6)]) (rest := []) hX hB (k_X5_isSoundBySteps κ l a r35 q37 f39 0 (by decide) x42 r43 q45 f47 hd41) ⟨rfl, by decide, by decide, by decide +kernel⟩ wm_2_118 wm_2_120 wp_14 wm_1_1 wm_2_121 ⟨Nat.le_of_ble_eq_true rfl, Nat.le_of_ble_eq_true rfl⟩ ⟨Nat.le_of_ble_eq_true rfl, Nat.le_of_ble_eq_true rfl⟩ cw0 rfl rfl rfl hl.1 rfl (Nat.le_of_ble_eq_true rfl) dX5_isFirstSound_100 (fun o w' H locs hp hB => ?_)
              obtain ⟨rfl, bx42, ho44, hq46, rfl⟩ := hp
              refine W.eq (g2 := F0 m 103 ls [.int x42]) rfl ?_
              refine lv_if_eq (tgt := 110) hx hb dX5_isFirstSound_103 (by decide) (fun c48 => ?_) (fun c48 => ?_)
              · replace hR := ifp c48 hR
                refine lv_iconst (v := 0) hx hb dX5_isFirstSound_110 (by decide) ?_
                rw [← hQ]
                exact end_i hX hB hA3 rfl rfl (by obtain ⟨rfl, rfl, rfl, rfl⟩ := pr4 hR; exact ⟨rfl, Or.inl rfl, (fun h => ho44 ((fun h => ho36 ((fun h => ho29 ((fun h => ho6 ((fun h => h) h)) h)) h)) h)), (hq46.trans (hq38.trans (hq31.trans (hq8.trans rfl)))), rfl⟩) (Nat.le_of_ble_eq_true rfl) (Nat.le_of_ble_eq_true rfl) dX5_isFirstSound_111
              · replace hR := ifn c48 hR
                refine lv_iconst (v := 1) hx hb dX5_isFirstSound_106 (by decide) ?_
                refine lv_goto (tgt := 111) hx hb dX5_isFirstSound_107 (by decide) ?_
                rw [← hQ]
                exact end_i hX hB hA3 rfl rfl (by obtain ⟨rfl, rfl, rfl, rfl⟩ := pr4 hR; exact ⟨rfl, Or.inr rfl, (fun h => ho44 ((fun h => ho36 ((fun h => ho29 ((fun h => ho6 ((fun h => h) h)) h)) h)) h)), (hq46.trans (hq38.trans (hq31.trans (hq8.trans rfl)))), rfl⟩) (Nat.le_of_ble_eq_true rfl) (Nat.le_of_ble_eq_true rfl) dX5_isFirstSound_111
          · replace hR := ifp c33 hR
            refine lv_iconst (v := 0) hx hb dX5_isFirstSound_78 (by decide) ?_
            rw [← hQ]
            exact end_i hX hB hA3 rfl rfl (by obtain ⟨rfl, rfl, rfl, rfl⟩ := pr4 hR; exact ⟨rfl, Or.inl rfl, (fun h => ho29 ((fun h => ho6 ((fun h => h) h)) h)), (hq31.trans (hq8.trans rfl)), rfl⟩) (Nat.le_of_ble_eq_true rfl) (Nat.le_of_ble_eq_true rfl) dX5_isFirstSound_79
      · replace hR := ifp c3 hR
        refine lv_aload_n hx hb dX5_isFirstSound_36 rfl (lv_at hl 0 rfl) ?_
        obtain ⟨x50, hd49⟩ := ex1 (D_X0_byFirstRow r q f 0)
        replace hR := bnd1_use hd49 hR
        refine call_S (n := 1) (As := [.ref (a 6)]) (rest := []) hX hB (k_X0_byFirstRow κ l a r q f 0 (by decide) x50 hd49) ⟨by decide, by decide, by decide +kernel⟩ wm_1_180 wm_1_181 wm_1_29 wm_1_182 ⟨Nat.le_of_ble_eq_true rfl, Nat.le_of_ble_eq_true rfl⟩ ⟨Nat.le_of_ble_eq_true rfl, Nat.le_of_ble_eq_true rfl⟩ rfl hl.1 rfl (Nat.le_of_ble_eq_true rfl) dX5_isFirstSound_37 (fun o w' H locs hp hB => ?_)
        obtain ⟨rfl, rfl⟩ := hp
        refine W.eq (g2 := F0 m 40 ls [.long x50]) rfl ?_
        refine lv_aload_n hx hb dX5_isFirstSound_40 rfl (lv_at hl 0 rfl) ?_
        refine lv_iconst (v := 0) hx hb dX5_isFirstSound_41 (by decide) ?_
        refine lv_iconst (v := 0) hx hb dX5_isFirstSound_42 (by decide) ?_
        obtain ⟨x52, hd51⟩ := ex1 (D_X0_bySequences_4 r q f 0 0 0)
        replace hR := bnd1_use hd51 hR
        refine call_S (n := 3) (As := [.ref (a 6), .int 0, .int 0]) (rest := [.long x50]) hX hB (k_X0_bySequences_4 κ l a r q f 0 0 0 (by decide) (by decide) x52 hd51) ⟨by decide, by decide, by decide +kernel⟩ wm_1_190 wm_1_191 wm_1_29 wm_1_192 ⟨Nat.le_of_ble_eq_true rfl, Nat.le_of_ble_eq_true rfl⟩ ⟨Nat.le_of_ble_eq_true rfl, Nat.le_of_ble_eq_true rfl⟩ rfl hl.1 rfl (Nat.le_of_ble_eq_true rfl) dX5_isFirstSound_43 (fun o w' H locs hp hB => ?_)
        obtain ⟨rfl, rfl⟩ := hp
        refine W.eq (g2 := F0 m 46 ls [.long x52, .long x50]) rfl ?_
        refine W.lcmp hx hb dX5_isFirstSound_46 ?_
        refine lv_if_eq (tgt := 52) hx hb dX5_isFirstSound_47 (by decide) (fun c53 => ?_) (fun c53 => ?_)
        · replace hR := ifp c53 hR
          refine lv_aload_n hx hb dX5_isFirstSound_52 rfl (lv_at hl 1 rfl) ?_
          refine gf hX hB cw0 rfl in5 3 (by decide) wm_1_140 rfl rfl dX5_isFirstSound_53 ?_
          refine lv_aload_n hx hb dX5_isFirstSound_56 rfl (lv_at hl 0 rfl) ?_
          obtain ⟨r55, q57, f59, hd54⟩ := ex3 (D_X4_walk r q f 0)
          replace hR := bnd3_use hd54 hR
          refine call_V (n := 1) (As := [.ref (a 6)]) (rest := []) hX hB (k_X4_walk κ l a r q f 0 (by decide) r55 q57 f59 hd54) ⟨rfl, by decide, by decide, by decide +kernel⟩ wm_1_200 wm_1_201 wm_1_202 wm_1_3 wm_1_203 ⟨Nat.le_of_ble_eq_true rfl, Nat.le_of_ble_eq_true rfl⟩ ⟨Nat.le_of_ble_eq_true rfl, Nat.le_of_ble_eq_true rfl⟩ cw2 rfl rfl rfl hl.1 rfl (Nat.le_of_ble_eq_true rfl) dX5_isFirstSound_57 (fun o w' H locs hp hB => ?_)
          obtain ⟨rfl, ho56, hq58, rfl⟩ := hp
          refine W.eq (g2 := F0 m 60 ls []) rfl ?_
          refine lv_aload_n hx hb dX5_isFirstSound_60 rfl (lv_at hl 1 rfl) ?_
          refine gf hX hB cw0 rfl in5 3 (by decide) wm_1_140 rfl rfl dX5_isFirstSound_61 ?_
          refine gfN hX hB cw2 rfl in4 2 (by decide) wn_1_79 rfl rfl dX5_isFirstSound_64 ?_
          refine lv_if_ne (tgt := 80) hx hb dX5_isFirstSound_67 (by decide) (fun c60 => ?_) (fun c60 => ?_)
          · replace hR := ifn c60 hR
            refine lv_aload_n hx hb dX5_isFirstSound_80 rfl (lv_at hl 1 rfl) ?_
            refine gf hX hB cw0 rfl in5 4 (by decide) wm_1_141 rfl rfl dX5_isFirstSound_81 ?_
            refine lv_aload_n hx hb dX5_isFirstSound_84 rfl (lv_at hl 0 rfl) ?_
            obtain ⟨r62, q64, f66, hd61⟩ := ex3 (D_X1_walk r55 q57 f59 0)
            replace hR := bnd3_use hd61 hR
            refine call_V (n := 1) (As := [.ref (a 6)]) (rest := []) hX hB (k_X1_walk κ l a r55 q57 f59 0 (by decide) r62 q64 f66 hd61) ⟨rfl, by decide, by decide, by decide +kernel⟩ wm_2_72 wm_2_73 wm_2_74 wm_1_4 wm_2_75 ⟨Nat.le_of_ble_eq_true rfl, Nat.le_of_ble_eq_true rfl⟩ ⟨Nat.le_of_ble_eq_true rfl, Nat.le_of_ble_eq_true rfl⟩ cw3 rfl rfl rfl hl.1 rfl (Nat.le_of_ble_eq_true rfl) dX5_isFirstSound_85 (fun o w' H locs hp hB => ?_)
            obtain ⟨rfl, ho63, hq65, rfl⟩ := hp
            refine W.eq (g2 := F0 m 88 ls []) rfl ?_
            refine lv_aload_n hx hb dX5_isFirstSound_88 rfl (lv_at hl 1 rfl) ?_
            refine gf hX hB cw0 rfl in5 4 (by decide) wm_1_141 rfl rfl dX5_isFirstSound_89 ?_
            refine gfN hX hB cw3 rfl in1 3 (by decide) wn_1_105 rfl rfl dX5_isFirstSound_92 ?_
            refine lv_if_ne (tgt := 106) hx hb dX5_isFirstSound_95 (by decide) (fun c67 => ?_) (fun c67 => ?_)
            · replace hR := ifn c67 hR
              refine lv_iconst (v := 1) hx hb dX5_isFirstSound_106 (by decide) ?_
              refine lv_goto (tgt := 111) hx hb dX5_isFirstSound_107 (by decide) ?_
              rw [← hQ]
              exact end_i hX hB hA3 rfl rfl (by obtain ⟨rfl, rfl, rfl, rfl⟩ := pr4 hR; exact ⟨rfl, Or.inr rfl, (fun h => ho63 ((fun h => ho56 ((fun h => h) h)) h)), (hq65.trans (hq58.trans rfl)), rfl⟩) (Nat.le_of_ble_eq_true rfl) (Nat.le_of_ble_eq_true rfl) dX5_isFirstSound_111
            · replace hR := ifp c67 hR
              refine lv_aload_n hx hb dX5_isFirstSound_98 rfl (lv_at hl 1 rfl) ?_
              refine lv_aload_n hx hb dX5_isFirstSound_99 rfl (lv_at hl 0 rfl) ?_
              obtain ⟨x69, r70, q72, f74, hd68⟩ := ex4 (D_X5_isSoundBySteps r62 q64 f66 0)
              replace hR := bnd4_use hd68 hR
              refine call_V (n := 1) (As := [.ref (a 6)]) (rest := []) hX hB (k_X5_isSoundBySteps κ l a r62 q64 f66 0 (by decide) x69 r70 q72 f74 hd68) ⟨rfl, by decide, by decide, by decide +kernel⟩ wm_2_118 wm_2_120 wp_14 wm_1_1 wm_2_121 ⟨Nat.le_of_ble_eq_true rfl, Nat.le_of_ble_eq_true rfl⟩ ⟨Nat.le_of_ble_eq_true rfl, Nat.le_of_ble_eq_true rfl⟩ cw0 rfl rfl rfl hl.1 rfl (Nat.le_of_ble_eq_true rfl) dX5_isFirstSound_100 (fun o w' H locs hp hB => ?_)
              obtain ⟨rfl, bx69, ho71, hq73, rfl⟩ := hp
              refine W.eq (g2 := F0 m 103 ls [.int x69]) rfl ?_
              refine lv_if_eq (tgt := 110) hx hb dX5_isFirstSound_103 (by decide) (fun c75 => ?_) (fun c75 => ?_)
              · replace hR := ifp c75 hR
                refine lv_iconst (v := 0) hx hb dX5_isFirstSound_110 (by decide) ?_
                rw [← hQ]
                exact end_i hX hB hA3 rfl rfl (by obtain ⟨rfl, rfl, rfl, rfl⟩ := pr4 hR; exact ⟨rfl, Or.inl rfl, (fun h => ho71 ((fun h => ho63 ((fun h => ho56 ((fun h => h) h)) h)) h)), (hq73.trans (hq65.trans (hq58.trans rfl))), rfl⟩) (Nat.le_of_ble_eq_true rfl) (Nat.le_of_ble_eq_true rfl) dX5_isFirstSound_111
              · replace hR := ifn c75 hR
                refine lv_iconst (v := 1) hx hb dX5_isFirstSound_106 (by decide) ?_
                refine lv_goto (tgt := 111) hx hb dX5_isFirstSound_107 (by decide) ?_
                rw [← hQ]
                exact end_i hX hB hA3 rfl rfl (by obtain ⟨rfl, rfl, rfl, rfl⟩ := pr4 hR; exact ⟨rfl, Or.inr rfl, (fun h => ho71 ((fun h => ho63 ((fun h => ho56 ((fun h => h) h)) h)) h)), (hq73.trans (hq65.trans (hq58.trans rfl))), rfl⟩) (Nat.le_of_ble_eq_true rfl) (Nat.le_of_ble_eq_true rfl) dX5_isFirstSound_111
          · replace hR := ifp c60 hR
            refine lv_aload_n hx hb dX5_isFirstSound_70 rfl (lv_at hl 1 rfl) ?_
            refine lv_aload_n hx hb dX5_isFirstSound_71 rfl (lv_at hl 0 rfl) ?_
            obtain ⟨x77, r78, q80, f82, hd76⟩ := ex4 (D_X5_isSoundByRowSteps r55 q57 f59 0)
            replace hR := bnd4_use hd76 hR
            refine call_V (n := 1) (As := [.ref (a 6)]) (rest := []) hX hB (k_X5_isSoundByRowSteps κ l a r55 q57 f59 0 (by decide) ((fun h => ho56 ((fun h => h) h)) hok) x77 r78 q80 f82 hd76) ⟨rfl, by decide, by decide, by decide +kernel⟩ wm_2_36 wm_2_38 wp_6 wm_1_1 wm_2_39 ⟨Nat.le_of_ble_eq_true rfl, Nat.le_of_ble_eq_true rfl⟩ ⟨Nat.le_of_ble_eq_true rfl, Nat.le_of_ble_eq_true rfl⟩ cw0 rfl rfl rfl hl.1 rfl (Nat.le_of_ble_eq_true rfl) dX5_isFirstSound_72 (fun o w' H locs hp hB => ?_)
            obtain ⟨rfl, bx77, ho79, hq81, rfl⟩ := hp
            refine W.eq (g2 := F0 m 75 ls [.int x77]) rfl ?_
            refine lv_if_ne (tgt := 80) hx hb dX5_isFirstSound_75 (by decide) (fun c83 => ?_) (fun c83 => ?_)
            · replace hR := ifn c83 hR
              refine lv_aload_n hx hb dX5_isFirstSound_80 rfl (lv_at hl 1 rfl) ?_
              refine gf hX hB cw0 rfl in5 4 (by decide) wm_1_141 rfl rfl dX5_isFirstSound_81 ?_
              refine lv_aload_n hx hb dX5_isFirstSound_84 rfl (lv_at hl 0 rfl) ?_
              obtain ⟨r85, q87, f89, hd84⟩ := ex3 (D_X1_walk r78 q80 f82 0)
              replace hR := bnd3_use hd84 hR
              refine call_V (n := 1) (As := [.ref (a 6)]) (rest := []) hX hB (k_X1_walk κ l a r78 q80 f82 0 (by decide) r85 q87 f89 hd84) ⟨rfl, by decide, by decide, by decide +kernel⟩ wm_2_72 wm_2_73 wm_2_74 wm_1_4 wm_2_75 ⟨Nat.le_of_ble_eq_true rfl, Nat.le_of_ble_eq_true rfl⟩ ⟨Nat.le_of_ble_eq_true rfl, Nat.le_of_ble_eq_true rfl⟩ cw3 rfl rfl rfl hl.1 rfl (Nat.le_of_ble_eq_true rfl) dX5_isFirstSound_85 (fun o w' H locs hp hB => ?_)
              obtain ⟨rfl, ho86, hq88, rfl⟩ := hp
              refine W.eq (g2 := F0 m 88 ls []) rfl ?_
              refine lv_aload_n hx hb dX5_isFirstSound_88 rfl (lv_at hl 1 rfl) ?_
              refine gf hX hB cw0 rfl in5 4 (by decide) wm_1_141 rfl rfl dX5_isFirstSound_89 ?_
              refine gfN hX hB cw3 rfl in1 3 (by decide) wn_1_105 rfl rfl dX5_isFirstSound_92 ?_
              refine lv_if_ne (tgt := 106) hx hb dX5_isFirstSound_95 (by decide) (fun c90 => ?_) (fun c90 => ?_)
              · replace hR := ifn c90 hR
                refine lv_iconst (v := 1) hx hb dX5_isFirstSound_106 (by decide) ?_
                refine lv_goto (tgt := 111) hx hb dX5_isFirstSound_107 (by decide) ?_
                rw [← hQ]
                exact end_i hX hB hA3 rfl rfl (by obtain ⟨rfl, rfl, rfl, rfl⟩ := pr4 hR; exact ⟨rfl, Or.inr rfl, (fun h => ho86 ((fun h => ho79 ((fun h => ho56 ((fun h => h) h)) h)) h)), (hq88.trans (hq81.trans (hq58.trans rfl))), rfl⟩) (Nat.le_of_ble_eq_true rfl) (Nat.le_of_ble_eq_true rfl) dX5_isFirstSound_111
              · replace hR := ifp c90 hR
                refine lv_aload_n hx hb dX5_isFirstSound_98 rfl (lv_at hl 1 rfl) ?_
                refine lv_aload_n hx hb dX5_isFirstSound_99 rfl (lv_at hl 0 rfl) ?_
                obtain ⟨x92, r93, q95, f97, hd91⟩ := ex4 (D_X5_isSoundBySteps r85 q87 f89 0)
                replace hR := bnd4_use hd91 hR
                refine call_V (n := 1) (As := [.ref (a 6)]) (rest := []) hX hB (k_X5_isSoundBySteps κ l a r85 q87 f89 0 (by decide) x92 r93 q95 f97 hd91) ⟨rfl, by decide, by decide, by decide +kernel⟩ wm_2_118 wm_2_120 wp_14 wm_1_1 wm_2_121 ⟨Nat.le_of_ble_eq_true rfl, Nat.le_of_ble_eq_true rfl⟩ ⟨Nat.le_of_ble_eq_true rfl, Nat.le_of_ble_eq_true rfl⟩ cw0 rfl rfl rfl hl.1 rfl (Nat.le_of_ble_eq_true rfl) dX5_isFirstSound_100 (fun o w' H locs hp hB => ?_)
                obtain ⟨rfl, bx92, ho94, hq96, rfl⟩ := hp
                refine W.eq (g2 := F0 m 103 ls [.int x92]) rfl ?_
                refine lv_if_eq (tgt := 110) hx hb dX5_isFirstSound_103 (by decide) (fun c98 => ?_) (fun c98 => ?_)
                · replace hR := ifp c98 hR
                  refine lv_iconst (v := 0) hx hb dX5_isFirstSound_110 (by decide) ?_
                  rw [← hQ]
                  exact end_i hX hB hA3 rfl rfl (by obtain ⟨rfl, rfl, rfl, rfl⟩ := pr4 hR; exact ⟨rfl, Or.inl rfl, (fun h => ho94 ((fun h => ho86 ((fun h => ho79 ((fun h => ho56 ((fun h => h) h)) h)) h)) h)), (hq96.trans (hq88.trans (hq81.trans (hq58.trans rfl)))), rfl⟩) (Nat.le_of_ble_eq_true rfl) (Nat.le_of_ble_eq_true rfl) dX5_isFirstSound_111
                · replace hR := ifn c98 hR
                  refine lv_iconst (v := 1) hx hb dX5_isFirstSound_106 (by decide) ?_
                  refine lv_goto (tgt := 111) hx hb dX5_isFirstSound_107 (by decide) ?_
                  rw [← hQ]
                  exact end_i hX hB hA3 rfl rfl (by obtain ⟨rfl, rfl, rfl, rfl⟩ := pr4 hR; exact ⟨rfl, Or.inr rfl, (fun h => ho94 ((fun h => ho86 ((fun h => ho79 ((fun h => ho56 ((fun h => h) h)) h)) h)) h)), (hq96.trans (hq88.trans (hq81.trans (hq58.trans rfl)))), rfl⟩) (Nat.le_of_ble_eq_true rfl) (Nat.le_of_ble_eq_true rfl) dX5_isFirstSound_111
            · replace hR := ifp c83 hR
              refine lv_iconst (v := 0) hx hb dX5_isFirstSound_78 (by decide) ?_
              rw [← hQ]
              exact end_i hX hB hA3 rfl rfl (by obtain ⟨rfl, rfl, rfl, rfl⟩ := pr4 hR; exact ⟨rfl, Or.inl rfl, (fun h => ho79 ((fun h => ho56 ((fun h => h) h)) h)), (hq81.trans (hq58.trans rfl)), rfl⟩) (Nat.le_of_ble_eq_true rfl) (Nat.le_of_ble_eq_true rfl) dX5_isFirstSound_79
        · replace hR := ifn c53 hR
          refine lv_iconst (v := 0) hx hb dX5_isFirstSound_50 (by decide) ?_
          rw [← hQ]
          exact end_i hX hB hA3 rfl rfl (by obtain ⟨rfl, rfl, rfl, rfl⟩ := pr4 hR; exact ⟨rfl, Or.inl rfl, (fun h => h), rfl, rfl⟩) (Nat.le_of_ble_eq_true rfl) (Nat.le_of_ble_eq_true rfl) dX5_isFirstSound_51
    · replace hR := ifn c2 hR
      refine lv_iconst (v := 1) hx hb dX5_isFirstSound_23 (by decide) ?_
      rw [← hQ]
      exact end_i hX hB hA3 rfl rfl (by obtain ⟨rfl, rfl, rfl, rfl⟩ := pr4 hR; exact ⟨rfl, Or.inr rfl, (fun h => h), rfl, rfl⟩) (Nat.le_of_ble_eq_true rfl) (Nat.le_of_ble_eq_true rfl) dX5_isFirstSound_24
