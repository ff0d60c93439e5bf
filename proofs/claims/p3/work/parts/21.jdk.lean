def fdv (x y : Int64) : Int64 := if 0 ≤ lg_cmp (x ^^^ y) 0 then x / y else if lg_cmp (x / y * y) x = 0 then x / y else x / y - 1
def fmd (x y : Int64) : Int64 := if 0 ≤ lg_cmp (x ^^^ y) 0 then x - x / y * y else if lg_cmp (x - x / y * y) 0 = 0 then x - x / y * y else (x - x / y * y) + y
def us32 (x k : Int32) : Int32 := (x.toUInt32 >>> (k.toUInt32 &&& Int32.toUInt32 31)).toInt32
def bc1 (x : Int32) : Int32 := x - (us32 x 1 &&& 1431655765)
def bc2 (x : Int32) : Int32 := (x &&& 858993459) + (us32 x 2 &&& 858993459)
def bc3 (x : Int32) : Int32 := (x + us32 x 4) &&& 252645135
def bc4 (x : Int32) : Int32 := x + us32 x 8
def bc5 (x : Int32) : Int32 := x + us32 x 16
def bcE (x : Int32) : Int32 := bc5 (bc4 (bc3 (bc2 (bc1 x)))) &&& 63

def gap1 (y x : Int32) : Nat := (y.toInt + 1 - x.toInt).toNat
theorem le45 {y : Int32} (h : y ≤ 4) : y ≤ 5 := by
  rw [i32_le] at h ⊢
  rw [show (4 : Int32).toInt = 4 from rfl] at h
  rw [show (5 : Int32).toInt = 5 from rfl]
  omega
theorem gap1_step {x y : Int32} {n : Nat} (hy : y ≤ 5) (c : ¬ y < x) (h : gap1 y x < n + 1) : gap1 y (x + 1) < n := by
  have h1 : x < 6 := by
    rw [i32_lt] at c ⊢
    rw [i32_le] at hy
    rw [show (5 : Int32).toInt = 5 from rfl] at hy
    rw [show (6 : Int32).toInt = 6 from rfl]
    omega
  have h2 := i32_succ h1
  rw [i32_lt] at c
  unfold gap1 at h ⊢
  rw [h2]
  omega

theorem lgnz {y : Int64} (h : ¬ lg_cmp y 0 = 0) : ¬ y = 0 := fun e => h (by rw [e]; rfl)
theorem lvup {x lo hi : Int32} (e : lo + 1 = hi) (h : lo ≤ x) (c : x < 4) : hi ≤ x + 1 := by
  have h1 := i32_succ c
  have h2 : lo < 4 := by
    rw [i32_lt] at c ⊢
    rw [i32_le] at h
    omega
  have h3 := i32_succ h2
  rw [← e, i32_le, h1, h3]
  rw [i32_le] at h
  omega
set_option maxHeartbeats 4000000 in
set_option maxRecDepth 100000 in
theorem k_J9_floorDiv_f86c9 (κ : Kt) (l : Launch) (w : va_W) (x : Int64) (y : Int64) (hy : ¬ y = 0) : CM κ l yJ9_floorDiv_f86c9 cJ9_floorDiv_f86c9 6 (some .long) 0 0 0 0 [.long x, .long y] (w) (fun o w' => ∃ z : Int64, o = some (.long z) ∧ z = fdv x y ∧ w' = w) := by
  refine CM_begin (by decide +kernel) (Nat.le_of_ble_eq_true rfl) ?_
  intro p e s m args below meth c A Q hX hnm hA3 hQ hB ls hl
  have hx := hX.1.1
  have hb := hX.1.2.1
  have hl : lv_has ls 6 [(0, .long x), (2, .long y)] := hl
  refine lv_lload_n hx hb dJ9_floorDiv_f86c9_0 rfl (lv_at hl 0 rfl) ?_
  refine lv_lload_n hx hb dJ9_floorDiv_f86c9_1 rfl (lv_at hl 1 rfl) ?_
  refine lv_ldiv hx hb dJ9_floorDiv_f86c9_2 (by assumption) ?_
  refine lv_lstore (lv' := [(4, .long (x / y)), (0, .long x), (2, .long y)]) hx hb dJ9_floorDiv_f86c9_3 hl (by decide) rfl (fun ls hl => ?_)
  refine lv_lload_n hx hb dJ9_floorDiv_f86c9_5 rfl (lv_at hl 1 rfl) ?_
  refine lv_lload_n hx hb dJ9_floorDiv_f86c9_6 rfl (lv_at hl 2 rfl) ?_
  refine lv_lxor hx hb dJ9_floorDiv_f86c9_7 ?_
  refine lv_lconst (v := 0) hx hb dJ9_floorDiv_f86c9_8 (by decide) ?_
  refine W.lcmp hx hb dJ9_floorDiv_f86c9_9 ?_
  refine lv_if_ge (tgt := 27) hx hb dJ9_floorDiv_f86c9_10 (by decide) (fun c1 => ?_) (fun c1 => ?_)
  · refine lv_lload hx hb dJ9_floorDiv_f86c9_27 (lv_at hl 0 rfl) ?_
    rw [← hQ]
    exact end_l hX hB hA3 rfl ⟨_, rfl, (by unfold fdv; repeat' split; all_goals first | rfl | (exfalso; contradiction)), rfl⟩ (Nat.le_of_ble_eq_true rfl) (Nat.le_of_ble_eq_true rfl) dJ9_floorDiv_f86c9_29
  · refine lv_lload hx hb dJ9_floorDiv_f86c9_13 (lv_at hl 0 rfl) ?_
    refine lv_lload_n hx hb dJ9_floorDiv_f86c9_15 rfl (lv_at hl 2 rfl) ?_
    refine lv_lmul hx hb dJ9_floorDiv_f86c9_16 ?_
    refine lv_lload_n hx hb dJ9_floorDiv_f86c9_17 rfl (lv_at hl 1 rfl) ?_
    refine W.lcmp hx hb dJ9_floorDiv_f86c9_18 ?_
    refine lv_if_eq (tgt := 27) hx hb dJ9_floorDiv_f86c9_19 (by decide) (fun c2 => ?_) (fun c2 => ?_)
    · refine lv_lload hx hb dJ9_floorDiv_f86c9_27 (lv_at hl 0 rfl) ?_
      rw [← hQ]
      exact end_l hX hB hA3 rfl ⟨_, rfl, (by unfold fdv; repeat' split; all_goals first | rfl | (exfalso; contradiction)), rfl⟩ (Nat.le_of_ble_eq_true rfl) (Nat.le_of_ble_eq_true rfl) dJ9_floorDiv_f86c9_29
    · refine lv_lload hx hb dJ9_floorDiv_f86c9_22 (lv_at hl 0 rfl) ?_
      refine lv_lconst (v := 1) hx hb dJ9_floorDiv_f86c9_24 (by decide) ?_
      refine lv_lsub hx hb dJ9_floorDiv_f86c9_25 ?_
      rw [← hQ]
      exact end_l hX hB hA3 rfl ⟨_, rfl, (by unfold fdv; repeat' split; all_goals first | rfl | (exfalso; contradiction)), rfl⟩ (Nat.le_of_ble_eq_true rfl) (Nat.le_of_ble_eq_true rfl) dJ9_floorDiv_f86c9_26
set_option maxHeartbeats 4000000 in
set_option maxRecDepth 100000 in
theorem k_J9_floorMod_f86c9 (κ : Kt) (l : Launch) (w : va_W) (x : Int64) (y : Int64) (hy : ¬ y = 0) : CM κ l yJ9_floorMod_f86c9 cJ9_floorMod_f86c9 6 (some .long) 0 0 0 0 [.long x, .long y] (w) (fun o w' => ∃ z : Int64, o = some (.long z) ∧ z = fmd x y ∧ w' = w) := by
  refine CM_begin (by decide +kernel) (Nat.le_of_ble_eq_true rfl) ?_
  intro p e s m args below meth c A Q hX hnm hA3 hQ hB ls hl
  have hx := hX.1.1
  have hb := hX.1.2.1
  have hl : lv_has ls 6 [(0, .long x), (2, .long y)] := hl
  refine lv_lload_n hx hb dJ9_floorMod_f86c9_0 rfl (lv_at hl 0 rfl) ?_
  refine lv_lload_n hx hb dJ9_floorMod_f86c9_1 rfl (lv_at hl 1 rfl) ?_
  refine lv_lrem hx hb dJ9_floorMod_f86c9_2 (by assumption) ?_
  refine lv_lstore (lv' := [(4, .long (x - x / y * y)), (0, .long x), (2, .long y)]) hx hb dJ9_floorMod_f86c9_3 hl (by decide) rfl (fun ls hl => ?_)
  refine lv_lload_n hx hb dJ9_floorMod_f86c9_5 rfl (lv_at hl 1 rfl) ?_
  refine lv_lload_n hx hb dJ9_floorMod_f86c9_6 rfl (lv_at hl 2 rfl) ?_
  refine lv_lxor hx hb dJ9_floorMod_f86c9_7 ?_
  refine lv_lconst (v := 0) hx hb dJ9_floorMod_f86c9_8 (by decide) ?_
  refine W.lcmp hx hb dJ9_floorMod_f86c9_9 ?_
  refine lv_if_ge (tgt := 25) hx hb dJ9_floorMod_f86c9_10 (by decide) (fun c1 => ?_) (fun c1 => ?_)
  · refine lv_lload hx hb dJ9_floorMod_f86c9_25 (lv_at hl 0 rfl) ?_
    rw [← hQ]
    exact end_l hX hB hA3 rfl ⟨_, rfl, (by unfold fmd; repeat' split; all_goals first | rfl | (exfalso; contradiction)), rfl⟩ (Nat.le_of_ble_eq_true rfl) (Nat.le_of_ble_eq_true rfl) dJ9_floorMod_f86c9_27
  · refine lv_lload hx hb dJ9_floorMod_f86c9_13 (lv_at hl 0 rfl) ?_
    refine lv_lconst (v := 0) hx hb dJ9_floorMod_f86c9_15 (by decide) ?_
    refine W.lcmp hx hb dJ9_floorMod_f86c9_16 ?_
    refine lv_if_eq (tgt := 25) hx hb dJ9_floorMod_f86c9_17 (by decide) (fun c2 => ?_) (fun c2 => ?_)
    · refine lv_lload hx hb dJ9_floorMod_f86c9_25 (lv_at hl 0 rfl) ?_
      rw [← hQ]
      exact end_l hX hB hA3 rfl ⟨_, rfl, (by unfold fmd; repeat' split; all_goals first | rfl | (exfalso; contradiction)), rfl⟩ (Nat.le_of_ble_eq_true rfl) (Nat.le_of_ble_eq_true rfl) dJ9_floorMod_f86c9_27
    · refine lv_lload hx hb dJ9_floorMod_f86c9_20 (lv_at hl 0 rfl) ?_
      refine lv_lload_n hx hb dJ9_floorMod_f86c9_22 rfl (lv_at hl 2 rfl) ?_
      refine lv_ladd hx hb dJ9_floorMod_f86c9_23 ?_
      rw [← hQ]
      exact end_l hX hB hA3 rfl ⟨_, rfl, (by unfold fmd; repeat' split; all_goals first | rfl | (exfalso; contradiction)), rfl⟩ (Nat.le_of_ble_eq_true rfl) (Nat.le_of_ble_eq_true rfl) dJ9_floorMod_f86c9_24
set_option maxHeartbeats 4000000 in
set_option maxRecDepth 100000 in
theorem k_J6_bitCount_0f7a4 (κ : Kt) (l : Launch) (w : va_W) (x : Int32)  : CM κ l yJ6_bitCount_0f7a4 cJ6_bitCount_0f7a4 1 (some .int) 0 0 0 0 [.int x] (w) (fun o w' => ∃ z : Int32, o = some (.int z) ∧ z = bcE x ∧ w' = w) := by
  refine CM_begin (plainFor_of_name (by decide)) (Nat.le_of_ble_eq_true rfl) ?_
  intro p e s m args below meth c A Q hX hnm hA3 hQ hB ls hl
  have hx := hX.1.1
  have hb := hX.1.2.1
  have hl : lv_has ls 1 [(0, .int x)] := hl
  refine lv_iload_n hx hb dJ6_bitCount_0f7a4_0 rfl (lv_at hl 0 rfl) ?_
  refine lv_iload_n hx hb dJ6_bitCount_0f7a4_1 rfl (lv_at hl 0 rfl) ?_
  refine lv_iconst (v := 1) hx hb dJ6_bitCount_0f7a4_2 (by decide) ?_
  refine lv_iushr hx hb dJ6_bitCount_0f7a4_3 rfl ?_
  refine lv_topi (fun u1 eu1 => ?_)
  refine lv_ldcw (own := RJ6) (v := 1431655765) hx hb hX.1.2.2.2.1 (hX.1.2.2.2.2 _ wm_1_197) dJ6_bitCount_0f7a4_4 ?_
  refine lv_iand hx hb dJ6_bitCount_0f7a4_7 ?_
  refine lv_isub hx hb dJ6_bitCount_0f7a4_8 ?_
  refine lv_topi (fun v2 ev2 => ?_)
  refine lv_istore_n (lv' := [(0, .int v2)]) hx hb dJ6_bitCount_0f7a4_9 rfl hl (by decide) rfl (fun ls hl => ?_)
  refine lv_iload_n hx hb dJ6_bitCount_0f7a4_10 rfl (lv_at hl 0 rfl) ?_
  refine lv_ldcw (own := RJ6) (v := 858993459) hx hb hX.1.2.2.2.1 (hX.1.2.2.2.2 _ wm_1_198) dJ6_bitCount_0f7a4_11 ?_
  refine lv_iand hx hb dJ6_bitCount_0f7a4_14 ?_
  refine lv_iload_n hx hb dJ6_bitCount_0f7a4_15 rfl (lv_at hl 0 rfl) ?_
  refine lv_iconst (v := 2) hx hb dJ6_bitCount_0f7a4_16 (by decide) ?_
  refine lv_iushr hx hb dJ6_bitCount_0f7a4_17 rfl ?_
  refine lv_topi (fun u3 eu3 => ?_)
  refine lv_ldcw (own := RJ6) (v := 858993459) hx hb hX.1.2.2.2.1 (hX.1.2.2.2.2 _ wm_1_198) dJ6_bitCount_0f7a4_18 ?_
  refine lv_iand hx hb dJ6_bitCount_0f7a4_21 ?_
  refine lv_iadd hx hb dJ6_bitCount_0f7a4_22 ?_
  refine lv_topi (fun v4 ev4 => ?_)
  refine lv_istore_n (lv' := [(0, .int v4)]) hx hb dJ6_bitCount_0f7a4_23 rfl hl (by decide) rfl (fun ls hl => ?_)
  refine lv_iload_n hx hb dJ6_bitCount_0f7a4_24 rfl (lv_at hl 0 rfl) ?_
  refine lv_iload_n hx hb dJ6_bitCount_0f7a4_25 rfl (lv_at hl 0 rfl) ?_
  refine lv_iconst (v := 4) hx hb dJ6_bitCount_0f7a4_26 (by decide) ?_
  refine lv_iushr hx hb dJ6_bitCount_0f7a4_27 rfl ?_
  refine lv_topi (fun u5 eu5 => ?_)
  refine lv_iadd hx hb dJ6_bitCount_0f7a4_28 ?_
  refine lv_ldcw (own := RJ6) (v := 252645135) hx hb hX.1.2.2.2.1 (hX.1.2.2.2.2 _ wm_1_199) dJ6_bitCount_0f7a4_29 ?_
  refine lv_iand hx hb dJ6_bitCount_0f7a4_32 ?_
  refine lv_topi (fun v6 ev6 => ?_)
  refine lv_istore_n (lv' := [(0, .int v6)]) hx hb dJ6_bitCount_0f7a4_33 rfl hl (by decide) rfl (fun ls hl => ?_)
  refine lv_iload_n hx hb dJ6_bitCount_0f7a4_34 rfl (lv_at hl 0 rfl) ?_
  refine lv_iload_n hx hb dJ6_bitCount_0f7a4_35 rfl (lv_at hl 0 rfl) ?_
  refine lv_bipush (v := 8) hx hb dJ6_bitCount_0f7a4_36 (by decide) ?_
  refine lv_iushr hx hb dJ6_bitCount_0f7a4_38 rfl ?_
  refine lv_topi (fun u7 eu7 => ?_)
  refine lv_iadd hx hb dJ6_bitCount_0f7a4_39 ?_
  refine lv_topi (fun v8 ev8 => ?_)
  refine lv_istore_n (lv' := [(0, .int v8)]) hx hb dJ6_bitCount_0f7a4_40 rfl hl (by decide) rfl (fun ls hl => ?_)
  refine lv_iload_n hx hb dJ6_bitCount_0f7a4_41 rfl (lv_at hl 0 rfl) ?_
  refine lv_iload_n hx hb dJ6_bitCount_0f7a4_42 rfl (lv_at hl 0 rfl) ?_
  refine lv_bipush (v := 16) hx hb dJ6_bitCount_0f7a4_43 (by decide) ?_
  refine lv_iushr hx hb dJ6_bitCount_0f7a4_45 rfl ?_
  refine lv_topi (fun u9 eu9 => ?_)
  refine lv_iadd hx hb dJ6_bitCount_0f7a4_46 ?_
  refine lv_topi (fun v10 ev10 => ?_)
  refine lv_istore_n (lv' := [(0, .int v10)]) hx hb dJ6_bitCount_0f7a4_47 rfl hl (by decide) rfl (fun ls hl => ?_)
  refine lv_iload_n hx hb dJ6_bitCount_0f7a4_48 rfl (lv_at hl 0 rfl) ?_
  refine lv_bipush (v := 63) hx hb dJ6_bitCount_0f7a4_49 (by decide) ?_
  refine lv_iand hx hb dJ6_bitCount_0f7a4_51 ?_
  rw [← hQ]
  exact end_i hX hB hA3 rfl rfl ⟨_, rfl, (by subst_vars; rfl), rfl⟩ (Nat.le_of_ble_eq_true rfl) (Nat.le_of_ble_eq_true rfl) dJ6_bitCount_0f7a4_52
noncomputable def D_X5_divideDown (x : Int64) (y : Int64) : Int64 := (if (lg_cmp y 0) = 0 then 0 else nm ((fdv x y) : Int64) (fun (x2 : Int64) => x2))
theorem D_X5_divideDown_s {x : Int64} {y : Int64} : D_X5_divideDown x y = (if (lg_cmp y 0) = 0 then 0 else nm ((fdv x y) : Int64) (fun (x2 : Int64) => x2)) := rfl
set_option maxHeartbeats 4000000 in
set_option maxRecDepth 100000 in
theorem k_X5_divideDown (κ : Kt) (l : Launch) (w : va_W) (x : Int64) (y : Int64)  (o_x : Int64) (hR : D_X5_divideDown x y = o_x) : CM κ l yX5_divideDown cX5_divideDown 4 (some .long) 1 25 0 0 [.long x, .long y] (w) (fun o w' => o = some (.long o_x) ∧ w' = w) := by
  refine CM_begin (plainFor_of_name (by decide)) (Nat.le_of_ble_eq_true rfl) ?_
  intro p e s m args below meth c A Q hX hnm hA3 hQ hB ls hl
  have hx := hX.1.1
  have hb := hX.1.2.1
  have hl : lv_has ls 4 [(0, .long x), (2, .long y)] := hl
  replace hR := (D_X5_divideDown_s).symm.trans hR
  refine lv_lload_n hx hb dX5_divideDown_0 rfl (lv_at hl 1 rfl) ?_
  refine lv_lconst (v := 0) hx hb dX5_divideDown_1 (by decide) ?_
  refine W.lcmp hx hb dX5_divideDown_2 ?_
  refine lv_if_ne (tgt := 10) hx hb dX5_divideDown_3 (by decide) (fun c1 => ?_) (fun c1 => ?_)
  · replace hR := ifn c1 hR
    refine lv_lload_n hx hb dX5_divideDown_10 rfl (lv_at hl 0 rfl) ?_
    refine lv_lload_n hx hb dX5_divideDown_11 rfl (lv_at hl 1 rfl) ?_
    refine call_S (n := 2) (As := [.long x, .long y]) (rest := []) hX hB (k_J9_floorDiv_f86c9 κ l (w) x y (lgnz (by assumption))) ⟨by decide, by decide, by decide +kernel⟩ wm_2_19 wm_2_20 wm_1_14 wm_2_21 ⟨Nat.le_of_ble_eq_true rfl, Nat.le_of_ble_eq_true rfl⟩ ⟨Nat.le_of_ble_eq_true rfl, Nat.le_of_ble_eq_true rfl⟩ rfl hl.1 rfl (Nat.le_of_ble_eq_true rfl) dX5_divideDown_12 (fun o w' H locs hp hB => ?_)
    obtain ⟨x2, rfl, ex2, hw9⟩ := hp
    replace hR := nm_use ex2 hR
    rw [hw9] at hB
    refine W.eq (g2 := F0 m 15 ls [.long x2]) rfl ?_
    rw [← hQ]
    exact end_l hX hB hA3 rfl (by obtain rfl := hR; exact ⟨rfl, rfl⟩) (Nat.le_of_ble_eq_true rfl) (Nat.le_of_ble_eq_true rfl) dX5_divideDown_15
  · replace hR := ifp c1 hR
    refine lv_lconst (v := 0) hx hb dX5_divideDown_6 (by decide) ?_
    refine lv_goto (tgt := 15) hx hb dX5_divideDown_7 (by decide) ?_
    rw [← hQ]
    exact end_l hX hB hA3 rfl (by obtain rfl := hR; exact ⟨rfl, rfl⟩) (Nat.le_of_ble_eq_true rfl) (Nat.le_of_ble_eq_true rfl) dX5_divideDown_15
noncomputable def D_X5_remainder (x : Int64) (y : Int64) : Int64 := (if (lg_cmp y 0) = 0 then 0 else nm ((fmd x y) : Int64) (fun (x2 : Int64) => x2))
theorem D_X5_remainder_s {x : Int64} {y : Int64} : D_X5_remainder x y = (if (lg_cmp y 0) = 0 then 0 else nm ((fmd x y) : Int64) (fun (x2 : Int64) => x2)) := rfl
set_option maxHeartbeats 4000000 in
set_option maxRecDepth 100000 in
theorem k_X5_remainder (κ : Kt) (l : Launch) (w : va_W) (x : Int64) (y : Int64)  (o_x : Int64) (hR : D_X5_remainder x y = o_x) : CM κ l yX5_remainder cX5_remainder 4 (some .long) 1 25 0 0 [.long x, .long y] (w) (fun o w' => o = some (.long o_x) ∧ w' = w) := by
  refine CM_begin (plainFor_of_name (by decide)) (Nat.le_of_ble_eq_true rfl) ?_
  intro p e s m args below meth c A Q hX hnm hA3 hQ hB ls hl
  have hx := hX.1.1
  have hb := hX.1.2.1
  have hl : lv_has ls 4 [(0, .long x), (2, .long y)] := hl
  replace hR := (D_X5_remainder_s).symm.trans hR
  refine lv_lload_n hx hb dX5_remainder_0 rfl (lv_at hl 1 rfl) ?_
  refine lv_lconst (v := 0) hx hb dX5_remainder_1 (by decide) ?_
  refine W.lcmp hx hb dX5_remainder_2 ?_
  refine lv_if_ne (tgt := 10) hx hb dX5_remainder_3 (by decide) (fun c1 => ?_) (fun c1 => ?_)
  · replace hR := ifn c1 hR
    refine lv_lload_n hx hb dX5_remainder_10 rfl (lv_at hl 0 rfl) ?_
    refine lv_lload_n hx hb dX5_remainder_11 rfl (lv_at hl 1 rfl) ?_
    refine call_S (n := 2) (As := [.long x, .long y]) (rest := []) hX hB (k_J9_floorMod_f86c9 κ l (w) x y (lgnz (by assumption))) ⟨by decide, by decide, by decide +kernel⟩ wm_3_64 wm_3_65 wm_1_14 wm_3_66 ⟨Nat.le_of_ble_eq_true rfl, Nat.le_of_ble_eq_true rfl⟩ ⟨Nat.le_of_ble_eq_true rfl, Nat.le_of_ble_eq_true rfl⟩ rfl hl.1 rfl (Nat.le_of_ble_eq_true rfl) dX5_remainder_12 (fun o w' H locs hp hB => ?_)
    obtain ⟨x2, rfl, ex2, hw9⟩ := hp
    replace hR := nm_use ex2 hR
    rw [hw9] at hB
    refine W.eq (g2 := F0 m 15 ls [.long x2]) rfl ?_
    rw [← hQ]
    exact end_l hX hB hA3 rfl (by obtain rfl := hR; exact ⟨rfl, rfl⟩) (Nat.le_of_ble_eq_true rfl) (Nat.le_of_ble_eq_true rfl) dX5_remainder_15
  · replace hR := ifp c1 hR
    refine lv_lconst (v := 0) hx hb dX5_remainder_6 (by decide) ?_
    refine lv_goto (tgt := 15) hx hb dX5_remainder_7 (by decide) ?_
    rw [← hQ]
    exact end_l hX hB hA3 rfl (by obtain rfl := hR; exact ⟨rfl, rfl⟩) (Nat.le_of_ble_eq_true rfl) (Nat.le_of_ble_eq_true rfl) dX5_remainder_15
noncomputable def D_X5_divides (x : Int64) (y : Int64) : Int32 := (if (lg_cmp x 0) = 0 then (if (lg_cmp y 0) = 0 then 1 else 0) else (if (lg_cmp (y - y / x * x) 0) = 0 then 1 else 0))
theorem D_X5_divides_s {x : Int64} {y : Int64} : D_X5_divides x y = (if (lg_cmp x 0) = 0 then (if (lg_cmp y 0) = 0 then 1 else 0) else (if (lg_cmp (y - y / x * x) 0) = 0 then 1 else 0)) := rfl
set_option maxHeartbeats 4000000 in
set_option maxRecDepth 100000 in
theorem k_X5_divides (κ : Kt) (l : Launch) (w : va_W) (x : Int64) (y : Int64)  (o_x : Int32) (hR : D_X5_divides x y = o_x) : CM κ l yX5_divides cX5_divides 4 (some .boolean) 0 0 0 0 [.long x, .long y] (w) (fun o w' => o = some (.int o_x) ∧ (o_x = 0 ∨ o_x = 1) ∧ w' = w) := by
  refine CM_begin (plainFor_of_name (by decide)) (Nat.le_of_ble_eq_true rfl) ?_
  intro p e s m args below meth c A Q hX hnm hA3 hQ hB ls hl
  have hx := hX.1.1
  have hb := hX.1.2.1
  have hl : lv_has ls 4 [(0, .long x), (2, .long y)] := hl
  replace hR := (D_X5_divides_s).symm.trans hR
  refine lv_lload_n hx hb dX5_divides_0 rfl (lv_at hl 0 rfl) ?_
  refine lv_lconst (v := 0) hx hb dX5_divides_1 (by decide) ?_
  refine W.lcmp hx hb dX5_divides_2 ?_
  refine lv_if_ne (tgt := 20) hx hb dX5_divides_3 (by decide) (fun c1 => ?_) (fun c1 => ?_)
  · replace hR := ifn c1 hR
    refine lv_lload_n hx hb dX5_divides_20 rfl (lv_at hl 1 rfl) ?_
    refine lv_lload_n hx hb dX5_divides_21 rfl (lv_at hl 0 rfl) ?_
    refine lv_lrem hx hb dX5_divides_22 (lgnz (by assumption)) ?_
    refine lv_lconst (v := 0) hx hb dX5_divides_23 (by decide) ?_
    refine W.lcmp hx hb dX5_divides_24 ?_
    refine lv_if_ne (tgt := 32) hx hb dX5_divides_25 (by decide) (fun c2 => ?_) (fun c2 => ?_)
    · replace hR := ifn c2 hR
      refine lv_iconst (v := 0) hx hb dX5_divides_32 (by decide) ?_
      rw [← hQ]
      exact end_i hX hB hA3 rfl rfl (by obtain rfl := hR; exact ⟨rfl, Or.inl rfl, rfl⟩) (Nat.le_of_ble_eq_true rfl) (Nat.le_of_ble_eq_true rfl) dX5_divides_33
    · replace hR := ifp c2 hR
      refine lv_iconst (v := 1) hx hb dX5_divides_28 (by decide) ?_
      refine lv_goto (tgt := 33) hx hb dX5_divides_29 (by decide) ?_
      rw [← hQ]
      exact end_i hX hB hA3 rfl rfl (by obtain rfl := hR; exact ⟨rfl, Or.inr rfl, rfl⟩) (Nat.le_of_ble_eq_true rfl) (Nat.le_of_ble_eq_true rfl) dX5_divides_33
  · replace hR := ifp c1 hR
    refine lv_lload_n hx hb dX5_divides_6 rfl (lv_at hl 1 rfl) ?_
    refine lv_lconst (v := 0) hx hb dX5_divides_7 (by decide) ?_
    refine W.lcmp hx hb dX5_divides_8 ?_
    refine lv_if_ne (tgt := 16) hx hb dX5_divides_9 (by decide) (fun c3 => ?_) (fun c3 => ?_)
    · replace hR := ifn c3 hR
      refine lv_iconst (v := 0) hx hb dX5_divides_16 (by decide) ?_
      refine lv_goto (tgt := 33) hx hb dX5_divides_17 (by decide) ?_
      rw [← hQ]
      exact end_i hX hB hA3 rfl rfl (by obtain rfl := hR; exact ⟨rfl, Or.inl rfl, rfl⟩) (Nat.le_of_ble_eq_true rfl) (Nat.le_of_ble_eq_true rfl) dX5_divides_33
    · replace hR := ifp c3 hR
      refine lv_iconst (v := 1) hx hb dX5_divides_12 (by decide) ?_
      refine lv_goto (tgt := 33) hx hb dX5_divides_13 (by decide) ?_
      rw [← hQ]
      exact end_i hX hB hA3 rfl rfl (by obtain rfl := hR; exact ⟨rfl, Or.inr rfl, rfl⟩) (Nat.le_of_ble_eq_true rfl) (Nat.le_of_ble_eq_true rfl) dX5_divides_33
noncomputable def D_X5_greatestCommonDivisor_15 (nn : Nat) : Int32 → Int64 → Int64 → Int64 := @Nat.rec (fun _ => Int32 → Int64 → Int64 → Int64) (fun _ _ _ => default) (fun _ lb15 (y8_15 : Int32) (y6_15 : Int64) (y4_15 : Int64) => (if 1000000 ≤ y8_15 then y4_15 else (if (lg_cmp y6_15 0) = 0 then y4_15 else (lb15 (y8_15 + 1) (y4_15 - y4_15 / y6_15 * y6_15) y6_15)))) nn
theorem D_X5_greatestCommonDivisor_15_s {nn : Nat} {y8_15 : Int32} {y6_15 : Int64} {y4_15 : Int64} : D_X5_greatestCommonDivisor_15 (nn + 1) y8_15 y6_15 y4_15 = (if 1000000 ≤ y8_15 then y4_15 else (if (lg_cmp y6_15 0) = 0 then y4_15 else ((D_X5_greatestCommonDivisor_15 nn) (y8_15 + 1) (y4_15 - y4_15 / y6_15 * y6_15) y6_15))) := rfl
noncomputable def D_X5_greatestCommonDivisor (x : Int64) (y : Int64) : Int64 := nm ((if 0 < x then x else -x) : Int64) (fun (t1 : Int64) => nm ((if 0 < y then y else -y) : Int64) (fun (t2 : Int64) => (D_X5_greatestCommonDivisor_15 (gap 1000000 0 + 1) 0 t2 t1)))
theorem D_X5_greatestCommonDivisor_s {x : Int64} {y : Int64} : D_X5_greatestCommonDivisor x y = nm ((if 0 < x then x else -x) : Int64) (fun (t1 : Int64) => nm ((if 0 < y then y else -y) : Int64) (fun (t2 : Int64) => (D_X5_greatestCommonDivisor_15 (gap 1000000 0 + 1) 0 t2 t1))) := rfl
set_option maxHeartbeats 4000000 in
set_option maxRecDepth 100000 in
theorem k_X5_greatestCommonDivisor (κ : Kt) (l : Launch) (w : va_W) (x : Int64) (y : Int64)  (o_x : Int64) (hR : D_X5_greatestCommonDivisor x y = o_x) : CM κ l yX5_greatestCommonDivisor cX5_greatestCommonDivisor 11 (some .long) 1 21 0 0 [.long x, .long y] (w) (fun o w' => o = some (.long o_x) ∧ w' = w) := by
  refine CM_begin (plainFor_of_name (by decide)) (Nat.le_of_ble_eq_true rfl) ?_
  intro p e s m args below meth c A Q hX hnm hA3 hQ hB ls hl
  have hx := hX.1.1
  have hb := hX.1.2.1
  have hl : lv_has ls 11 [(0, .long x), (2, .long y)] := hl
  replace hR := (D_X5_greatestCommonDivisor_s).symm.trans hR
  refine lv_lload_n hx hb dX5_greatestCommonDivisor_0 rfl (lv_at hl 0 rfl) ?_
  refine va_mabs_long hx hb (by rw [hX.1.2.2.1]; exact hl.1.symm) hX.1.2.2.2.1 (hX.1.2.2.2.2 _ wm_2_61) (hX.1.2.2.2.2 _ wm_1_237) (hX.1.2.2.2.2 _ wm_1_14) (hX.1.2.2.2.2 _ wm_1_238) (Nat.le_of_ble_eq_true rfl) (Nat.le_of_ble_eq_true rfl) (Nat.le_of_ble_eq_true rfl) (Nat.le_of_ble_eq_true rfl) dX5_greatestCommonDivisor_1 ?_
  refine lv_topl (fun t1 et1 => ?_)
  replace hR := nm_use et1 hR
  refine lv_lstore (lv' := [(4, .long t1), (0, .long x), (2, .long y)]) hx hb dX5_greatestCommonDivisor_4 hl (by decide) rfl (fun ls hl => ?_)
  refine lv_lload_n hx hb dX5_greatestCommonDivisor_6 rfl (lv_at hl 2 rfl) ?_
  refine va_mabs_long hx hb (by rw [hX.1.2.2.1]; exact hl.1.symm) hX.1.2.2.2.1 (hX.1.2.2.2.2 _ wm_2_61) (hX.1.2.2.2.2 _ wm_1_237) (hX.1.2.2.2.2 _ wm_1_14) (hX.1.2.2.2.2 _ wm_1_238) (Nat.le_of_ble_eq_true rfl) (Nat.le_of_ble_eq_true rfl) (Nat.le_of_ble_eq_true rfl) (Nat.le_of_ble_eq_true rfl) dX5_greatestCommonDivisor_7 ?_
  refine lv_topl (fun t2 et2 => ?_)
  replace hR := nm_use et2 hR
  refine lv_lstore (lv' := [(6, .long t2), (4, .long t1), (0, .long x), (2, .long y)]) hx hb dX5_greatestCommonDivisor_10 hl (by decide) rfl (fun ls hl => ?_)
  refine lv_iconst (v := 0) hx hb dX5_greatestCommonDivisor_12 (by decide) ?_
  refine lv_istore (lv' := [(8, .int 0), (6, .long t2), (4, .long t1), (0, .long x), (2, .long y)]) hx hb dX5_greatestCommonDivisor_13 hl (by decide) rfl (fun ls hl => ?_)
  have lp15 : ∀ (nn15 : Nat) (y8_15 : Int32) (y6_15 : Int64) (y4_15 : Int64) (H : Heap) (locs : List Loc), gap 1000000 y8_15 < nn15 → D_X5_greatestCommonDivisor_15 nn15 y8_15 y6_15 y4_15 = o_x → Bd κ A s (w) H locs → ∀ ls : Array Slot, lv_has ls 11 [(8, .int y8_15), (6, .long y6_15), (4, .long y4_15), (0, .long x), (2, .long y)] → W p l e (Rm 1 21 0 0) s m args below meth c H locs 0 0 Q (F0 m 15 ls []) := by
    intro nn15
    induction nn15 with
    | zero => intro y8_15 y6_15 y4_15 H locs hμ; exact absurd hμ (Nat.not_lt_zero _)
    | succ nn15 ih15 =>
      intro y8_15 y6_15 y4_15 H locs hμ15 hR hB ls hl
      replace hR := (D_X5_greatestCommonDivisor_15_s).symm.trans hR
      refine lv_iload hx hb dX5_greatestCommonDivisor_15 (lv_at hl 0 rfl) ?_
      refine lv_ldcw (own := RX5) (v := 1000000) hx hb hX.1.2.2.2.1 (hX.1.2.2.2.2 _ wm_2_62) dX5_greatestCommonDivisor_17 ?_
      refine lv_icmp_ge (tgt := 51) hx hb dX5_greatestCommonDivisor_20 (by decide) (fun c7 => ?_) (fun c7 => ?_)
      · replace hR := ifp c7 hR
        refine lv_lload hx hb dX5_greatestCommonDivisor_51 (lv_at hl 2 rfl) ?_
        rw [← hQ]
        exact end_l hX hB hA3 rfl (by obtain rfl := hR; exact ⟨rfl, rfl⟩) (Nat.le_of_ble_eq_true rfl) (Nat.le_of_ble_eq_true rfl) dX5_greatestCommonDivisor_53
      · replace hR := ifn c7 hR
        refine lv_lload hx hb dX5_greatestCommonDivisor_23 (lv_at hl 1 rfl) ?_
        refine lv_lconst (v := 0) hx hb dX5_greatestCommonDivisor_25 (by decide) ?_
        refine W.lcmp hx hb dX5_greatestCommonDivisor_26 ?_
        refine lv_if_eq (tgt := 51) hx hb dX5_greatestCommonDivisor_27 (by decide) (fun c8 => ?_) (fun c8 => ?_)
        · replace hR := ifp c8 hR
          refine lv_lload hx hb dX5_greatestCommonDivisor_51 (lv_at hl 2 rfl) ?_
          rw [← hQ]
          exact end_l hX hB hA3 rfl (by obtain rfl := hR; exact ⟨rfl, rfl⟩) (Nat.le_of_ble_eq_true rfl) (Nat.le_of_ble_eq_true rfl) dX5_greatestCommonDivisor_53
        · replace hR := ifn c8 hR
          refine lv_lload hx hb dX5_greatestCommonDivisor_30 (lv_at hl 2 rfl) ?_
          refine lv_lload hx hb dX5_greatestCommonDivisor_32 (lv_at hl 1 rfl) ?_
          refine lv_lrem hx hb dX5_greatestCommonDivisor_34 (lgnz (by assumption)) ?_
          refine lv_lstore (lv' := [(9, .long (y4_15 - y4_15 / y6_15 * y6_15)), (8, .int y8_15), (6, .long y6_15), (4, .long y4_15), (0, .long x), (2, .long y)]) hx hb dX5_greatestCommonDivisor_35 hl (by decide) rfl (fun ls hl => ?_)
          refine lv_lload hx hb dX5_greatestCommonDivisor_37 (lv_at hl 2 rfl) ?_
          refine lv_lstore (lv' := [(4, .long y6_15), (9, .long (y4_15 - y4_15 / y6_15 * y6_15)), (8, .int y8_15), (6, .long y6_15), (0, .long x), (2, .long y)]) hx hb dX5_greatestCommonDivisor_39 hl (by decide) rfl (fun ls hl => ?_)
          refine lv_lload hx hb dX5_greatestCommonDivisor_41 (lv_at hl 1 rfl) ?_
          refine lv_lstore (lv' := [(6, .long (y4_15 - y4_15 / y6_15 * y6_15)), (4, .long y6_15), (9, .long (y4_15 - y4_15 / y6_15 * y6_15)), (8, .int y8_15), (0, .long x), (2, .long y)]) hx hb dX5_greatestCommonDivisor_43 hl (by decide) rfl (fun ls hl => ?_)
          refine lv_iinc (v := y8_15 + 1) (lv' := [(8, .int (y8_15 + 1)), (6, .long (y4_15 - y4_15 / y6_15 * y6_15)), (4, .long y6_15), (9, .long (y4_15 - y4_15 / y6_15 * y6_15)), (0, .long x), (2, .long y)]) hx hb dX5_greatestCommonDivisor_45 hl (k := 3) rfl rfl (by decide) rfl (fun ls hl => ?_)
          refine lv_goto (tgt := 15) hx hb dX5_greatestCommonDivisor_48 (by decide) ?_
          exact ih15 (y8_15 + 1) (y4_15 - y4_15 / y6_15 * y6_15) y6_15 _ _  (gap_step c7 hμ15) hR hB _ (lv_sub hl [0, 1, 2, 4, 5] rfl)
  exact lp15 _ 0 t2 t1 _ _  (Nat.lt_succ_self _) hR hB _ hl
