theorem sm_32 {x : Int64} (h : sm x) : x.toInt32.toInt = x.toInt ∧ -20 ≤ x.toInt ∧ x.toInt ≤ 20 := by
  have h1 := Int64.le_iff_toInt_le.mp h.1
  have h2 := Int64.le_iff_toInt_le.mp h.2
  rw [show (-20 : Int64).toInt = -20 from rfl] at h1
  rw [show (20 : Int64).toInt = 20 from rfl] at h2
  refine ⟨?_, h1, h2⟩
  rw [Int64.toInt_toInt32]
  exact Int.bmod_eq_of_le (by omega) (by omega)
theorem sm_n {x : Int64} (h : sm x) : (-x).toInt = -x.toInt := by
  obtain ⟨-, h1, h2⟩ := sm_32 h
  rw [Int64.toInt_neg]
  exact Int.bmod_eq_of_le (by omega) (by omega)
theorem ls_lt {x y : Int64} : (lg_cmp x y < 0) = (x.toInt < y.toInt) := propext ((lg_cmp_lt x y).trans Int64.lt_iff_toInt_lt)
theorem ls_le {x y : Int64} : (lg_cmp x y ≤ 0) = (x.toInt ≤ y.toInt) := propext ((lg_cmp_le x y).trans Int64.le_iff_toInt_le)
theorem i64z : (0 : Int64).toInt = 0 := rfl
theorem ls_0 {x : Int64} (h : sm x) : (x.toInt32 < 0) = (x.toInt < 0) := by
  rw [i32_lt, (sm_32 h).1]
  rfl
theorem ls_1 {x : Int64} (h : sm x) (c0 : lg_cmp x 0 < 0) (c : ¬ lg_cmp x (-10) ≤ 0) : DSz x.toInt32 (1 + 1) := by
  obtain ⟨e, h1, h2⟩ := sm_32 h
  rw [ls_lt, i64z] at c0
  rw [ls_le, show (-10 : Int64).toInt = -10 from rfl] at c
  unfold DSz
  rw [ls_0 h, e]
  exact ⟨fun _ => ⟨by omega, by omega, by omega⟩, fun z => absurd c0 z⟩
theorem ls_2 {x : Int64} (h : sm x) (c0 : lg_cmp x 0 < 0) : DSz x.toInt32 (2 + 1) := by
  obtain ⟨e, h1, h2⟩ := sm_32 h
  rw [ls_lt, i64z] at c0
  unfold DSz
  rw [ls_0 h, e]
  exact ⟨fun _ => ⟨by omega, by omega, by omega⟩, fun z => absurd c0 z⟩
theorem ls_3 {x : Int64} (h : sm x) (c0 : ¬ lg_cmp x 0 < 0) (c : ¬ lg_cmp (-x) (-10) ≤ 0) : DSz x.toInt32 1 := by
  obtain ⟨e, h1, h2⟩ := sm_32 h
  rw [ls_lt, i64z] at c0
  rw [ls_le, sm_n h, show (-10 : Int64).toInt = -10 from rfl] at c
  unfold DSz
  rw [ls_0 h, e]
  exact ⟨fun z => absurd z c0, fun _ => ⟨by omega, by omega, by omega⟩⟩
theorem ls_4 {x : Int64} (h : sm x) (c0 : ¬ lg_cmp x 0 < 0) : DSz x.toInt32 2 := by
  obtain ⟨e, h1, h2⟩ := sm_32 h
  rw [ls_lt, i64z] at c0
  unfold DSz
  rw [ls_0 h, e]
  exact ⟨fun z => absurd z c0, fun _ => ⟨by omega, by omega, by omega⟩⟩
theorem ls_5 {x : Int64} (h : sm x) (c : lg_cmp x (10 * -10) ≤ 0) : False := by
  obtain ⟨e, h1, h2⟩ := sm_32 h
  rw [ls_le, show (10 * -10 : Int64).toInt = -100 from rfl] at c
  omega
theorem ls_6 {x : Int64} (h : sm x) (c : lg_cmp (-x) (10 * -10) ≤ 0) : False := by
  obtain ⟨e, h1, h2⟩ := sm_32 h
  rw [ls_le, sm_n h, show (10 * -10 : Int64).toInt = -100 from rfl] at c
  omega
theorem ls_7 {x : Int64} (h : sm x) (c : ¬ 0 < lg_cmp x (-2147483648)) : False := by
  obtain ⟨e, h1, h2⟩ := sm_32 h
  rw [lg_cmp_gt, Int64.lt_iff_toInt_lt, show (-2147483648 : Int64).toInt = -2147483648 from rfl] at c
  omega
theorem ls_8 {x : Int64} (h : sm x) (c : ¬ 0 < lg_cmp (-x) (-2147483648)) : False := by
  obtain ⟨e, h1, h2⟩ := sm_32 h
  rw [lg_cmp_gt, Int64.lt_iff_toInt_lt, sm_n h, show (-2147483648 : Int64).toInt = -2147483648 from rfl] at c
  omega
theorem lgc_0 {x : Int64} {z : Nat} (h : sm x) (hd : DSz x.toInt32 z) (c0 : ¬ 0 ≤ lg_cmp x 0) : GCi x.toInt32 (z - 1) := gc_0 hd (by
  rw [ls_0 h]
  rw [lg_cmp_ge, Int64.le_iff_toInt_le, i64z] at c0
  omega)
theorem lgc_1 {x : Int64} {z : Nat} (h : sm x) (hd : DSz x.toInt32 z) (c0 : 0 ≤ lg_cmp x 0) : GCi (-x).toInt32 z := by
  rw [Int64.toInt32_neg]
  refine gc_1 hd ?_
  rw [ls_0 h]
  rw [lg_cmp_ge, Int64.le_iff_toInt_le, i64z] at c0
  omega

set_option maxHeartbeats 4000000 in
set_option maxRecDepth 100000 in
theorem k_J13_stringSize_95d88 (κ : Kt) (l : Launch) (w : va_W) (x : Int64) (hsm : sm x) : CM κ l yJ13_stringSize_95d88 cJ13_stringSize_95d88 6 (some .int) 0 0 0 0 [.long x] (w) (fun o w' => ∃ (z : Nat), o = some (.int (nI z)) ∧ (DSz x.toInt32 z) ∧ w' = w) := by
  refine CM_begin (plainFor_of_name (by decide)) (Nat.le_of_ble_eq_true rfl) ?_
  intro p e s m args below meth c A Q hX hnm hA3 hQ hB ls hl
  have hx := hX.1.1
  have hb := hX.1.2.1
  have hl : lv_has ls 6 [(0, .long x)] := hl
  refine lv_iconst (v := 1) hx hb dJ13_stringSize_95d88_0 (by decide) ?_
  refine lv_istore_n (lv' := [(2, .int 1), (0, .long x)]) hx hb dJ13_stringSize_95d88_1 rfl hl (by decide) rfl (fun ls hl => ?_)
  refine lv_lload_n hx hb dJ13_stringSize_95d88_2 rfl (lv_at hl 1 rfl) ?_
  refine lv_lconst (v := 0) hx hb dJ13_stringSize_95d88_3 (by decide) ?_
  refine W.lcmp hx hb dJ13_stringSize_95d88_4 ?_
  refine lv_if_lt (tgt := 13) hx hb dJ13_stringSize_95d88_5 (by decide) (fun c1 => ?_) (fun c1 => ?_)
  · refine lv_ldc2 (own := RJ13) (v := (-10)) hx hb hX.1.2.2.2.1 (hX.1.2.2.2.2 _ wm_7_50) dJ13_stringSize_95d88_13 ?_
    refine lv_lstore_n (lv' := [(3, .long (-10)), (2, .int 1), (0, .long x)]) hx hb dJ13_stringSize_95d88_16 rfl hl (by decide) rfl (fun ls hl => ?_)
    refine lv_iconst (v := 1) hx hb dJ13_stringSize_95d88_17 (by decide) ?_
    refine lv_istore (lv' := [(5, .int 1), (3, .long (-10)), (2, .int 1), (0, .long x)]) hx hb dJ13_stringSize_95d88_18 hl (by decide) rfl (fun ls hl => ?_)
    refine lv_iload hx hb dJ13_stringSize_95d88_20 (lv_at hl 0 rfl) ?_
    refine lv_bipush (v := 19) hx hb dJ13_stringSize_95d88_22 (by decide) ?_
    refine lv_icmp_ge (tgt := 50) hx hb dJ13_stringSize_95d88_24 (by decide) (fun c2 => False.elim (by revert c2; decide)) (fun _ => ?_)
    refine lv_lload_n hx hb dJ13_stringSize_95d88_27 rfl (lv_at hl 3 rfl) ?_
    refine lv_lload_n hx hb dJ13_stringSize_95d88_28 rfl (lv_at hl 1 rfl) ?_
    refine W.lcmp hx hb dJ13_stringSize_95d88_29 ?_
    refine lv_if_le (tgt := 38) hx hb dJ13_stringSize_95d88_30 (by decide) (fun c3 => ?_) (fun c3 => ?_)
    · refine lv_ldc2 (own := RJ13) (v := 10) hx hb hX.1.2.2.2.1 (hX.1.2.2.2.2 _ wm_7_51) dJ13_stringSize_95d88_38 ?_
      refine lv_lload_n hx hb dJ13_stringSize_95d88_41 rfl (lv_at hl 1 rfl) ?_
      refine lv_lmul hx hb dJ13_stringSize_95d88_42 ?_
      refine lv_lstore_n (lv' := [(3, .long (10 * (-10))), (5, .int 1), (2, .int 1), (0, .long x)]) hx hb dJ13_stringSize_95d88_43 rfl hl (by decide) rfl (fun ls hl => ?_)
      refine lv_iinc (v := 2) (lv' := [(5, .int 2), (3, .long (10 * (-10))), (2, .int 1), (0, .long x)]) hx hb dJ13_stringSize_95d88_44 hl (k := 1) rfl (by decide) (by decide) rfl (fun ls hl => ?_)
      refine lv_goto (tgt := 20) hx hb dJ13_stringSize_95d88_47 (by decide) ?_
      refine lv_iload hx hb dJ13_stringSize_95d88_20 (lv_at hl 0 rfl) ?_
      refine lv_bipush (v := 19) hx hb dJ13_stringSize_95d88_22 (by decide) ?_
      refine lv_icmp_ge (tgt := 50) hx hb dJ13_stringSize_95d88_24 (by decide) (fun c4 => False.elim (by revert c4; decide)) (fun _ => ?_)
      refine lv_lload_n hx hb dJ13_stringSize_95d88_27 rfl (lv_at hl 3 rfl) ?_
      refine lv_lload_n hx hb dJ13_stringSize_95d88_28 rfl (lv_at hl 1 rfl) ?_
      refine W.lcmp hx hb dJ13_stringSize_95d88_29 ?_
      refine lv_if_le (tgt := 38) hx hb dJ13_stringSize_95d88_30 (by decide) (fun c5 => ?_) (fun c5 => ?_)
      · exact (ls_5 hsm (by assumption)).elim
      · refine lv_iload hx hb dJ13_stringSize_95d88_33 (lv_at hl 0 rfl) ?_
        refine lv_iload_n hx hb dJ13_stringSize_95d88_35 rfl (lv_at hl 2 rfl) ?_
        refine lv_iadd hx hb dJ13_stringSize_95d88_36 ?_
        refine eqi (y := 3) (by decide) ?_
        rw [← hQ]
        exact end_i hX hB hA3 rfl rfl ⟨3, rfl, (ls_2 hsm (by assumption)), rfl⟩ (Nat.le_of_ble_eq_true rfl) (Nat.le_of_ble_eq_true rfl) dJ13_stringSize_95d88_37
    · refine lv_iload hx hb dJ13_stringSize_95d88_33 (lv_at hl 0 rfl) ?_
      refine lv_iload_n hx hb dJ13_stringSize_95d88_35 rfl (lv_at hl 2 rfl) ?_
      refine lv_iadd hx hb dJ13_stringSize_95d88_36 ?_
      refine eqi (y := 2) (by decide) ?_
      rw [← hQ]
      exact end_i hX hB hA3 rfl rfl ⟨2, rfl, (ls_1 hsm (by assumption) (by assumption)), rfl⟩ (Nat.le_of_ble_eq_true rfl) (Nat.le_of_ble_eq_true rfl) dJ13_stringSize_95d88_37
  · refine lv_iconst (v := 0) hx hb dJ13_stringSize_95d88_8 (by decide) ?_
    refine lv_istore_n (lv' := [(2, .int 0), (0, .long x)]) hx hb dJ13_stringSize_95d88_9 rfl hl (by decide) rfl (fun ls hl => ?_)
    refine lv_lload_n hx hb dJ13_stringSize_95d88_10 rfl (lv_at hl 1 rfl) ?_
    refine lv_lneg hx hb dJ13_stringSize_95d88_11 ?_
    refine lv_lstore_n (lv' := [(0, .long (-x)), (2, .int 0)]) hx hb dJ13_stringSize_95d88_12 rfl hl (by decide) rfl (fun ls hl => ?_)
    refine lv_ldc2 (own := RJ13) (v := (-10)) hx hb hX.1.2.2.2.1 (hX.1.2.2.2.2 _ wm_7_50) dJ13_stringSize_95d88_13 ?_
    refine lv_lstore_n (lv' := [(3, .long (-10)), (0, .long (-x)), (2, .int 0)]) hx hb dJ13_stringSize_95d88_16 rfl hl (by decide) rfl (fun ls hl => ?_)
    refine lv_iconst (v := 1) hx hb dJ13_stringSize_95d88_17 (by decide) ?_
    refine lv_istore (lv' := [(5, .int 1), (3, .long (-10)), (0, .long (-x)), (2, .int 0)]) hx hb dJ13_stringSize_95d88_18 hl (by decide) rfl (fun ls hl => ?_)
    refine lv_iload hx hb dJ13_stringSize_95d88_20 (lv_at hl 0 rfl) ?_
    refine lv_bipush (v := 19) hx hb dJ13_stringSize_95d88_22 (by decide) ?_
    refine lv_icmp_ge (tgt := 50) hx hb dJ13_stringSize_95d88_24 (by decide) (fun c6 => False.elim (by revert c6; decide)) (fun _ => ?_)
    refine lv_lload_n hx hb dJ13_stringSize_95d88_27 rfl (lv_at hl 2 rfl) ?_
    refine lv_lload_n hx hb dJ13_stringSize_95d88_28 rfl (lv_at hl 1 rfl) ?_
    refine W.lcmp hx hb dJ13_stringSize_95d88_29 ?_
    refine lv_if_le (tgt := 38) hx hb dJ13_stringSize_95d88_30 (by decide) (fun c7 => ?_) (fun c7 => ?_)
    · refine lv_ldc2 (own := RJ13) (v := 10) hx hb hX.1.2.2.2.1 (hX.1.2.2.2.2 _ wm_7_51) dJ13_stringSize_95d88_38 ?_
      refine lv_lload_n hx hb dJ13_stringSize_95d88_41 rfl (lv_at hl 1 rfl) ?_
      refine lv_lmul hx hb dJ13_stringSize_95d88_42 ?_
      refine lv_lstore_n (lv' := [(3, .long (10 * (-10))), (5, .int 1), (0, .long (-x)), (2, .int 0)]) hx hb dJ13_stringSize_95d88_43 rfl hl (by decide) rfl (fun ls hl => ?_)
      refine lv_iinc (v := 2) (lv' := [(5, .int 2), (3, .long (10 * (-10))), (0, .long (-x)), (2, .int 0)]) hx hb dJ13_stringSize_95d88_44 hl (k := 1) rfl (by decide) (by decide) rfl (fun ls hl => ?_)
      refine lv_goto (tgt := 20) hx hb dJ13_stringSize_95d88_47 (by decide) ?_
      refine lv_iload hx hb dJ13_stringSize_95d88_20 (lv_at hl 0 rfl) ?_
      refine lv_bipush (v := 19) hx hb dJ13_stringSize_95d88_22 (by decide) ?_
      refine lv_icmp_ge (tgt := 50) hx hb dJ13_stringSize_95d88_24 (by decide) (fun c8 => False.elim (by revert c8; decide)) (fun _ => ?_)
      refine lv_lload_n hx hb dJ13_stringSize_95d88_27 rfl (lv_at hl 2 rfl) ?_
      refine lv_lload_n hx hb dJ13_stringSize_95d88_28 rfl (lv_at hl 1 rfl) ?_
      refine W.lcmp hx hb dJ13_stringSize_95d88_29 ?_
      refine lv_if_le (tgt := 38) hx hb dJ13_stringSize_95d88_30 (by decide) (fun c9 => ?_) (fun c9 => ?_)
      · exact (ls_6 hsm (by assumption)).elim
      · refine lv_iload hx hb dJ13_stringSize_95d88_33 (lv_at hl 0 rfl) ?_
        refine lv_iload_n hx hb dJ13_stringSize_95d88_35 rfl (lv_at hl 3 rfl) ?_
        refine lv_iadd hx hb dJ13_stringSize_95d88_36 ?_
        refine eqi (y := 2) (by decide) ?_
        rw [← hQ]
        exact end_i hX hB hA3 rfl rfl ⟨2, rfl, (ls_4 hsm (by assumption)), rfl⟩ (Nat.le_of_ble_eq_true rfl) (Nat.le_of_ble_eq_true rfl) dJ13_stringSize_95d88_37
    · refine lv_iload hx hb dJ13_stringSize_95d88_33 (lv_at hl 0 rfl) ?_
      refine lv_iload_n hx hb dJ13_stringSize_95d88_35 rfl (lv_at hl 3 rfl) ?_
      refine lv_iadd hx hb dJ13_stringSize_95d88_36 ?_
      refine eqi (y := 1) (by decide) ?_
      rw [← hQ]
      exact end_i hX hB hA3 rfl rfl ⟨1, rfl, (ls_3 hsm (by assumption) (by assumption)), rfl⟩ (Nat.le_of_ble_eq_true rfl) (Nat.le_of_ble_eq_true rfl) dJ13_stringSize_95d88_37
set_option maxHeartbeats 4000000 in
set_option maxRecDepth 100000 in
theorem k_J13_getChars_11360 (κ : Kt) (l : Launch) (w : va_W) (x : Int64) (xp0 : Int32) (p0 : Nat) (k_b b_b n_b : Nat) (f_b : Nat → Int32) (hxp0 : xp0 = nI p0) (h_b : w[k_b]? = some (bA κ b_b n_b f_b)) (hnb : n_b ≤ 1000) (hft : sb_Fit f_b) (hsm : sm x) (hsz : ∃ sz, DSz x.toInt32 sz ∧ sz ≤ p0) (hp0 : p0 ≤ n_b) : CM κ l yJ13_getChars_11360 cJ13_getChars_11360 11 (some .int) 0 0 0 0 [.long x, .int xp0, .ref b_b] (w) (fun o w' => ∃ (z : Nat) (F : Nat → Int32), o = some (.int (nI z)) ∧ (sb_Fit F) ∧ w' = w.set k_b (bA κ b_b n_b F)) := by
  subst hxp0
  refine CM_begin (plainFor_of_name (by decide)) (Nat.le_of_ble_eq_true rfl) ?_
  intro p e s m args below meth c A Q hX hnm hA3 hQ hB ls hl
  have hx := hX.1.1
  have hb := hX.1.2.1
  have hl : lv_has ls 11 [(0, .long x), (2, .int (nI p0)), (3, .ref b_b)] := hl
  have hB : Bd κ A s (w.set k_b (bA κ b_b n_b f_b)) s.heap [] := by rw [wset0 h_b]; exact hB
  obtain ⟨sz, hds, hsp⟩ := hsz
  obtain ⟨hdta, fdt, hdt1, hdt2⟩ := hX.2.1.2.2.1.1.2.2.2.1
  obtain ⟨hdoa, fdo, hdo1, hdo2⟩ := hX.2.1.2.2.1.1.2.2.2.2
  refine lv_iload_n hx hb dJ13_getChars_11360_0 rfl (lv_at hl 1 rfl) ?_
  refine lv_istore (lv' := [(7, .int (nI p0)), (0, .long x), (2, .int (nI p0)), (3, .ref b_b)]) hx hb dJ13_getChars_11360_1 hl (by decide) rfl (fun ls hl => ?_)
  refine lv_lload_n hx hb dJ13_getChars_11360_3 rfl (lv_at hl 1 rfl) ?_
  refine lv_lconst (v := 0) hx hb dJ13_getChars_11360_4 (by decide) ?_
  refine W.lcmp hx hb dJ13_getChars_11360_5 ?_
  refine lv_if_ge (tgt := 13) hx hb dJ13_getChars_11360_6 (by decide) (fun c1 => ?_) (fun c1 => ?_)
  · refine lv_iconst (v := 0) hx hb dJ13_getChars_11360_13 (by decide) ?_
    refine lv_istore (lv' := [(8, .int 0), (7, .int (nI p0)), (0, .long x), (2, .int (nI p0)), (3, .ref b_b)]) hx hb dJ13_getChars_11360_14 hl (by decide) rfl (fun ls hl => ?_)
    refine lv_iload hx hb dJ13_getChars_11360_16 (lv_at hl 0 rfl) ?_
    refine lv_if_ne (tgt := 24) hx hb dJ13_getChars_11360_18 (by decide) (fun c2 => False.elim (by revert c2; decide)) (fun _ => ?_)
    refine lv_lload_n hx hb dJ13_getChars_11360_21 rfl (lv_at hl 2 rfl) ?_
    refine lv_lneg hx hb dJ13_getChars_11360_22 ?_
    refine lv_lstore_n (lv' := [(0, .long (-x)), (8, .int 0), (7, .int (nI p0)), (2, .int (nI p0)), (3, .ref b_b)]) hx hb dJ13_getChars_11360_23 rfl hl (by decide) rfl (fun ls hl => ?_)
    refine lv_lload_n hx hb dJ13_getChars_11360_24 rfl (lv_at hl 0 rfl) ?_
    refine lv_ldc2 (own := RJ13) (v := (-2147483648)) hx hb hX.1.2.2.2.1 (hX.1.2.2.2.2 _ wm_7_55) dJ13_getChars_11360_25 ?_
    refine W.lcmp hx hb dJ13_getChars_11360_28 ?_
    refine lv_if_gt (tgt := 82) hx hb dJ13_getChars_11360_29 (by decide) (fun c3 => ?_) (fun c3 => ?_)
    · refine lv_lload_n hx hb dJ13_getChars_11360_82 rfl (lv_at hl 0 rfl) ?_
      refine lv_l2i hx hb dJ13_getChars_11360_83 rfl ?_
      refine lv_istore (lv' := [(10, .int (((-x)).toInt32)), (0, .long (-x)), (8, .int 0), (7, .int (nI p0)), (2, .int (nI p0)), (3, .ref b_b)]) hx hb dJ13_getChars_11360_84 hl (by decide) rfl (fun ls hl => ?_)
      have lp86 : ∀ (nn : Nat) (y10_86 : Int32) (y7_86 : Nat) (bb_86 : Nat → Int32) (kk : Nat) (H : Heap) (locs : List Loc), (GCi y10_86 kk) → (kk + 0 ≤ y7_86 ∧ y7_86 ≤ n_b) → (sb_Fit bb_86) → (y10_86).toInt.natAbs < nn → Bd κ A s ((w.set k_b (bA κ b_b n_b bb_86))) H locs → ∀ ls : Array Slot, lv_has ls 11 [(10, .int y10_86), (0, .long (-x)), (8, .int 0), (7, .int (nI y7_86)), (2, .int (nI p0)), (3, .ref b_b)] → W p l e (Rm 0 0 0 0) s m args below meth c H locs (0) (0) Q (F0 m 86 ls []) := by
        intro nn
        induction nn with
        | zero => intro y10_86 y7_86 bb_86 kk H locs hgc hpp hfb hμ; exact absurd hμ (Nat.not_lt_zero _)
        | succ nn ih86 =>
          intro y10_86 y7_86 bb_86 kk H locs hgc hpp hfb hμ86 hB ls hl
          have hgk := hgc.2.2
          refine lv_iload hx hb dJ13_getChars_11360_86 (lv_at hl 0 rfl) ?_
          refine lv_bipush (v := (-100)) hx hb dJ13_getChars_11360_88 (by decide) ?_
          refine lv_icmp_gt (tgt := 143) hx hb dJ13_getChars_11360_90 (by decide) (fun c20 => ?_) (fun c20 => ?_)
          · refine lv_aload_n hx hb dJ13_getChars_11360_143 rfl (lv_at hl 5 rfl) ?_
            refine lv_iinc (v := nI (y7_86 - 1)) (lv' := [(7, .int (nI (y7_86 - 1))), (10, .int y10_86), (0, .long (-x)), (8, .int 0), (2, .int (nI p0)), (3, .ref b_b)]) hx hb dJ13_getChars_11360_144 hl (k := 3) rfl (nI_dec (a := y7_86) (by omega)) (by decide) rfl (fun ls hl => ?_)
            refine lv_iload hx hb dJ13_getChars_11360_147 (lv_at hl 0 rfl) ?_
            refine gsv hX hB hdo1 wm_7_57 dJ13_getChars_11360_149 ?_
            refine lv_iload hx hb dJ13_getChars_11360_152 (lv_at hl 1 rfl) ?_
            refine lv_ineg hx hb dJ13_getChars_11360_154 ?_
            refine baldS hX hB hdo2 (gc_n hgc (by assumption)) dJ13_getChars_11360_155 ?_
            refine lv_topi (fun u21 eu21 => ?_)
            refine bastN (k0 := k_b) (k := y7_86 - 1) hX hB (wset1 h_b) (by omega) (by omega) (w1 := (w.set k_b (bA κ b_b n_b (upd bb_86 (y7_86 - 1) (vp_nar .byte u21))))) (List.set_set _) dJ13_getChars_11360_156 (fun H locs hB => ?_)
            refine lv_iload hx hb dJ13_getChars_11360_157 (lv_at hl 1 rfl) ?_
            refine lv_bipush (v := (-9)) hx hb dJ13_getChars_11360_159 (by decide) ?_
            refine lv_icmp_ge (tgt := 178) hx hb dJ13_getChars_11360_161 (by decide) (fun c22 => ?_) (fun c22 => ?_)
            · refine lv_iload hx hb dJ13_getChars_11360_178 (lv_at hl 3 rfl) ?_
              refine lv_if_eq (tgt := 192) hx hb dJ13_getChars_11360_180 (by decide) (fun _ => ?_) (fun c23 => False.elim (by revert c23; decide))
              refine lv_iload hx hb dJ13_getChars_11360_192 (lv_at hl 0 rfl) ?_
              rw [← hQ]
              exact end_i hX hB hA3 rfl rfl ⟨(y7_86 - 1), (upd bb_86 (y7_86 - 1) (vp_nar .byte u21)), rfl, (sb_fitU hfb (pk_fb _)), rfl⟩ (Nat.le_of_ble_eq_true rfl) (Nat.le_of_ble_eq_true rfl) dJ13_getChars_11360_194
            · have hk2 := gc_k2 hgc c22
              refine lv_aload_n hx hb dJ13_getChars_11360_164 rfl (lv_at hl 5 rfl) ?_
              refine lv_iinc (v := nI (y7_86 - 1 - 1)) (lv' := [(7, .int (nI (y7_86 - 1 - 1))), (10, .int y10_86), (0, .long (-x)), (8, .int 0), (2, .int (nI p0)), (3, .ref b_b)]) hx hb dJ13_getChars_11360_165 hl (k := 0) rfl (nI_dec (a := y7_86 - 1) (by omega)) (by decide) rfl (fun ls hl => ?_)
              refine lv_iload hx hb dJ13_getChars_11360_168 (lv_at hl 0 rfl) ?_
              refine gsv hX hB hdt1 wm_7_58 dJ13_getChars_11360_170 ?_
              refine lv_iload hx hb dJ13_getChars_11360_173 (lv_at hl 1 rfl) ?_
              refine lv_ineg hx hb dJ13_getChars_11360_175 ?_
              refine baldS hX hB hdt2 (gc_n hgc (by assumption)) dJ13_getChars_11360_176 ?_
              refine lv_topi (fun u24 eu24 => ?_)
              refine bastN (k0 := k_b) (k := y7_86 - 1 - 1) hX hB (wset1 h_b) (by omega) (by omega) (w1 := (w.set k_b (bA κ b_b n_b (upd (upd bb_86 (y7_86 - 1) (vp_nar .byte u21)) (y7_86 - 1 - 1) (vp_nar .byte u24))))) (List.set_set _) dJ13_getChars_11360_177 (fun H locs hB => ?_)
              refine lv_iload hx hb dJ13_getChars_11360_178 (lv_at hl 3 rfl) ?_
              refine lv_if_eq (tgt := 192) hx hb dJ13_getChars_11360_180 (by decide) (fun _ => ?_) (fun c25 => False.elim (by revert c25; decide))
              refine lv_iload hx hb dJ13_getChars_11360_192 (lv_at hl 0 rfl) ?_
              rw [← hQ]
              exact end_i hX hB hA3 rfl rfl ⟨(y7_86 - 1 - 1), (upd (upd bb_86 (y7_86 - 1) (vp_nar .byte u21)) (y7_86 - 1 - 1) (vp_nar .byte u24)), rfl, (sb_fitU (sb_fitU hfb (pk_fb _)) (pk_fb _)), rfl⟩ (Nat.le_of_ble_eq_true rfl) (Nat.le_of_ble_eq_true rfl) dJ13_getChars_11360_194
          · have hk3 := gc_k3 hgc c20
            refine lv_iload hx hb dJ13_getChars_11360_93 (lv_at hl 0 rfl) ?_
            refine lv_bipush (v := 100) hx hb dJ13_getChars_11360_95 (by decide) ?_
            refine lv_idiv hx hb dJ13_getChars_11360_97 (by decide) ?_
            refine lv_istore (lv' := [(9, .int (y10_86 / 100)), (10, .int y10_86), (0, .long (-x)), (8, .int 0), (7, .int (nI y7_86)), (2, .int (nI p0)), (3, .ref b_b)]) hx hb dJ13_getChars_11360_98 hl (by decide) rfl (fun ls hl => ?_)
            refine lv_iload hx hb dJ13_getChars_11360_100 (lv_at hl 0 rfl) ?_
            refine lv_bipush (v := 100) hx hb dJ13_getChars_11360_102 (by decide) ?_
            refine lv_imul hx hb dJ13_getChars_11360_104 ?_
            refine lv_iload hx hb dJ13_getChars_11360_105 (lv_at hl 1 rfl) ?_
            refine lv_isub hx hb dJ13_getChars_11360_107 ?_
            refine lv_istore (lv' := [(6, .int (((y10_86 / 100) * 100) - y10_86)), (9, .int (y10_86 / 100)), (10, .int y10_86), (0, .long (-x)), (8, .int 0), (7, .int (nI y7_86)), (2, .int (nI p0)), (3, .ref b_b)]) hx hb dJ13_getChars_11360_108 hl (by decide) rfl (fun ls hl => ?_)
            refine lv_iload hx hb dJ13_getChars_11360_110 (lv_at hl 1 rfl) ?_
            refine lv_istore (lv' := [(10, .int (y10_86 / 100)), (6, .int (((y10_86 / 100) * 100) - y10_86)), (9, .int (y10_86 / 100)), (0, .long (-x)), (8, .int 0), (7, .int (nI y7_86)), (2, .int (nI p0)), (3, .ref b_b)]) hx hb dJ13_getChars_11360_112 hl (by decide) rfl (fun ls hl => ?_)
            refine lv_aload_n hx hb dJ13_getChars_11360_114 rfl (lv_at hl 7 rfl) ?_
            refine lv_iinc (v := nI (y7_86 - 1)) (lv' := [(7, .int (nI (y7_86 - 1))), (10, .int (y10_86 / 100)), (6, .int (((y10_86 / 100) * 100) - y10_86)), (9, .int (y10_86 / 100)), (0, .long (-x)), (8, .int 0), (2, .int (nI p0)), (3, .ref b_b)]) hx hb dJ13_getChars_11360_115 hl (k := 5) rfl (nI_dec (a := y7_86) (by omega)) (by decide) rfl (fun ls hl => ?_)
            refine lv_iload hx hb dJ13_getChars_11360_118 (lv_at hl 0 rfl) ?_
            refine gsv hX hB hdo1 wm_7_57 dJ13_getChars_11360_120 ?_
            refine lv_iload hx hb dJ13_getChars_11360_123 (lv_at hl 2 rfl) ?_
            refine baldS hX hB hdo2 (gc_r hgc) dJ13_getChars_11360_125 ?_
            refine lv_topi (fun u26 eu26 => ?_)
            refine bastN (k0 := k_b) (k := y7_86 - 1) hX hB (wset1 h_b) (by omega) (by omega) (w1 := (w.set k_b (bA κ b_b n_b (upd bb_86 (y7_86 - 1) (vp_nar .byte u26))))) (List.set_set _) dJ13_getChars_11360_126 (fun H locs hB => ?_)
            refine lv_aload_n hx hb dJ13_getChars_11360_127 rfl (lv_at hl 7 rfl) ?_
            refine lv_iinc (v := nI (y7_86 - 1 - 1)) (lv' := [(7, .int (nI (y7_86 - 1 - 1))), (10, .int (y10_86 / 100)), (6, .int (((y10_86 / 100) * 100) - y10_86)), (9, .int (y10_86 / 100)), (0, .long (-x)), (8, .int 0), (2, .int (nI p0)), (3, .ref b_b)]) hx hb dJ13_getChars_11360_128 hl (k := 0) rfl (nI_dec (a := y7_86 - 1) (by omega)) (by decide) rfl (fun ls hl => ?_)
            refine lv_iload hx hb dJ13_getChars_11360_131 (lv_at hl 0 rfl) ?_
            refine gsv hX hB hdt1 wm_7_58 dJ13_getChars_11360_133 ?_
            refine lv_iload hx hb dJ13_getChars_11360_136 (lv_at hl 2 rfl) ?_
            refine baldS hX hB hdt2 (gc_r hgc) dJ13_getChars_11360_138 ?_
            refine lv_topi (fun u27 eu27 => ?_)
            refine bastN (k0 := k_b) (k := y7_86 - 1 - 1) hX hB (wset1 h_b) (by omega) (by omega) (w1 := (w.set k_b (bA κ b_b n_b (upd (upd bb_86 (y7_86 - 1) (vp_nar .byte u26)) (y7_86 - 1 - 1) (vp_nar .byte u27))))) (List.set_set _) dJ13_getChars_11360_139 (fun H locs hB => ?_)
            refine lv_goto (tgt := 86) hx hb dJ13_getChars_11360_140 (by decide) ?_
            exact ih86 (y10_86 / 100) (y7_86 - 1 - 1) (upd (upd bb_86 (y7_86 - 1) (vp_nar .byte u26)) (y7_86 - 1 - 1) (vp_nar .byte u27)) (kk - 2) _ _ ((gc_s hgc c20).1) (⟨by omega, by omega⟩) (sb_fitU (sb_fitU hfb (pk_fb _)) (pk_fb _)) (by have := (gc_s hgc c20).2; omega) hB _ (lv_sub hl [1, 4, 5, 0, 6, 7] rfl)
      exact lp86 _ (((-x)).toInt32) p0 f_b sz _ _ (lgc_1 hsm hds (by assumption)) (⟨by have := DSz_b hds; omega, by omega⟩) hft (Nat.lt_succ_self _) hB _ hl
    · exact (ls_8 hsm (by assumption)).elim
  · refine lv_iconst (v := 1) hx hb dJ13_getChars_11360_9 (by decide) ?_
    refine lv_goto (tgt := 14) hx hb dJ13_getChars_11360_10 (by decide) ?_
    refine lv_istore (lv' := [(8, .int 1), (7, .int (nI p0)), (0, .long x), (2, .int (nI p0)), (3, .ref b_b)]) hx hb dJ13_getChars_11360_14 hl (by decide) rfl (fun ls hl => ?_)
    refine lv_iload hx hb dJ13_getChars_11360_16 (lv_at hl 0 rfl) ?_
    refine lv_if_ne (tgt := 24) hx hb dJ13_getChars_11360_18 (by decide) (fun _ => ?_) (fun c28 => False.elim (by revert c28; decide))
    refine lv_lload_n hx hb dJ13_getChars_11360_24 rfl (lv_at hl 2 rfl) ?_
    refine lv_ldc2 (own := RJ13) (v := (-2147483648)) hx hb hX.1.2.2.2.1 (hX.1.2.2.2.2 _ wm_7_55) dJ13_getChars_11360_25 ?_
    refine W.lcmp hx hb dJ13_getChars_11360_28 ?_
    refine lv_if_gt (tgt := 82) hx hb dJ13_getChars_11360_29 (by decide) (fun c29 => ?_) (fun c29 => ?_)
    · refine lv_lload_n hx hb dJ13_getChars_11360_82 rfl (lv_at hl 2 rfl) ?_
      refine lv_l2i hx hb dJ13_getChars_11360_83 rfl ?_
      refine lv_istore (lv' := [(10, .int ((x).toInt32)), (8, .int 1), (7, .int (nI p0)), (0, .long x), (2, .int (nI p0)), (3, .ref b_b)]) hx hb dJ13_getChars_11360_84 hl (by decide) rfl (fun ls hl => ?_)
      have lp86 : ∀ (nn : Nat) (y10_86 : Int32) (y7_86 : Nat) (bb_86 : Nat → Int32) (kk : Nat) (H : Heap) (locs : List Loc), (GCi y10_86 kk) → (kk + 1 ≤ y7_86 ∧ y7_86 ≤ n_b) → (sb_Fit bb_86) → (y10_86).toInt.natAbs < nn → Bd κ A s ((w.set k_b (bA κ b_b n_b bb_86))) H locs → ∀ ls : Array Slot, lv_has ls 11 [(10, .int y10_86), (8, .int 1), (7, .int (nI y7_86)), (0, .long x), (2, .int (nI p0)), (3, .ref b_b)] → W p l e (Rm 0 0 0 0) s m args below meth c H locs (0) (0) Q (F0 m 86 ls []) := by
        intro nn
        induction nn with
        | zero => intro y10_86 y7_86 bb_86 kk H locs hgc hpp hfb hμ; exact absurd hμ (Nat.not_lt_zero _)
        | succ nn ih86 =>
          intro y10_86 y7_86 bb_86 kk H locs hgc hpp hfb hμ86 hB ls hl
          have hgk := hgc.2.2
          refine lv_iload hx hb dJ13_getChars_11360_86 (lv_at hl 0 rfl) ?_
          refine lv_bipush (v := (-100)) hx hb dJ13_getChars_11360_88 (by decide) ?_
          refine lv_icmp_gt (tgt := 143) hx hb dJ13_getChars_11360_90 (by decide) (fun c46 => ?_) (fun c46 => ?_)
          · refine lv_aload_n hx hb dJ13_getChars_11360_143 rfl (lv_at hl 5 rfl) ?_
            refine lv_iinc (v := nI (y7_86 - 1)) (lv' := [(7, .int (nI (y7_86 - 1))), (10, .int y10_86), (8, .int 1), (0, .long x), (2, .int (nI p0)), (3, .ref b_b)]) hx hb dJ13_getChars_11360_144 hl (k := 2) rfl (nI_dec (a := y7_86) (by omega)) (by decide) rfl (fun ls hl => ?_)
            refine lv_iload hx hb dJ13_getChars_11360_147 (lv_at hl 0 rfl) ?_
            refine gsv hX hB hdo1 wm_7_57 dJ13_getChars_11360_149 ?_
            refine lv_iload hx hb dJ13_getChars_11360_152 (lv_at hl 1 rfl) ?_
            refine lv_ineg hx hb dJ13_getChars_11360_154 ?_
            refine baldS hX hB hdo2 (gc_n hgc (by assumption)) dJ13_getChars_11360_155 ?_
            refine lv_topi (fun u47 eu47 => ?_)
            refine bastN (k0 := k_b) (k := y7_86 - 1) hX hB (wset1 h_b) (by omega) (by omega) (w1 := (w.set k_b (bA κ b_b n_b (upd bb_86 (y7_86 - 1) (vp_nar .byte u47))))) (List.set_set _) dJ13_getChars_11360_156 (fun H locs hB => ?_)
            refine lv_iload hx hb dJ13_getChars_11360_157 (lv_at hl 1 rfl) ?_
            refine lv_bipush (v := (-9)) hx hb dJ13_getChars_11360_159 (by decide) ?_
            refine lv_icmp_ge (tgt := 178) hx hb dJ13_getChars_11360_161 (by decide) (fun c48 => ?_) (fun c48 => ?_)
            · refine lv_iload hx hb dJ13_getChars_11360_178 (lv_at hl 2 rfl) ?_
              refine lv_if_eq (tgt := 192) hx hb dJ13_getChars_11360_180 (by decide) (fun c49 => False.elim (by revert c49; decide)) (fun _ => ?_)
              refine lv_aload_n hx hb dJ13_getChars_11360_183 rfl (lv_at hl 5 rfl) ?_
              refine lv_iinc (v := nI (y7_86 - 1 - 1)) (lv' := [(7, .int (nI (y7_86 - 1 - 1))), (10, .int y10_86), (8, .int 1), (0, .long x), (2, .int (nI p0)), (3, .ref b_b)]) hx hb dJ13_getChars_11360_184 hl (k := 0) rfl (nI_dec (a := y7_86 - 1) (by omega)) (by decide) rfl (fun ls hl => ?_)
              refine lv_iload hx hb dJ13_getChars_11360_187 (lv_at hl 0 rfl) ?_
              refine lv_bipush (v := 45) hx hb dJ13_getChars_11360_189 (by decide) ?_
              refine bastN (k0 := k_b) (k := y7_86 - 1 - 1) hX hB (wset1 h_b) (by omega) (by omega) (w1 := (w.set k_b (bA κ b_b n_b (upd (upd bb_86 (y7_86 - 1) (vp_nar .byte u47)) (y7_86 - 1 - 1) (vp_nar .byte 45))))) (List.set_set _) dJ13_getChars_11360_191 (fun H locs hB => ?_)
              refine lv_iload hx hb dJ13_getChars_11360_192 (lv_at hl 0 rfl) ?_
              rw [← hQ]
              exact end_i hX hB hA3 rfl rfl ⟨(y7_86 - 1 - 1), (upd (upd bb_86 (y7_86 - 1) (vp_nar .byte u47)) (y7_86 - 1 - 1) (vp_nar .byte 45)), rfl, (sb_fitU (sb_fitU hfb (pk_fb _)) (pk_fb _)), rfl⟩ (Nat.le_of_ble_eq_true rfl) (Nat.le_of_ble_eq_true rfl) dJ13_getChars_11360_194
            · have hk2 := gc_k2 hgc c48
              refine lv_aload_n hx hb dJ13_getChars_11360_164 rfl (lv_at hl 5 rfl) ?_
              refine lv_iinc (v := nI (y7_86 - 1 - 1)) (lv' := [(7, .int (nI (y7_86 - 1 - 1))), (10, .int y10_86), (8, .int 1), (0, .long x), (2, .int (nI p0)), (3, .ref b_b)]) hx hb dJ13_getChars_11360_165 hl (k := 0) rfl (nI_dec (a := y7_86 - 1) (by omega)) (by decide) rfl (fun ls hl => ?_)
              refine lv_iload hx hb dJ13_getChars_11360_168 (lv_at hl 0 rfl) ?_
              refine gsv hX hB hdt1 wm_7_58 dJ13_getChars_11360_170 ?_
              refine lv_iload hx hb dJ13_getChars_11360_173 (lv_at hl 1 rfl) ?_
              refine lv_ineg hx hb dJ13_getChars_11360_175 ?_
              refine baldS hX hB hdt2 (gc_n hgc (by assumption)) dJ13_getChars_11360_176 ?_
              refine lv_topi (fun u50 eu50 => ?_)
              refine bastN (k0 := k_b) (k := y7_86 - 1 - 1) hX hB (wset1 h_b) (by omega) (by omega) (w1 := (w.set k_b (bA κ b_b n_b (upd (upd bb_86 (y7_86 - 1) (vp_nar .byte u47)) (y7_86 - 1 - 1) (vp_nar .byte u50))))) (List.set_set _) dJ13_getChars_11360_177 (fun H locs hB => ?_)
              refine lv_iload hx hb dJ13_getChars_11360_178 (lv_at hl 2 rfl) ?_
              refine lv_if_eq (tgt := 192) hx hb dJ13_getChars_11360_180 (by decide) (fun c51 => False.elim (by revert c51; decide)) (fun _ => ?_)
              refine lv_aload_n hx hb dJ13_getChars_11360_183 rfl (lv_at hl 5 rfl) ?_
              refine lv_iinc (v := nI (y7_86 - 1 - 1 - 1)) (lv' := [(7, .int (nI (y7_86 - 1 - 1 - 1))), (10, .int y10_86), (8, .int 1), (0, .long x), (2, .int (nI p0)), (3, .ref b_b)]) hx hb dJ13_getChars_11360_184 hl (k := 0) rfl (nI_dec (a := y7_86 - 1 - 1) (by omega)) (by decide) rfl (fun ls hl => ?_)
              refine lv_iload hx hb dJ13_getChars_11360_187 (lv_at hl 0 rfl) ?_
              refine lv_bipush (v := 45) hx hb dJ13_getChars_11360_189 (by decide) ?_
              refine bastN (k0 := k_b) (k := y7_86 - 1 - 1 - 1) hX hB (wset1 h_b) (by omega) (by omega) (w1 := (w.set k_b (bA κ b_b n_b (upd (upd (upd bb_86 (y7_86 - 1) (vp_nar .byte u47)) (y7_86 - 1 - 1) (vp_nar .byte u50)) (y7_86 - 1 - 1 - 1) (vp_nar .byte 45))))) (List.set_set _) dJ13_getChars_11360_191 (fun H locs hB => ?_)
              refine lv_iload hx hb dJ13_getChars_11360_192 (lv_at hl 0 rfl) ?_
              rw [← hQ]
              exact end_i hX hB hA3 rfl rfl ⟨(y7_86 - 1 - 1 - 1), (upd (upd (upd bb_86 (y7_86 - 1) (vp_nar .byte u47)) (y7_86 - 1 - 1) (vp_nar .byte u50)) (y7_86 - 1 - 1 - 1) (vp_nar .byte 45)), rfl, (sb_fitU (sb_fitU (sb_fitU hfb (pk_fb _)) (pk_fb _)) (pk_fb _)), rfl⟩ (Nat.le_of_ble_eq_true rfl) (Nat.le_of_ble_eq_true rfl) dJ13_getChars_11360_194
          · have hk3 := gc_k3 hgc c46
            refine lv_iload hx hb dJ13_getChars_11360_93 (lv_at hl 0 rfl) ?_
            refine lv_bipush (v := 100) hx hb dJ13_getChars_11360_95 (by decide) ?_
            refine lv_idiv hx hb dJ13_getChars_11360_97 (by decide) ?_
            refine lv_istore (lv' := [(9, .int (y10_86 / 100)), (10, .int y10_86), (8, .int 1), (7, .int (nI y7_86)), (0, .long x), (2, .int (nI p0)), (3, .ref b_b)]) hx hb dJ13_getChars_11360_98 hl (by decide) rfl (fun ls hl => ?_)
            refine lv_iload hx hb dJ13_getChars_11360_100 (lv_at hl 0 rfl) ?_
            refine lv_bipush (v := 100) hx hb dJ13_getChars_11360_102 (by decide) ?_
            refine lv_imul hx hb dJ13_getChars_11360_104 ?_
            refine lv_iload hx hb dJ13_getChars_11360_105 (lv_at hl 1 rfl) ?_
            refine lv_isub hx hb dJ13_getChars_11360_107 ?_
            refine lv_istore (lv' := [(6, .int (((y10_86 / 100) * 100) - y10_86)), (9, .int (y10_86 / 100)), (10, .int y10_86), (8, .int 1), (7, .int (nI y7_86)), (0, .long x), (2, .int (nI p0)), (3, .ref b_b)]) hx hb dJ13_getChars_11360_108 hl (by decide) rfl (fun ls hl => ?_)
            refine lv_iload hx hb dJ13_getChars_11360_110 (lv_at hl 1 rfl) ?_
            refine lv_istore (lv' := [(10, .int (y10_86 / 100)), (6, .int (((y10_86 / 100) * 100) - y10_86)), (9, .int (y10_86 / 100)), (8, .int 1), (7, .int (nI y7_86)), (0, .long x), (2, .int (nI p0)), (3, .ref b_b)]) hx hb dJ13_getChars_11360_112 hl (by decide) rfl (fun ls hl => ?_)
            refine lv_aload_n hx hb dJ13_getChars_11360_114 rfl (lv_at hl 7 rfl) ?_
            refine lv_iinc (v := nI (y7_86 - 1)) (lv' := [(7, .int (nI (y7_86 - 1))), (10, .int (y10_86 / 100)), (6, .int (((y10_86 / 100) * 100) - y10_86)), (9, .int (y10_86 / 100)), (8, .int 1), (0, .long x), (2, .int (nI p0)), (3, .ref b_b)]) hx hb dJ13_getChars_11360_115 hl (k := 4) rfl (nI_dec (a := y7_86) (by omega)) (by decide) rfl (fun ls hl => ?_)
            refine lv_iload hx hb dJ13_getChars_11360_118 (lv_at hl 0 rfl) ?_
            refine gsv hX hB hdo1 wm_7_57 dJ13_getChars_11360_120 ?_
            refine lv_iload hx hb dJ13_getChars_11360_123 (lv_at hl 2 rfl) ?_
            refine baldS hX hB hdo2 (gc_r hgc) dJ13_getChars_11360_125 ?_
            refine lv_topi (fun u52 eu52 => ?_)
            refine bastN (k0 := k_b) (k := y7_86 - 1) hX hB (wset1 h_b) (by omega) (by omega) (w1 := (w.set k_b (bA κ b_b n_b (upd bb_86 (y7_86 - 1) (vp_nar .byte u52))))) (List.set_set _) dJ13_getChars_11360_126 (fun H locs hB => ?_)
            refine lv_aload_n hx hb dJ13_getChars_11360_127 rfl (lv_at hl 7 rfl) ?_
            refine lv_iinc (v := nI (y7_86 - 1 - 1)) (lv' := [(7, .int (nI (y7_86 - 1 - 1))), (10, .int (y10_86 / 100)), (6, .int (((y10_86 / 100) * 100) - y10_86)), (9, .int (y10_86 / 100)), (8, .int 1), (0, .long x), (2, .int (nI p0)), (3, .ref b_b)]) hx hb dJ13_getChars_11360_128 hl (k := 0) rfl (nI_dec (a := y7_86 - 1) (by omega)) (by decide) rfl (fun ls hl => ?_)
            refine lv_iload hx hb dJ13_getChars_11360_131 (lv_at hl 0 rfl) ?_
            refine gsv hX hB hdt1 wm_7_58 dJ13_getChars_11360_133 ?_
            refine lv_iload hx hb dJ13_getChars_11360_136 (lv_at hl 2 rfl) ?_
            refine baldS hX hB hdt2 (gc_r hgc) dJ13_getChars_11360_138 ?_
            refine lv_topi (fun u53 eu53 => ?_)
            refine bastN (k0 := k_b) (k := y7_86 - 1 - 1) hX hB (wset1 h_b) (by omega) (by omega) (w1 := (w.set k_b (bA κ b_b n_b (upd (upd bb_86 (y7_86 - 1) (vp_nar .byte u52)) (y7_86 - 1 - 1) (vp_nar .byte u53))))) (List.set_set _) dJ13_getChars_11360_139 (fun H locs hB => ?_)
            refine lv_goto (tgt := 86) hx hb dJ13_getChars_11360_140 (by decide) ?_
            exact ih86 (y10_86 / 100) (y7_86 - 1 - 1) (upd (upd bb_86 (y7_86 - 1) (vp_nar .byte u52)) (y7_86 - 1 - 1) (vp_nar .byte u53)) (kk - 2) _ _ ((gc_s hgc c46).1) (⟨by omega, by omega⟩) (sb_fitU (sb_fitU hfb (pk_fb _)) (pk_fb _)) (by have := (gc_s hgc c46).2; omega) hB _ (lv_sub hl [1, 4, 0, 5, 6, 7] rfl)
      exact lp86 _ ((x).toInt32) p0 f_b (sz - 1) _ _ (lgc_0 hsm hds (by assumption)) (⟨by have := DSz_b hds; omega, by omega⟩) hft (Nat.lt_succ_self _) hB _ hl
    · exact (ls_7 hsm (by assumption)).elim
set_option maxHeartbeats 4000000 in
set_option maxRecDepth 100000 in
theorem k_J5_append_66267 (κ : Kt) (l : Launch) (w : va_W) (s_0 b_s n_s c_s : Nat) (ml : Int32) (f_s : Nat → Int32) (x : Int64) (hcn : c_s ≤ n_s) (hnb : n_s ≤ 1000) (hft : sb_Fit f_s) (hc3 : c_s ≤ 300) (hn2 : n_s ≤ 2 * c_s + 16) (hsm : sm x) : CM κ l yJ5_append_66267 cJ5_append_66267 5 (some (.object "java/lang/AbstractStringBuilder")) 4 104 1 820 [.ref s_0, .long x] (bA κ b_s n_s f_s :: (s_0, .inr (1, [.ref b_s, .int 0, .int ml, .int (nI c_s)])) :: w) (fun o w' => ∃ (q1 : Nat) (n1 : Nat) (F : Nat → Int32) (c1 : Nat), o = some (.ref s_0) ∧ (c_s + 1 ≤ n1 ∧ n1 ≤ 1000 ∧ n1 ≤ 2 * c1 + 16 ∧ c_s + 1 ≤ c1 ∧ c1 ≤ c_s + 11 ∧ c1 ≤ n1) ∧ (sb_Fit F) ∧ w' = bA κ q1 n1 F :: (s_0, .inr (1, [.ref q1, .int 0, .int ml, .int (nI c1)])) :: w) := by
  refine CM_begin (plainFor_of_name (by decide)) (Nat.le_of_ble_eq_true rfl) ?_
  intro p e s m args below meth c A Q hX hnm hA3 hQ hB ls hl
  have hx := hX.1.1
  have hb := hX.1.2.1
  have hl : lv_has ls 5 [(0, .ref s_0), (1, .long x)] := hl
  refine lv_aload_n hx hb dJ5_append_66267_0 rfl (lv_at hl 0 rfl) ?_
  refine gfU (k0 := 1) hX hB rfl rfl inJ4 3 (by decide) wm_4_11 rfl rfl dJ5_append_66267_1 ?_
  refine lv_istore_n (lv' := [(3, .int (nI c_s)), (0, .ref s_0), (1, .long x)]) hx hb dJ5_append_66267_4 rfl hl (by decide) rfl (fun ls hl => ?_)
  refine lv_iload_n hx hb dJ5_append_66267_5 rfl (lv_at hl 0 rfl) ?_
  refine lv_lload_n hx hb dJ5_append_66267_6 rfl (lv_at hl 2 rfl) ?_
  refine call_S (n := 1) (As := [.long x]) (rest := [.int (nI c_s)]) hX hB (k_J13_stringSize_95d88 κ l (bA κ b_s n_s f_s :: (s_0, .inr (1, [.ref b_s, .int 0, .int ml, .int (nI c_s)])) :: w) x hsm) ⟨by decide, by decide, by decide +kernel⟩ wm_7_47 wm_7_48 wm_1_27 wm_7_49 ⟨Nat.le_of_ble_eq_true rfl, Nat.le_of_ble_eq_true rfl⟩ ⟨Nat.le_of_ble_eq_true rfl, Nat.le_of_ble_eq_true rfl⟩ rfl hl.1 rfl (Nat.le_of_ble_eq_true rfl) dJ5_append_66267_7 (fun o w' H locs hp hB => ?_)
  obtain ⟨z1, rfl, hf2, hw9⟩ := hp
  replace hB : Bd κ A s (bA κ b_s n_s f_s :: (s_0, .inr (1, [.ref b_s, .int 0, .int ml, .int (nI c_s)])) :: w) H locs := by rw [hw9] at hB; exact hB
  refine W.eq (g2 := F0 m 10 ls [.int (nI z1), .int (nI c_s)]) rfl ?_
  have hszb := DSz_b hf2
  refine lv_iadd hx hb dJ5_append_66267_10 ?_
  refine eqi (y := nI (c_s + z1)) (nI_add c_s z1) ?_
  refine lv_istore (lv' := [(4, .int (nI (c_s + z1))), (3, .int (nI c_s)), (0, .ref s_0), (1, .long x)]) hx hb dJ5_append_66267_11 hl (by decide) rfl (fun ls hl => ?_)
  refine lv_aload_n hx hb dJ5_append_66267_13 rfl (lv_at hl 2 rfl) ?_
  refine lv_iload hx hb dJ5_append_66267_14 (lv_at hl 0 rfl) ?_
  refine call_U (n := 1) (k0 := 1) (As := [.int (nI (c_s + z1))]) (rest := []) hX hB (k_J5_ensureCapacityInternal_d00df κ l (w) s_0 b_s n_s c_s ml f_s (nI (c_s + z1)) (c_s + z1) (by omega) (by omega) hft rfl (by omega)) ⟨by decide, by decide, by decide +kernel⟩ wm_4_28 wm_7_186 wm_4_30 (Or.inr wn_4_29) wm_1_17 wm_4_31 ⟨Nat.le_of_ble_eq_true rfl, Nat.le_of_ble_eq_true rfl⟩ ⟨Nat.le_of_ble_eq_true rfl, Nat.le_of_ble_eq_true rfl⟩ rfl rfl rfl rfl hl.1 rfl (Nat.le_of_ble_eq_true rfl) dJ5_append_66267_16 (fun o w' H locs hp hB => ?_)
  obtain ⟨q3, n4, F5, rfl, hf6, hf7, hw9⟩ := hp
  replace hB : Bd κ A s (bA κ q3 n4 F5 :: (s_0, .inr (1, [.ref q3, .int 0, .int ml, .int (nI c_s)])) :: w) H locs := by rw [hw9] at hB; exact hB
  refine W.eq (g2 := F0 m 19 ls []) rfl ?_
  refine lv_aload_n hx hb dJ5_append_66267_19 rfl (lv_at hl 2 rfl) ?_
  refine call_U (n := 0) (k0 := 1) (As := []) (rest := []) hX hB (k_J5_isLatin1_aae02 κ l (bA κ q3 n4 F5 :: (s_0, .inr (1, [.ref q3, .int 0, .int ml, .int (nI c_s)])) :: w) 1 s_0 q3 c_s ml rfl) ⟨by decide, by decide, by decide +kernel⟩ wm_4_59 wm_4_61 wm_4_60 (Or.inl wm_4_62) wm_1_17 wm_4_63 ⟨Nat.le_of_ble_eq_true rfl, Nat.le_of_ble_eq_true rfl⟩ ⟨Nat.le_of_ble_eq_true rfl, Nat.le_of_ble_eq_true rfl⟩ rfl rfl rfl rfl hl.1 rfl (Nat.le_of_ble_eq_true rfl) dJ5_append_66267_20 (fun o w' H locs hp hB => ?_)
  obtain ⟨rfl, hw9⟩ := hp
  replace hB : Bd κ A s (bA κ q3 n4 F5 :: (s_0, .inr (1, [.ref q3, .int 0, .int ml, .int (nI c_s)])) :: w) H locs := by rw [hw9] at hB; exact hB
  refine W.eq (g2 := F0 m 23 ls [.int 1]) rfl ?_
  refine lv_if_eq (tgt := 40) hx hb dJ5_append_66267_23 (by decide) (fun c8 => False.elim (by revert c8; decide)) (fun _ => ?_)
  refine lv_lload_n hx hb dJ5_append_66267_26 rfl (lv_at hl 3 rfl) ?_
  refine lv_iload hx hb dJ5_append_66267_27 (lv_at hl 0 rfl) ?_
  refine lv_aload_n hx hb dJ5_append_66267_29 rfl (lv_at hl 2 rfl) ?_
  refine gfU (k0 := 1) hX hB rfl rfl inJ4 0 (by decide) wm_4_8 rfl rfl dJ5_append_66267_30 ?_
  refine call_S (n := 3) (As := [.long x, .int (nI (c_s + z1)), .ref q3]) (rest := []) hX hB (k_J13_getChars_11360 κ l (bA κ q3 n4 F5 :: (s_0, .inr (1, [.ref q3, .int 0, .int ml, .int (nI c_s)])) :: w) x (nI (c_s + z1)) (c_s + z1) 0 q3 n4 F5 rfl rfl (by omega) hf7 hsm ⟨_, hf2, by omega⟩ (by omega)) ⟨by decide, by decide, by decide +kernel⟩ wm_7_52 wm_7_53 wm_1_27 wm_7_54 ⟨Nat.le_of_ble_eq_true rfl, Nat.le_of_ble_eq_true rfl⟩ ⟨Nat.le_of_ble_eq_true rfl, Nat.le_of_ble_eq_true rfl⟩ rfl hl.1 rfl (Nat.le_of_ble_eq_true rfl) dJ5_append_66267_33 (fun o w' H locs hp hB => ?_)
  obtain ⟨z9, F10, rfl, hf11, hw9⟩ := hp
  replace hB : Bd κ A s (bA κ q3 n4 F10 :: (s_0, .inr (1, [.ref q3, .int 0, .int ml, .int (nI c_s)])) :: w) H locs := by rw [hw9] at hB; exact hB
  refine W.eq (g2 := F0 m 36 ls [.int (nI z9)]) rfl ?_
  refine lv_pop hx hb dJ5_append_66267_36 rfl ?_
  refine lv_goto (tgt := 52) hx hb dJ5_append_66267_37 (by decide) ?_
  refine lv_aload_n hx hb dJ5_append_66267_52 rfl (lv_at hl 2 rfl) ?_
  refine lv_iload hx hb dJ5_append_66267_53 (lv_at hl 0 rfl) ?_
  refine pfU (ty := .int) (k0 := 1) hX hB rfl rfl inJ4 tyJ4_ok nmJ4 3 (by decide) wm_4_11 rfl rfl rfl rfl rfl (Nat.le_of_ble_eq_true rfl) (w1 := bA κ q3 n4 F10 :: (s_0, .inr (1, [.ref q3, .int 0, .int ml, .int (nI (c_s + z1))])) :: w) rfl dJ5_append_66267_55 (fun H locs hB => ?_)
  refine lv_aload_n hx hb dJ5_append_66267_58 rfl (lv_at hl 2 rfl) ?_
  rw [← hQ]
  exact end_a hX hB hA3 rfl (Or.inr ⟨_, rfl⟩) ⟨q3, n4, F10, (c_s + z1), rfl, (by omega), hf11, rfl⟩ (Nat.le_of_ble_eq_true rfl) (Nat.le_of_ble_eq_true rfl) dJ5_append_66267_59
set_option maxHeartbeats 4000000 in
set_option maxRecDepth 100000 in
theorem k_J4_append_f7089 (κ : Kt) (l : Launch) (w : va_W) (s_0 b_s n_s c_s : Nat) (ml : Int32) (f_s : Nat → Int32) (x : Int64) (hcn : c_s ≤ n_s) (hnb : n_s ≤ 1000) (hft : sb_Fit f_s) (hc3 : c_s ≤ 300) (hn2 : n_s ≤ 2 * c_s + 16) (hsm : sm x) : CM κ l yJ4_append_f7089 cJ4_append_f7089 3 (some (.object "java/lang/StringBuilder")) 5 128 1 820 [.ref s_0, .long x] (bA κ b_s n_s f_s :: (s_0, .inr (1, [.ref b_s, .int 0, .int ml, .int (nI c_s)])) :: w) (fun o w' => ∃ (q1 : Nat) (n1 : Nat) (F : Nat → Int32) (c1 : Nat), o = some (.ref s_0) ∧ (c_s + 1 ≤ n1 ∧ n1 ≤ 1000 ∧ n1 ≤ 2 * c1 + 16 ∧ c_s + 1 ≤ c1 ∧ c1 ≤ c_s + 11 ∧ c1 ≤ n1) ∧ (sb_Fit F) ∧ w' = bA κ q1 n1 F :: (s_0, .inr (1, [.ref q1, .int 0, .int ml, .int (nI c1)])) :: w) := by
  refine CM_begin (plainFor_of_name (by decide)) (Nat.le_of_ble_eq_true rfl) ?_
  intro p e s m args below meth c A Q hX hnm hA3 hQ hB ls hl
  have hx := hX.1.1
  have hb := hX.1.2.1
  have hl : lv_has ls 3 [(0, .ref s_0), (1, .long x)] := hl
  refine lv_aload_n hx hb dJ4_append_f7089_0 rfl (lv_at hl 0 rfl) ?_
  refine lv_lload_n hx hb dJ4_append_f7089_1 rfl (lv_at hl 1 rfl) ?_
  refine call_SU (n := 1) (k0 := 1) (As := [.long x]) (rest := []) hX hB (k_J5_append_66267 κ l (w) s_0 b_s n_s c_s ml f_s x (by omega) (by omega) hft (by omega) (by omega) hsm) ⟨by decide, by decide +kernel⟩ wm_7_44 wm_7_194 wm_4_20 wm_7_45 wm_1_17 wm_7_46 ⟨Nat.le_of_ble_eq_true rfl, Nat.le_of_ble_eq_true rfl⟩ ⟨Nat.le_of_ble_eq_true rfl, Nat.le_of_ble_eq_true rfl⟩ rfl rfl rfl rfl hl.1 rfl (Nat.le_of_ble_eq_true rfl) dJ4_append_f7089_2 (fun o w' H locs hp hB => ?_)
  obtain ⟨q1, n2, F3, c4, rfl, hf5, hf6, hw9⟩ := hp
  replace hB : Bd κ A s (bA κ q1 n2 F3 :: (s_0, .inr (1, [.ref q1, .int 0, .int ml, .int (nI c4)])) :: w) H locs := by rw [hw9] at hB; exact hB
  refine W.eq (g2 := F0 m 5 ls [.ref s_0]) rfl ?_
  refine lv_pop hx hb dJ4_append_f7089_5 rfl ?_
  refine lv_aload_n hx hb dJ4_append_f7089_6 rfl (lv_at hl 0 rfl) ?_
  rw [← hQ]
  exact end_a hX hB hA3 rfl (Or.inr ⟨_, rfl⟩) ⟨q1, n2, F3, c4, rfl, (by omega), hf6, rfl⟩ (Nat.le_of_ble_eq_true rfl) (Nat.le_of_ble_eq_true rfl) dJ4_append_f7089_7
