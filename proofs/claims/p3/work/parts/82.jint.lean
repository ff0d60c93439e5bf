/-- how many characters an int takes -/
def DSz (x : Int32) (s : Nat) : Prop := (x < 0 → 2 ≤ s ∧ s ≤ 11 ∧ x.toInt.natAbs < 10 ^ (s - 1)) ∧ (¬ x < 0 → 1 ≤ s ∧ s ≤ 10 ∧ x.toInt.natAbs < 10 ^ s)
theorem z32 : (0 : Int32).toInt = 0 := rfl
theorem pw_le {i : Nat} (h : i ≤ 9) : (10 : Nat) ^ i ≤ 1000000000 := Nat.pow_le_pow_right (by decide) h
theorem ds_p {i : Nat} {p : Int32} (h1 : 1 ≤ i) (h : i ≤ 9 → p.toInt = -((10 ^ i : Nat) : Int)) : i + 1 ≤ 9 → (10 * p).toInt = -((10 ^ (i + 1) : Nat) : Int) := by
  intro hi
  have e := h (by omega)
  have hb := pw_le (i := i + 1) hi
  rw [Nat.pow_succ] at hb ⊢
  rw [Int32.toInt_mul, e, show (10 : Int32).toInt = 10 from rfl, Int.bmod_eq_of_le (by omega) (by omega)]
  omega
theorem ds_1 {x p : Int32} {i : Nat} (hx : x < 0) (hi1 : 1 ≤ i) (hi : i < 10) (h : i ≤ 9 → p.toInt = -((10 ^ i : Nat) : Int)) (c : ¬ x ≤ p) : DSz x (i + 1) := by
  have e := h (by omega)
  rw [i32_le] at c
  have hx' := hx
  rw [i32_lt, z32] at hx'
  refine ⟨fun _ => ⟨by omega, by omega, ?_⟩, fun z => absurd hx z⟩
  rw [show i + 1 - 1 = i by omega]
  omega
theorem neg32 {x : Int32} (hx : ¬ x < 0) : (-x).toInt = -x.toInt := by
  rw [i32_lt, z32] at hx
  have h1 := Int32.toInt_lt x
  rw [Int32.toInt_neg]
  exact Int.bmod_eq_of_le (by omega) (by omega)
theorem ds_2 {x p : Int32} {i : Nat} (hx : ¬ x < 0) (hi1 : 1 ≤ i) (hi : i < 10) (h : i ≤ 9 → p.toInt = -((10 ^ i : Nat) : Int)) (c : ¬ -x ≤ p) : DSz x (i + 0) := by
  have e := h (by omega)
  rw [i32_le, neg32 hx] at c
  have hx' := hx
  rw [i32_lt, z32] at hx'
  refine ⟨fun z => absurd z hx, fun _ => ⟨by omega, by omega, ?_⟩⟩
  rw [Nat.add_zero]
  omega
theorem ds_3 {x : Int32} (hx : x < 0) : DSz x 11 := by
  have h1 := Int32.le_toInt x
  have h2 := Int32.toInt_lt x
  have h3 : (2 : Nat) ^ 31 < 10 ^ (11 - 1) := by decide
  exact ⟨fun _ => ⟨by omega, by omega, by omega⟩, fun z => absurd hx z⟩
theorem ds_4 {x : Int32} (hx : ¬ x < 0) : DSz x 10 := by
  have h1 := Int32.le_toInt x
  have h2 := Int32.toInt_lt x
  have h3 : (2 : Nat) ^ 31 < 10 ^ 10 := by decide
  exact ⟨fun z => absurd z hx, fun _ => ⟨by omega, by omega, by omega⟩⟩
/-- what is left to write: y not above 0, k places for it, d more -/
def GCi (y : Int32) (k : Nat) : Prop := y.toInt ≤ 0 ∧ y.toInt.natAbs < 10 ^ k ∧ 1 ≤ k
theorem gc_0 {x : Int32} {s : Nat} (h : DSz x s) (hx : x < 0) : GCi x (s - 1) := by
  have h2 := h.1 hx
  rw [i32_lt, z32] at hx
  exact ⟨by omega, h2.2.2, by omega⟩
theorem gc_1 {x : Int32} {s : Nat} (h : DSz x s) (hx : ¬ x < 0) : GCi (-x) s := by
  have h2 := h.2 hx
  have e := neg32 hx
  have hx' := hx
  rw [i32_lt, z32] at hx'
  refine ⟨by omega, by rw [e]; omega, by omega⟩
theorem gc_k3 {y : Int32} {k : Nat} (h : GCi y k) (c : ¬ -100 < y) : 3 ≤ k ∧ y.toInt ≤ -100 := by
  rw [i32_lt, show (-100 : Int32).toInt = -100 from rfl] at c
  refine ⟨Nat.not_lt.mp fun z => ?_, by omega⟩
  have h1 : (10 : Nat) ^ k ≤ 10 ^ 2 := Nat.pow_le_pow_right (by decide) (by omega)
  have := h.2.1
  omega
theorem gc_div {y : Int32} {k : Nat} (h : GCi y k) : (y / 100).toInt = -((y.toInt.natAbs / 100 : Nat) : Int) := by
  have h1 := Int32.le_toInt y
  have h2 := Int32.toInt_lt y
  have h0 := h.1
  rw [Int32.toInt_div, show (100 : Int32).toInt = 100 from rfl]
  have e : y.toInt.tdiv 100 = -((y.toInt.natAbs / 100 : Nat) : Int) := by
    have e1 : y.toInt = -(y.toInt.natAbs : Int) := by omega
    rw [e1, Int.neg_tdiv, Int.natAbs_neg, Int.natAbs_natCast]
    congr 1
  rw [e]
  exact Int.bmod_eq_of_le (by omega) (by omega)
theorem gc_r {y : Int32} {k : Nat} (h : GCi y k) : vp_in (y / 100 * 100 - y) 100 := by
  have h0 := h.1
  have h1 := Int32.le_toInt y
  have e := gc_div h
  rw [vp_in_iff, Int32.toInt_sub, Int32.toInt_mul, e, show (100 : Int32).toInt = 100 from rfl]
  rw [Int.bmod_eq_of_le (n := -((y.toInt.natAbs / 100 : Nat) : Int) * 100) (by omega) (by omega)]
  rw [Int.bmod_eq_of_le (by omega) (by omega)]
  omega
theorem gc_s {y : Int32} {k : Nat} (h : GCi y k) (c : ¬ -100 < y) : GCi (y / 100) (k - 2) ∧ (y / 100).toInt.natAbs < y.toInt.natAbs := by
  have h3 := gc_k3 h c
  have e := gc_div h
  have h2 := h.2.1
  obtain ⟨j, rfl⟩ : ∃ j, k = j + 2 := ⟨k - 2, by omega⟩
  have hp : (10 : Nat) ^ (j + 2) = 10 ^ j * 100 := by rw [Nat.pow_add]
  rw [hp] at h2
  rw [show j + 2 - 2 = j by omega]
  refine ⟨⟨by omega, ?_, by omega⟩, by omega⟩
  rw [e, Int.natAbs_neg, Int.natAbs_natCast]
  exact (Nat.div_lt_iff_lt_mul (by decide)).mpr h2
theorem gc_n {y : Int32} {k : Nat} (h : GCi y k) (c : -100 < y) : vp_in (-y) 100 := by
  rw [i32_lt, show (-100 : Int32).toInt = -100 from rfl] at c
  have h0 := h.1
  rw [vp_in_iff, Int32.toInt_neg, Int.bmod_eq_of_le (by omega) (by omega)]
  omega
theorem gc_k2 {y : Int32} {k : Nat} (h : GCi y k) (c : ¬ -9 ≤ y) : 2 ≤ k := by
  rw [i32_le, show (-9 : Int32).toInt = -9 from rfl] at c
  refine Nat.not_lt.mp fun z => ?_
  have h1 : (10 : Nat) ^ k ≤ 10 ^ 1 := Nat.pow_le_pow_right (by decide) (by omega)
  have := h.2.1
  omega
theorem DSz_b {x : Int32} {s : Nat} (h : DSz x s) : 1 ≤ s ∧ s ≤ 11 := by
  by_cases c : x < 0
  · have := h.1 c; omega
  · have := h.2 c; omega

set_option maxHeartbeats 4000000 in
set_option maxRecDepth 100000 in
theorem k_J6_stringSize_0f7a4 (κ : Kt) (l : Launch) (w : va_W) (x : Int32)  : CM κ l yJ6_stringSize_0f7a4 cJ6_stringSize_0f7a4 4 (some .int) 0 0 0 0 [.int x] (w) (fun o w' => ∃ (z : Nat), o = some (.int (nI z)) ∧ (DSz x z) ∧ w' = w) := by
  refine CM_begin (plainFor_of_name (by decide)) (Nat.le_of_ble_eq_true rfl) ?_
  intro p e s m args below meth c A Q hX hnm hA3 hQ hB ls hl
  have hx := hX.1.1
  have hb := hX.1.2.1
  have hl : lv_has ls 4 [(0, .int x)] := hl
  refine lv_iconst (v := 1) hx hb dJ6_stringSize_0f7a4_0 (by decide) ?_
  refine lv_istore_n (lv' := [(1, .int 1), (0, .int x)]) hx hb dJ6_stringSize_0f7a4_1 rfl hl (by decide) rfl (fun ls hl => ?_)
  refine lv_iload_n hx hb dJ6_stringSize_0f7a4_2 rfl (lv_at hl 1 rfl) ?_
  refine lv_if_lt (tgt := 11) hx hb dJ6_stringSize_0f7a4_3 (by decide) (fun c1 => ?_) (fun c1 => ?_)
  · refine lv_bipush (v := (-10)) hx hb dJ6_stringSize_0f7a4_11 (by decide) ?_
    refine lv_istore_n (lv' := [(2, .int (-10)), (1, .int 1), (0, .int x)]) hx hb dJ6_stringSize_0f7a4_13 rfl hl (by decide) rfl (fun ls hl => ?_)
    refine lv_iconst (v := 1) hx hb dJ6_stringSize_0f7a4_14 (by decide) ?_
    refine lv_istore_n (lv' := [(3, .int 1), (2, .int (-10)), (1, .int 1), (0, .int x)]) hx hb dJ6_stringSize_0f7a4_15 rfl hl (by decide) rfl (fun ls hl => ?_)
    have lp16 : ∀ (nn : Nat) (y3_16 : Nat) (y2_16 : Int32) (H : Heap) (locs : List Loc), (y3_16 ≤ 10) → (1 ≤ y3_16) → (y3_16 ≤ 9 → (y2_16).toInt = -((10 ^ y3_16 : Nat) : Int)) → 10 + 1 - y3_16 < nn → Bd κ A s (w) H locs → ∀ ls : Array Slot, lv_has ls 4 [(3, .int (nI y3_16)), (2, .int y2_16), (1, .int 1), (0, .int x)] → W p l e (Rm 0 0 0 0) s m args below meth c H locs (0) (0) Q (F0 m 16 ls []) := by
      intro nn
      induction nn with
      | zero => intro y3_16 y2_16 H locs hn3_16 hi1 hp hμ; exact absurd hμ (Nat.not_lt_zero _)
      | succ nn ih16 =>
        intro y3_16 y2_16 H locs hn3_16 hi1 hp hμ16 hB ls hl
        refine lv_iload_n hx hb dJ6_stringSize_0f7a4_16 rfl (lv_at hl 0 rfl) ?_
        refine lv_bipush (v := 10) hx hb dJ6_stringSize_0f7a4_17 (by decide) ?_
        refine lv_icmp_ge (tgt := 42) hx hb dJ6_stringSize_0f7a4_19 (by decide) (fun c6 => ?_) (fun c6 => ?_)
        · replace c6 : nI 10 ≤ nI y3_16 := c6
          rw [nleP (by omega) (by omega)] at c6
          refine lv_bipush (v := 10) hx hb dJ6_stringSize_0f7a4_42 (by decide) ?_
          refine lv_iload_n hx hb dJ6_stringSize_0f7a4_44 rfl (lv_at hl 2 rfl) ?_
          refine lv_iadd hx hb dJ6_stringSize_0f7a4_45 ?_
          refine eqi (y := 11) (by decide) ?_
          rw [← hQ]
          exact end_i hX hB hA3 rfl rfl ⟨11, rfl, (ds_3 (by assumption)), rfl⟩ (Nat.le_of_ble_eq_true rfl) (Nat.le_of_ble_eq_true rfl) dJ6_stringSize_0f7a4_46
        · replace c6 : ¬ nI 10 ≤ nI y3_16 := c6
          rw [nleP (by omega) (by omega)] at c6
          refine lv_iload_n hx hb dJ6_stringSize_0f7a4_22 rfl (lv_at hl 3 rfl) ?_
          refine lv_iload_n hx hb dJ6_stringSize_0f7a4_23 rfl (lv_at hl 1 rfl) ?_
          refine lv_icmp_le (tgt := 31) hx hb dJ6_stringSize_0f7a4_24 (by decide) (fun c7 => ?_) (fun c7 => ?_)
          · refine lv_bipush (v := 10) hx hb dJ6_stringSize_0f7a4_31 (by decide) ?_
            refine lv_iload_n hx hb dJ6_stringSize_0f7a4_33 rfl (lv_at hl 1 rfl) ?_
            refine lv_imul hx hb dJ6_stringSize_0f7a4_34 ?_
            refine lv_istore_n (lv' := [(2, .int (10 * y2_16)), (3, .int (nI y3_16)), (1, .int 1), (0, .int x)]) hx hb dJ6_stringSize_0f7a4_35 rfl hl (by decide) rfl (fun ls hl => ?_)
            refine lv_iinc (v := nI (y3_16 + 1)) (lv' := [(3, .int (nI (y3_16 + 1))), (2, .int (10 * y2_16)), (1, .int 1), (0, .int x)]) hx hb dJ6_stringSize_0f7a4_36 hl (k := 1) rfl (nI_add y3_16 1) (by decide) rfl (fun ls hl => ?_)
            refine lv_goto (tgt := 16) hx hb dJ6_stringSize_0f7a4_39 (by decide) ?_
            exact ih16 (y3_16 + 1) (10 * y2_16) _ _ (by omega) (by omega) (ds_p hi1 hp) (by omega) hB _ hl
          · refine lv_iload_n hx hb dJ6_stringSize_0f7a4_27 rfl (lv_at hl 0 rfl) ?_
            refine lv_iload_n hx hb dJ6_stringSize_0f7a4_28 rfl (lv_at hl 2 rfl) ?_
            refine lv_iadd hx hb dJ6_stringSize_0f7a4_29 ?_
            refine eqi (y := nI (y3_16 + 1)) (nI_add y3_16 1) ?_
            rw [← hQ]
            exact end_i hX hB hA3 rfl rfl ⟨(y3_16 + 1), rfl, (by first | exact ds_1 (by assumption) hi1 (by omega) hp (by assumption) | exact ds_2 (by assumption) hi1 (by omega) hp (by assumption)), rfl⟩ (Nat.le_of_ble_eq_true rfl) (Nat.le_of_ble_eq_true rfl) dJ6_stringSize_0f7a4_30
    exact lp16 _ 1 (-10) _ _ (by omega) (by omega) (fun _ => rfl) (Nat.lt_succ_self _) hB _ hl
  · refine lv_iconst (v := 0) hx hb dJ6_stringSize_0f7a4_6 (by decide) ?_
    refine lv_istore_n (lv' := [(1, .int 0), (0, .int x)]) hx hb dJ6_stringSize_0f7a4_7 rfl hl (by decide) rfl (fun ls hl => ?_)
    refine lv_iload_n hx hb dJ6_stringSize_0f7a4_8 rfl (lv_at hl 1 rfl) ?_
    refine lv_ineg hx hb dJ6_stringSize_0f7a4_9 ?_
    refine lv_istore_n (lv' := [(0, .int (-x)), (1, .int 0)]) hx hb dJ6_stringSize_0f7a4_10 rfl hl (by decide) rfl (fun ls hl => ?_)
    refine lv_bipush (v := (-10)) hx hb dJ6_stringSize_0f7a4_11 (by decide) ?_
    refine lv_istore_n (lv' := [(2, .int (-10)), (0, .int (-x)), (1, .int 0)]) hx hb dJ6_stringSize_0f7a4_13 rfl hl (by decide) rfl (fun ls hl => ?_)
    refine lv_iconst (v := 1) hx hb dJ6_stringSize_0f7a4_14 (by decide) ?_
    refine lv_istore_n (lv' := [(3, .int 1), (2, .int (-10)), (0, .int (-x)), (1, .int 0)]) hx hb dJ6_stringSize_0f7a4_15 rfl hl (by decide) rfl (fun ls hl => ?_)
    have lp16 : ∀ (nn : Nat) (y3_16 : Nat) (y2_16 : Int32) (H : Heap) (locs : List Loc), (y3_16 ≤ 10) → (1 ≤ y3_16) → (y3_16 ≤ 9 → (y2_16).toInt = -((10 ^ y3_16 : Nat) : Int)) → 10 + 1 - y3_16 < nn → Bd κ A s (w) H locs → ∀ ls : Array Slot, lv_has ls 4 [(3, .int (nI y3_16)), (2, .int y2_16), (0, .int (-x)), (1, .int 0)] → W p l e (Rm 0 0 0 0) s m args below meth c H locs (0) (0) Q (F0 m 16 ls []) := by
      intro nn
      induction nn with
      | zero => intro y3_16 y2_16 H locs hn3_16 hi1 hp hμ; exact absurd hμ (Nat.not_lt_zero _)
      | succ nn ih16 =>
        intro y3_16 y2_16 H locs hn3_16 hi1 hp hμ16 hB ls hl
        refine lv_iload_n hx hb dJ6_stringSize_0f7a4_16 rfl (lv_at hl 0 rfl) ?_
        refine lv_bipush (v := 10) hx hb dJ6_stringSize_0f7a4_17 (by decide) ?_
        refine lv_icmp_ge (tgt := 42) hx hb dJ6_stringSize_0f7a4_19 (by decide) (fun c12 => ?_) (fun c12 => ?_)
        · replace c12 : nI 10 ≤ nI y3_16 := c12
          rw [nleP (by omega) (by omega)] at c12
          refine lv_bipush (v := 10) hx hb dJ6_stringSize_0f7a4_42 (by decide) ?_
          refine lv_iload_n hx hb dJ6_stringSize_0f7a4_44 rfl (lv_at hl 3 rfl) ?_
          refine lv_iadd hx hb dJ6_stringSize_0f7a4_45 ?_
          refine eqi (y := 10) (by decide) ?_
          rw [← hQ]
          exact end_i hX hB hA3 rfl rfl ⟨10, rfl, (ds_4 (by assumption)), rfl⟩ (Nat.le_of_ble_eq_true rfl) (Nat.le_of_ble_eq_true rfl) dJ6_stringSize_0f7a4_46
        · replace c12 : ¬ nI 10 ≤ nI y3_16 := c12
          rw [nleP (by omega) (by omega)] at c12
          refine lv_iload_n hx hb dJ6_stringSize_0f7a4_22 rfl (lv_at hl 2 rfl) ?_
          refine lv_iload_n hx hb dJ6_stringSize_0f7a4_23 rfl (lv_at hl 1 rfl) ?_
          refine lv_icmp_le (tgt := 31) hx hb dJ6_stringSize_0f7a4_24 (by decide) (fun c13 => ?_) (fun c13 => ?_)
          · refine lv_bipush (v := 10) hx hb dJ6_stringSize_0f7a4_31 (by decide) ?_
            refine lv_iload_n hx hb dJ6_stringSize_0f7a4_33 rfl (lv_at hl 1 rfl) ?_
            refine lv_imul hx hb dJ6_stringSize_0f7a4_34 ?_
            refine lv_istore_n (lv' := [(2, .int (10 * y2_16)), (3, .int (nI y3_16)), (0, .int (-x)), (1, .int 0)]) hx hb dJ6_stringSize_0f7a4_35 rfl hl (by decide) rfl (fun ls hl => ?_)
            refine lv_iinc (v := nI (y3_16 + 1)) (lv' := [(3, .int (nI (y3_16 + 1))), (2, .int (10 * y2_16)), (0, .int (-x)), (1, .int 0)]) hx hb dJ6_stringSize_0f7a4_36 hl (k := 1) rfl (nI_add y3_16 1) (by decide) rfl (fun ls hl => ?_)
            refine lv_goto (tgt := 16) hx hb dJ6_stringSize_0f7a4_39 (by decide) ?_
            exact ih16 (y3_16 + 1) (10 * y2_16) _ _ (by omega) (by omega) (ds_p hi1 hp) (by omega) hB _ hl
          · refine lv_iload_n hx hb dJ6_stringSize_0f7a4_27 rfl (lv_at hl 0 rfl) ?_
            refine lv_iload_n hx hb dJ6_stringSize_0f7a4_28 rfl (lv_at hl 3 rfl) ?_
            refine lv_iadd hx hb dJ6_stringSize_0f7a4_29 ?_
            refine eqi (y := nI (y3_16 + 0)) (nI_add y3_16 0) ?_
            rw [← hQ]
            exact end_i hX hB hA3 rfl rfl ⟨(y3_16 + 0), rfl, (by first | exact ds_1 (by assumption) hi1 (by omega) hp (by assumption) | exact ds_2 (by assumption) hi1 (by omega) hp (by assumption)), rfl⟩ (Nat.le_of_ble_eq_true rfl) (Nat.le_of_ble_eq_true rfl) dJ6_stringSize_0f7a4_30
    exact lp16 _ 1 (-10) _ _ (by omega) (by omega) (fun _ => rfl) (Nat.lt_succ_self _) hB _ hl
set_option maxHeartbeats 4000000 in
set_option maxRecDepth 100000 in
theorem k_J6_getChars_ba4f3 (κ : Kt) (l : Launch) (w : va_W) (x : Int32) (xp0 : Int32) (p0 : Nat) (k_b b_b n_b : Nat) (f_b : Nat → Int32) (hxp0 : xp0 = nI p0) (h_b : w[k_b]? = some (bA κ b_b n_b f_b)) (hnb : n_b ≤ 1000) (hft : sb_Fit f_b) (hsz : ∃ sz, DSz x sz ∧ sz ≤ p0) (hp0 : p0 ≤ n_b) : CM κ l yJ6_getChars_ba4f3 cJ6_getChars_ba4f3 7 (some .int) 0 0 0 0 [.int x, .int xp0, .ref b_b] (w) (fun o w' => ∃ (z : Nat) (F : Nat → Int32), o = some (.int (nI z)) ∧ (sb_Fit F) ∧ w' = w.set k_b (bA κ b_b n_b F)) := by
  subst hxp0
  refine CM_begin (plainFor_of_name (by decide)) (Nat.le_of_ble_eq_true rfl) ?_
  intro p e s m args below meth c A Q hX hnm hA3 hQ hB ls hl
  have hx := hX.1.1
  have hb := hX.1.2.1
  have hl : lv_has ls 7 [(0, .int x), (1, .int (nI p0)), (2, .ref b_b)] := hl
  have hB : Bd κ A s (w.set k_b (bA κ b_b n_b f_b)) s.heap [] := by rw [wset0 h_b]; exact hB
  obtain ⟨sz, hds, hsp⟩ := hsz
  obtain ⟨hdta, fdt, hdt1, hdt2⟩ := hX.2.1.2.2.1.1.2.2.2.1
  obtain ⟨hdoa, fdo, hdo1, hdo2⟩ := hX.2.1.2.2.1.1.2.2.2.2
  refine lv_iload_n hx hb dJ6_getChars_ba4f3_0 rfl (lv_at hl 1 rfl) ?_
  refine lv_istore (lv' := [(5, .int (nI p0)), (0, .int x), (1, .int (nI p0)), (2, .ref b_b)]) hx hb dJ6_getChars_ba4f3_1 hl (by decide) rfl (fun ls hl => ?_)
  refine lv_iload_n hx hb dJ6_getChars_ba4f3_3 rfl (lv_at hl 1 rfl) ?_
  refine lv_if_ge (tgt := 11) hx hb dJ6_getChars_ba4f3_4 (by decide) (fun c1 => ?_) (fun c1 => ?_)
  · refine lv_iconst (v := 0) hx hb dJ6_getChars_ba4f3_11 (by decide) ?_
    refine lv_istore (lv' := [(6, .int 0), (5, .int (nI p0)), (0, .int x), (1, .int (nI p0)), (2, .ref b_b)]) hx hb dJ6_getChars_ba4f3_12 hl (by decide) rfl (fun ls hl => ?_)
    refine lv_iload hx hb dJ6_getChars_ba4f3_14 (lv_at hl 0 rfl) ?_
    refine lv_if_ne (tgt := 22) hx hb dJ6_getChars_ba4f3_16 (by decide) (fun c2 => False.elim (by revert c2; decide)) (fun _ => ?_)
    refine lv_iload_n hx hb dJ6_getChars_ba4f3_19 rfl (lv_at hl 2 rfl) ?_
    refine lv_ineg hx hb dJ6_getChars_ba4f3_20 ?_
    refine lv_istore_n (lv' := [(0, .int (-x)), (6, .int 0), (5, .int (nI p0)), (1, .int (nI p0)), (2, .ref b_b)]) hx hb dJ6_getChars_ba4f3_21 rfl hl (by decide) rfl (fun ls hl => ?_)
    have lp22 : ∀ (nn : Nat) (y0_22 : Int32) (y5_22 : Nat) (bb_22 : Nat → Int32) (kk : Nat) (H : Heap) (locs : List Loc), (GCi y0_22 kk) → (kk + 0 ≤ y5_22 ∧ y5_22 ≤ n_b) → (sb_Fit bb_22) → (y0_22).toInt.natAbs < nn → Bd κ A s ((w.set k_b (bA κ b_b n_b bb_22))) H locs → ∀ ls : Array Slot, lv_has ls 7 [(0, .int y0_22), (6, .int 0), (5, .int (nI y5_22)), (1, .int (nI p0)), (2, .ref b_b)] → W p l e (Rm 0 0 0 0) s m args below meth c H locs (0) (0) Q (F0 m 22 ls []) := by
      intro nn
      induction nn with
      | zero => intro y0_22 y5_22 bb_22 kk H locs hgc hpp hfb hμ; exact absurd hμ (Nat.not_lt_zero _)
      | succ nn ih22 =>
        intro y0_22 y5_22 bb_22 kk H locs hgc hpp hfb hμ22 hB ls hl
        have hgk := hgc.2.2
        refine lv_iload_n hx hb dJ6_getChars_ba4f3_22 rfl (lv_at hl 0 rfl) ?_
        refine lv_bipush (v := (-100)) hx hb dJ6_getChars_ba4f3_23 (by decide) ?_
        refine lv_icmp_gt (tgt := 72) hx hb dJ6_getChars_ba4f3_25 (by decide) (fun c19 => ?_) (fun c19 => ?_)
        · refine lv_aload_n hx hb dJ6_getChars_ba4f3_72 rfl (lv_at hl 4 rfl) ?_
          refine lv_iinc (v := nI (y5_22 - 1)) (lv' := [(5, .int (nI (y5_22 - 1))), (0, .int y0_22), (6, .int 0), (1, .int (nI p0)), (2, .ref b_b)]) hx hb dJ6_getChars_ba4f3_73 hl (k := 2) rfl (nI_dec (a := y5_22) (by omega)) (by decide) rfl (fun ls hl => ?_)
          refine lv_iload hx hb dJ6_getChars_ba4f3_76 (lv_at hl 0 rfl) ?_
          refine gsv hX hB hdo1 wm_4_125 dJ6_getChars_ba4f3_78 ?_
          refine lv_iload_n hx hb dJ6_getChars_ba4f3_81 rfl (lv_at hl 1 rfl) ?_
          refine lv_ineg hx hb dJ6_getChars_ba4f3_82 ?_
          refine baldS hX hB hdo2 (gc_n hgc (by assumption)) dJ6_getChars_ba4f3_83 ?_
          refine lv_topi (fun u20 eu20 => ?_)
          refine bastN (k0 := k_b) (k := y5_22 - 1) hX hB (wset1 h_b) (by omega) (by omega) (w1 := (w.set k_b (bA κ b_b n_b (upd bb_22 (y5_22 - 1) (vp_nar .byte u20))))) (List.set_set _) dJ6_getChars_ba4f3_84 (fun H locs hB => ?_)
          refine lv_iload_n hx hb dJ6_getChars_ba4f3_85 rfl (lv_at hl 1 rfl) ?_
          refine lv_bipush (v := (-9)) hx hb dJ6_getChars_ba4f3_86 (by decide) ?_
          refine lv_icmp_ge (tgt := 104) hx hb dJ6_getChars_ba4f3_88 (by decide) (fun c21 => ?_) (fun c21 => ?_)
          · refine lv_iload hx hb dJ6_getChars_ba4f3_104 (lv_at hl 2 rfl) ?_
            refine lv_if_eq (tgt := 118) hx hb dJ6_getChars_ba4f3_106 (by decide) (fun _ => ?_) (fun c22 => False.elim (by revert c22; decide))
            refine lv_iload hx hb dJ6_getChars_ba4f3_118 (lv_at hl 0 rfl) ?_
            rw [← hQ]
            exact end_i hX hB hA3 rfl rfl ⟨(y5_22 - 1), (upd bb_22 (y5_22 - 1) (vp_nar .byte u20)), rfl, (sb_fitU hfb (pk_fb _)), rfl⟩ (Nat.le_of_ble_eq_true rfl) (Nat.le_of_ble_eq_true rfl) dJ6_getChars_ba4f3_120
          · have hk2 := gc_k2 hgc c21
            refine lv_aload_n hx hb dJ6_getChars_ba4f3_91 rfl (lv_at hl 4 rfl) ?_
            refine lv_iinc (v := nI (y5_22 - 1 - 1)) (lv' := [(5, .int (nI (y5_22 - 1 - 1))), (0, .int y0_22), (6, .int 0), (1, .int (nI p0)), (2, .ref b_b)]) hx hb dJ6_getChars_ba4f3_92 hl (k := 0) rfl (nI_dec (a := y5_22 - 1) (by omega)) (by decide) rfl (fun ls hl => ?_)
            refine lv_iload hx hb dJ6_getChars_ba4f3_95 (lv_at hl 0 rfl) ?_
            refine gsv hX hB hdt1 wm_4_127 dJ6_getChars_ba4f3_97 ?_
            refine lv_iload_n hx hb dJ6_getChars_ba4f3_100 rfl (lv_at hl 1 rfl) ?_
            refine lv_ineg hx hb dJ6_getChars_ba4f3_101 ?_
            refine baldS hX hB hdt2 (gc_n hgc (by assumption)) dJ6_getChars_ba4f3_102 ?_
            refine lv_topi (fun u23 eu23 => ?_)
            refine bastN (k0 := k_b) (k := y5_22 - 1 - 1) hX hB (wset1 h_b) (by omega) (by omega) (w1 := (w.set k_b (bA κ b_b n_b (upd (upd bb_22 (y5_22 - 1) (vp_nar .byte u20)) (y5_22 - 1 - 1) (vp_nar .byte u23))))) (List.set_set _) dJ6_getChars_ba4f3_103 (fun H locs hB => ?_)
            refine lv_iload hx hb dJ6_getChars_ba4f3_104 (lv_at hl 2 rfl) ?_
            refine lv_if_eq (tgt := 118) hx hb dJ6_getChars_ba4f3_106 (by decide) (fun _ => ?_) (fun c24 => False.elim (by revert c24; decide))
            refine lv_iload hx hb dJ6_getChars_ba4f3_118 (lv_at hl 0 rfl) ?_
            rw [← hQ]
            exact end_i hX hB hA3 rfl rfl ⟨(y5_22 - 1 - 1), (upd (upd bb_22 (y5_22 - 1) (vp_nar .byte u20)) (y5_22 - 1 - 1) (vp_nar .byte u23)), rfl, (sb_fitU (sb_fitU hfb (pk_fb _)) (pk_fb _)), rfl⟩ (Nat.le_of_ble_eq_true rfl) (Nat.le_of_ble_eq_true rfl) dJ6_getChars_ba4f3_120
        · have hk3 := gc_k3 hgc c19
          refine lv_iload_n hx hb dJ6_getChars_ba4f3_28 rfl (lv_at hl 0 rfl) ?_
          refine lv_bipush (v := 100) hx hb dJ6_getChars_ba4f3_29 (by decide) ?_
          refine lv_idiv hx hb dJ6_getChars_ba4f3_31 (by decide) ?_
          refine lv_istore_n (lv' := [(3, .int (y0_22 / 100)), (0, .int y0_22), (6, .int 0), (5, .int (nI y5_22)), (1, .int (nI p0)), (2, .ref b_b)]) hx hb dJ6_getChars_ba4f3_32 rfl hl (by decide) rfl (fun ls hl => ?_)
          refine lv_iload_n hx hb dJ6_getChars_ba4f3_33 rfl (lv_at hl 0 rfl) ?_
          refine lv_bipush (v := 100) hx hb dJ6_getChars_ba4f3_34 (by decide) ?_
          refine lv_imul hx hb dJ6_getChars_ba4f3_36 ?_
          refine lv_iload_n hx hb dJ6_getChars_ba4f3_37 rfl (lv_at hl 1 rfl) ?_
          refine lv_isub hx hb dJ6_getChars_ba4f3_38 ?_
          refine lv_istore (lv' := [(4, .int (((y0_22 / 100) * 100) - y0_22)), (3, .int (y0_22 / 100)), (0, .int y0_22), (6, .int 0), (5, .int (nI y5_22)), (1, .int (nI p0)), (2, .ref b_b)]) hx hb dJ6_getChars_ba4f3_39 hl (by decide) rfl (fun ls hl => ?_)
          refine lv_iload_n hx hb dJ6_getChars_ba4f3_41 rfl (lv_at hl 1 rfl) ?_
          refine lv_istore_n (lv' := [(0, .int (y0_22 / 100)), (4, .int (((y0_22 / 100) * 100) - y0_22)), (3, .int (y0_22 / 100)), (6, .int 0), (5, .int (nI y5_22)), (1, .int (nI p0)), (2, .ref b_b)]) hx hb dJ6_getChars_ba4f3_42 rfl hl (by decide) rfl (fun ls hl => ?_)
          refine lv_aload_n hx hb dJ6_getChars_ba4f3_43 rfl (lv_at hl 6 rfl) ?_
          refine lv_iinc (v := nI (y5_22 - 1)) (lv' := [(5, .int (nI (y5_22 - 1))), (0, .int (y0_22 / 100)), (4, .int (((y0_22 / 100) * 100) - y0_22)), (3, .int (y0_22 / 100)), (6, .int 0), (1, .int (nI p0)), (2, .ref b_b)]) hx hb dJ6_getChars_ba4f3_44 hl (k := 4) rfl (nI_dec (a := y5_22) (by omega)) (by decide) rfl (fun ls hl => ?_)
          refine lv_iload hx hb dJ6_getChars_ba4f3_47 (lv_at hl 0 rfl) ?_
          refine gsv hX hB hdo1 wm_4_125 dJ6_getChars_ba4f3_49 ?_
          refine lv_iload hx hb dJ6_getChars_ba4f3_52 (lv_at hl 2 rfl) ?_
          refine baldS hX hB hdo2 (gc_r hgc) dJ6_getChars_ba4f3_54 ?_
          refine lv_topi (fun u25 eu25 => ?_)
          refine bastN (k0 := k_b) (k := y5_22 - 1) hX hB (wset1 h_b) (by omega) (by omega) (w1 := (w.set k_b (bA κ b_b n_b (upd bb_22 (y5_22 - 1) (vp_nar .byte u25))))) (List.set_set _) dJ6_getChars_ba4f3_55 (fun H locs hB => ?_)
          refine lv_aload_n hx hb dJ6_getChars_ba4f3_56 rfl (lv_at hl 6 rfl) ?_
          refine lv_iinc (v := nI (y5_22 - 1 - 1)) (lv' := [(5, .int (nI (y5_22 - 1 - 1))), (0, .int (y0_22 / 100)), (4, .int (((y0_22 / 100) * 100) - y0_22)), (3, .int (y0_22 / 100)), (6, .int 0), (1, .int (nI p0)), (2, .ref b_b)]) hx hb dJ6_getChars_ba4f3_57 hl (k := 0) rfl (nI_dec (a := y5_22 - 1) (by omega)) (by decide) rfl (fun ls hl => ?_)
          refine lv_iload hx hb dJ6_getChars_ba4f3_60 (lv_at hl 0 rfl) ?_
          refine gsv hX hB hdt1 wm_4_127 dJ6_getChars_ba4f3_62 ?_
          refine lv_iload hx hb dJ6_getChars_ba4f3_65 (lv_at hl 2 rfl) ?_
          refine baldS hX hB hdt2 (gc_r hgc) dJ6_getChars_ba4f3_67 ?_
          refine lv_topi (fun u26 eu26 => ?_)
          refine bastN (k0 := k_b) (k := y5_22 - 1 - 1) hX hB (wset1 h_b) (by omega) (by omega) (w1 := (w.set k_b (bA κ b_b n_b (upd (upd bb_22 (y5_22 - 1) (vp_nar .byte u25)) (y5_22 - 1 - 1) (vp_nar .byte u26))))) (List.set_set _) dJ6_getChars_ba4f3_68 (fun H locs hB => ?_)
          refine lv_goto (tgt := 22) hx hb dJ6_getChars_ba4f3_69 (by decide) ?_
          exact ih22 (y0_22 / 100) (y5_22 - 1 - 1) (upd (upd bb_22 (y5_22 - 1) (vp_nar .byte u25)) (y5_22 - 1 - 1) (vp_nar .byte u26)) (kk - 2) _ _ ((gc_s hgc c19).1) (⟨by omega, by omega⟩) (sb_fitU (sb_fitU hfb (pk_fb _)) (pk_fb _)) (by have := (gc_s hgc c19).2; omega) hB _ (lv_sub hl [1, 4, 0, 5, 6] rfl)
    exact lp22 _ (-x) p0 f_b sz _ _ (gc_1 hds (Int32.not_lt.mpr (by assumption))) (⟨by have := DSz_b hds; omega, by omega⟩) hft (Nat.lt_succ_self _) hB _ hl
  · refine lv_iconst (v := 1) hx hb dJ6_getChars_ba4f3_7 (by decide) ?_
    refine lv_goto (tgt := 12) hx hb dJ6_getChars_ba4f3_8 (by decide) ?_
    refine lv_istore (lv' := [(6, .int 1), (5, .int (nI p0)), (0, .int x), (1, .int (nI p0)), (2, .ref b_b)]) hx hb dJ6_getChars_ba4f3_12 hl (by decide) rfl (fun ls hl => ?_)
    refine lv_iload hx hb dJ6_getChars_ba4f3_14 (lv_at hl 0 rfl) ?_
    refine lv_if_ne (tgt := 22) hx hb dJ6_getChars_ba4f3_16 (by decide) (fun _ => ?_) (fun c27 => False.elim (by revert c27; decide))
    have lp22 : ∀ (nn : Nat) (y5_22 : Nat) (y0_22 : Int32) (bb_22 : Nat → Int32) (kk : Nat) (H : Heap) (locs : List Loc), (GCi y0_22 kk) → (kk + 1 ≤ y5_22 ∧ y5_22 ≤ n_b) → (sb_Fit bb_22) → (y0_22).toInt.natAbs < nn → Bd κ A s ((w.set k_b (bA κ b_b n_b bb_22))) H locs → ∀ ls : Array Slot, lv_has ls 7 [(6, .int 1), (5, .int (nI y5_22)), (0, .int y0_22), (1, .int (nI p0)), (2, .ref b_b)] → W p l e (Rm 0 0 0 0) s m args below meth c H locs (0) (0) Q (F0 m 22 ls []) := by
      intro nn
      induction nn with
      | zero => intro y5_22 y0_22 bb_22 kk H locs hgc hpp hfb hμ; exact absurd hμ (Nat.not_lt_zero _)
      | succ nn ih22 =>
        intro y5_22 y0_22 bb_22 kk H locs hgc hpp hfb hμ22 hB ls hl
        have hgk := hgc.2.2
        refine lv_iload_n hx hb dJ6_getChars_ba4f3_22 rfl (lv_at hl 2 rfl) ?_
        refine lv_bipush (v := (-100)) hx hb dJ6_getChars_ba4f3_23 (by decide) ?_
        refine lv_icmp_gt (tgt := 72) hx hb dJ6_getChars_ba4f3_25 (by decide) (fun c44 => ?_) (fun c44 => ?_)
        · refine lv_aload_n hx hb dJ6_getChars_ba4f3_72 rfl (lv_at hl 4 rfl) ?_
          refine lv_iinc (v := nI (y5_22 - 1)) (lv' := [(5, .int (nI (y5_22 - 1))), (6, .int 1), (0, .int y0_22), (1, .int (nI p0)), (2, .ref b_b)]) hx hb dJ6_getChars_ba4f3_73 hl (k := 1) rfl (nI_dec (a := y5_22) (by omega)) (by decide) rfl (fun ls hl => ?_)
          refine lv_iload hx hb dJ6_getChars_ba4f3_76 (lv_at hl 0 rfl) ?_
          refine gsv hX hB hdo1 wm_4_125 dJ6_getChars_ba4f3_78 ?_
          refine lv_iload_n hx hb dJ6_getChars_ba4f3_81 rfl (lv_at hl 2 rfl) ?_
          refine lv_ineg hx hb dJ6_getChars_ba4f3_82 ?_
          refine baldS hX hB hdo2 (gc_n hgc (by assumption)) dJ6_getChars_ba4f3_83 ?_
          refine lv_topi (fun u45 eu45 => ?_)
          refine bastN (k0 := k_b) (k := y5_22 - 1) hX hB (wset1 h_b) (by omega) (by omega) (w1 := (w.set k_b (bA κ b_b n_b (upd bb_22 (y5_22 - 1) (vp_nar .byte u45))))) (List.set_set _) dJ6_getChars_ba4f3_84 (fun H locs hB => ?_)
          refine lv_iload_n hx hb dJ6_getChars_ba4f3_85 rfl (lv_at hl 2 rfl) ?_
          refine lv_bipush (v := (-9)) hx hb dJ6_getChars_ba4f3_86 (by decide) ?_
          refine lv_icmp_ge (tgt := 104) hx hb dJ6_getChars_ba4f3_88 (by decide) (fun c46 => ?_) (fun c46 => ?_)
          · refine lv_iload hx hb dJ6_getChars_ba4f3_104 (lv_at hl 1 rfl) ?_
            refine lv_if_eq (tgt := 118) hx hb dJ6_getChars_ba4f3_106 (by decide) (fun c47 => False.elim (by revert c47; decide)) (fun _ => ?_)
            refine lv_aload_n hx hb dJ6_getChars_ba4f3_109 rfl (lv_at hl 4 rfl) ?_
            refine lv_iinc (v := nI (y5_22 - 1 - 1)) (lv' := [(5, .int (nI (y5_22 - 1 - 1))), (6, .int 1), (0, .int y0_22), (1, .int (nI p0)), (2, .ref b_b)]) hx hb dJ6_getChars_ba4f3_110 hl (k := 0) rfl (nI_dec (a := y5_22 - 1) (by omega)) (by decide) rfl (fun ls hl => ?_)
            refine lv_iload hx hb dJ6_getChars_ba4f3_113 (lv_at hl 0 rfl) ?_
            refine lv_bipush (v := 45) hx hb dJ6_getChars_ba4f3_115 (by decide) ?_
            refine bastN (k0 := k_b) (k := y5_22 - 1 - 1) hX hB (wset1 h_b) (by omega) (by omega) (w1 := (w.set k_b (bA κ b_b n_b (upd (upd bb_22 (y5_22 - 1) (vp_nar .byte u45)) (y5_22 - 1 - 1) (vp_nar .byte 45))))) (List.set_set _) dJ6_getChars_ba4f3_117 (fun H locs hB => ?_)
            refine lv_iload hx hb dJ6_getChars_ba4f3_118 (lv_at hl 0 rfl) ?_
            rw [← hQ]
            exact end_i hX hB hA3 rfl rfl ⟨(y5_22 - 1 - 1), (upd (upd bb_22 (y5_22 - 1) (vp_nar .byte u45)) (y5_22 - 1 - 1) (vp_nar .byte 45)), rfl, (sb_fitU (sb_fitU hfb (pk_fb _)) (pk_fb _)), rfl⟩ (Nat.le_of_ble_eq_true rfl) (Nat.le_of_ble_eq_true rfl) dJ6_getChars_ba4f3_120
          · have hk2 := gc_k2 hgc c46
            refine lv_aload_n hx hb dJ6_getChars_ba4f3_91 rfl (lv_at hl 4 rfl) ?_
            refine lv_iinc (v := nI (y5_22 - 1 - 1)) (lv' := [(5, .int (nI (y5_22 - 1 - 1))), (6, .int 1), (0, .int y0_22), (1, .int (nI p0)), (2, .ref b_b)]) hx hb dJ6_getChars_ba4f3_92 hl (k := 0) rfl (nI_dec (a := y5_22 - 1) (by omega)) (by decide) rfl (fun ls hl => ?_)
            refine lv_iload hx hb dJ6_getChars_ba4f3_95 (lv_at hl 0 rfl) ?_
            refine gsv hX hB hdt1 wm_4_127 dJ6_getChars_ba4f3_97 ?_
            refine lv_iload_n hx hb dJ6_getChars_ba4f3_100 rfl (lv_at hl 2 rfl) ?_
            refine lv_ineg hx hb dJ6_getChars_ba4f3_101 ?_
            refine baldS hX hB hdt2 (gc_n hgc (by assumption)) dJ6_getChars_ba4f3_102 ?_
            refine lv_topi (fun u48 eu48 => ?_)
            refine bastN (k0 := k_b) (k := y5_22 - 1 - 1) hX hB (wset1 h_b) (by omega) (by omega) (w1 := (w.set k_b (bA κ b_b n_b (upd (upd bb_22 (y5_22 - 1) (vp_nar .byte u45)) (y5_22 - 1 - 1) (vp_nar .byte u48))))) (List.set_set _) dJ6_getChars_ba4f3_103 (fun H locs hB => ?_)
            refine lv_iload hx hb dJ6_getChars_ba4f3_104 (lv_at hl 1 rfl) ?_
            refine lv_if_eq (tgt := 118) hx hb dJ6_getChars_ba4f3_106 (by decide) (fun c49 => False.elim (by revert c49; decide)) (fun _ => ?_)
            refine lv_aload_n hx hb dJ6_getChars_ba4f3_109 rfl (lv_at hl 4 rfl) ?_
            refine lv_iinc (v := nI (y5_22 - 1 - 1 - 1)) (lv' := [(5, .int (nI (y5_22 - 1 - 1 - 1))), (6, .int 1), (0, .int y0_22), (1, .int (nI p0)), (2, .ref b_b)]) hx hb dJ6_getChars_ba4f3_110 hl (k := 0) rfl (nI_dec (a := y5_22 - 1 - 1) (by omega)) (by decide) rfl (fun ls hl => ?_)
            refine lv_iload hx hb dJ6_getChars_ba4f3_113 (lv_at hl 0 rfl) ?_
            refine lv_bipush (v := 45) hx hb dJ6_getChars_ba4f3_115 (by decide) ?_
            refine bastN (k0 := k_b) (k := y5_22 - 1 - 1 - 1) hX hB (wset1 h_b) (by omega) (by omega) (w1 := (w.set k_b (bA κ b_b n_b (upd (upd (upd bb_22 (y5_22 - 1) (vp_nar .byte u45)) (y5_22 - 1 - 1) (vp_nar .byte u48)) (y5_22 - 1 - 1 - 1) (vp_nar .byte 45))))) (List.set_set _) dJ6_getChars_ba4f3_117 (fun H locs hB => ?_)
            refine lv_iload hx hb dJ6_getChars_ba4f3_118 (lv_at hl 0 rfl) ?_
            rw [← hQ]
            exact end_i hX hB hA3 rfl rfl ⟨(y5_22 - 1 - 1 - 1), (upd (upd (upd bb_22 (y5_22 - 1) (vp_nar .byte u45)) (y5_22 - 1 - 1) (vp_nar .byte u48)) (y5_22 - 1 - 1 - 1) (vp_nar .byte 45)), rfl, (sb_fitU (sb_fitU (sb_fitU hfb (pk_fb _)) (pk_fb _)) (pk_fb _)), rfl⟩ (Nat.le_of_ble_eq_true rfl) (Nat.le_of_ble_eq_true rfl) dJ6_getChars_ba4f3_120
        · have hk3 := gc_k3 hgc c44
          refine lv_iload_n hx hb dJ6_getChars_ba4f3_28 rfl (lv_at hl 2 rfl) ?_
          refine lv_bipush (v := 100) hx hb dJ6_getChars_ba4f3_29 (by decide) ?_
          refine lv_idiv hx hb dJ6_getChars_ba4f3_31 (by decide) ?_
          refine lv_istore_n (lv' := [(3, .int (y0_22 / 100)), (6, .int 1), (5, .int (nI y5_22)), (0, .int y0_22), (1, .int (nI p0)), (2, .ref b_b)]) hx hb dJ6_getChars_ba4f3_32 rfl hl (by decide) rfl (fun ls hl => ?_)
          refine lv_iload_n hx hb dJ6_getChars_ba4f3_33 rfl (lv_at hl 0 rfl) ?_
          refine lv_bipush (v := 100) hx hb dJ6_getChars_ba4f3_34 (by decide) ?_
          refine lv_imul hx hb dJ6_getChars_ba4f3_36 ?_
          refine lv_iload_n hx hb dJ6_getChars_ba4f3_37 rfl (lv_at hl 3 rfl) ?_
          refine lv_isub hx hb dJ6_getChars_ba4f3_38 ?_
          refine lv_istore (lv' := [(4, .int (((y0_22 / 100) * 100) - y0_22)), (3, .int (y0_22 / 100)), (6, .int 1), (5, .int (nI y5_22)), (0, .int y0_22), (1, .int (nI p0)), (2, .ref b_b)]) hx hb dJ6_getChars_ba4f3_39 hl (by decide) rfl (fun ls hl => ?_)
          refine lv_iload_n hx hb dJ6_getChars_ba4f3_41 rfl (lv_at hl 1 rfl) ?_
          refine lv_istore_n (lv' := [(0, .int (y0_22 / 100)), (4, .int (((y0_22 / 100) * 100) - y0_22)), (3, .int (y0_22 / 100)), (6, .int 1), (5, .int (nI y5_22)), (1, .int (nI p0)), (2, .ref b_b)]) hx hb dJ6_getChars_ba4f3_42 rfl hl (by decide) rfl (fun ls hl => ?_)
          refine lv_aload_n hx hb dJ6_getChars_ba4f3_43 rfl (lv_at hl 6 rfl) ?_
          refine lv_iinc (v := nI (y5_22 - 1)) (lv' := [(5, .int (nI (y5_22 - 1))), (0, .int (y0_22 / 100)), (4, .int (((y0_22 / 100) * 100) - y0_22)), (3, .int (y0_22 / 100)), (6, .int 1), (1, .int (nI p0)), (2, .ref b_b)]) hx hb dJ6_getChars_ba4f3_44 hl (k := 4) rfl (nI_dec (a := y5_22) (by omega)) (by decide) rfl (fun ls hl => ?_)
          refine lv_iload hx hb dJ6_getChars_ba4f3_47 (lv_at hl 0 rfl) ?_
          refine gsv hX hB hdo1 wm_4_125 dJ6_getChars_ba4f3_49 ?_
          refine lv_iload hx hb dJ6_getChars_ba4f3_52 (lv_at hl 2 rfl) ?_
          refine baldS hX hB hdo2 (gc_r hgc) dJ6_getChars_ba4f3_54 ?_
          refine lv_topi (fun u50 eu50 => ?_)
          refine bastN (k0 := k_b) (k := y5_22 - 1) hX hB (wset1 h_b) (by omega) (by omega) (w1 := (w.set k_b (bA κ b_b n_b (upd bb_22 (y5_22 - 1) (vp_nar .byte u50))))) (List.set_set _) dJ6_getChars_ba4f3_55 (fun H locs hB => ?_)
          refine lv_aload_n hx hb dJ6_getChars_ba4f3_56 rfl (lv_at hl 6 rfl) ?_
          refine lv_iinc (v := nI (y5_22 - 1 - 1)) (lv' := [(5, .int (nI (y5_22 - 1 - 1))), (0, .int (y0_22 / 100)), (4, .int (((y0_22 / 100) * 100) - y0_22)), (3, .int (y0_22 / 100)), (6, .int 1), (1, .int (nI p0)), (2, .ref b_b)]) hx hb dJ6_getChars_ba4f3_57 hl (k := 0) rfl (nI_dec (a := y5_22 - 1) (by omega)) (by decide) rfl (fun ls hl => ?_)
          refine lv_iload hx hb dJ6_getChars_ba4f3_60 (lv_at hl 0 rfl) ?_
          refine gsv hX hB hdt1 wm_4_127 dJ6_getChars_ba4f3_62 ?_
          refine lv_iload hx hb dJ6_getChars_ba4f3_65 (lv_at hl 2 rfl) ?_
          refine baldS hX hB hdt2 (gc_r hgc) dJ6_getChars_ba4f3_67 ?_
          refine lv_topi (fun u51 eu51 => ?_)
          refine bastN (k0 := k_b) (k := y5_22 - 1 - 1) hX hB (wset1 h_b) (by omega) (by omega) (w1 := (w.set k_b (bA κ b_b n_b (upd (upd bb_22 (y5_22 - 1) (vp_nar .byte u50)) (y5_22 - 1 - 1) (vp_nar .byte u51))))) (List.set_set _) dJ6_getChars_ba4f3_68 (fun H locs hB => ?_)
          refine lv_goto (tgt := 22) hx hb dJ6_getChars_ba4f3_69 (by decide) ?_
          exact ih22 (y5_22 - 1 - 1) (y0_22 / 100) (upd (upd bb_22 (y5_22 - 1) (vp_nar .byte u50)) (y5_22 - 1 - 1) (vp_nar .byte u51)) (kk - 2) _ _ ((gc_s hgc c44).1) (⟨by omega, by omega⟩) (sb_fitU (sb_fitU hfb (pk_fb _)) (pk_fb _)) (by have := (gc_s hgc c44).2; omega) hB _ (lv_sub hl [4, 0, 1, 5, 6] rfl)
    exact lp22 _ p0 x f_b (sz - 1) _ _ (gc_0 hds (Int32.not_le.mp (by assumption))) (⟨by have := DSz_b hds; omega, by omega⟩) hft (Nat.lt_succ_self _) hB _ hl
set_option maxHeartbeats 4000000 in
set_option maxRecDepth 100000 in
theorem k_J5_append_c97b9 (κ : Kt) (l : Launch) (w : va_W) (s_0 b_s n_s c_s : Nat) (ml : Int32) (f_s : Nat → Int32) (x : Int32) (hcn : c_s ≤ n_s) (hnb : n_s ≤ 1000) (hft : sb_Fit f_s) (hc3 : c_s ≤ 300) (hn2 : n_s ≤ 2 * c_s + 16) : CM κ l yJ5_append_c97b9 cJ5_append_c97b9 4 (some (.object "java/lang/AbstractStringBuilder")) 4 104 1 820 [.ref s_0, .int x] (bA κ b_s n_s f_s :: (s_0, .inr (1, [.ref b_s, .int 0, .int ml, .int (nI c_s)])) :: w) (fun o w' => ∃ (q1 : Nat) (n1 : Nat) (F : Nat → Int32) (c1 : Nat), o = some (.ref s_0) ∧ (c_s + 1 ≤ n1 ∧ n1 ≤ 1000 ∧ n1 ≤ 2 * c1 + 16 ∧ c_s + 1 ≤ c1 ∧ c1 ≤ c_s + 11 ∧ c1 ≤ n1) ∧ (sb_Fit F) ∧ w' = bA κ q1 n1 F :: (s_0, .inr (1, [.ref q1, .int 0, .int ml, .int (nI c1)])) :: w) := by
  refine CM_begin (plainFor_of_name (by decide)) (Nat.le_of_ble_eq_true rfl) ?_
  intro p e s m args below meth c A Q hX hnm hA3 hQ hB ls hl
  have hx := hX.1.1
  have hb := hX.1.2.1
  have hl : lv_has ls 4 [(0, .ref s_0), (1, .int x)] := hl
  refine lv_aload_n hx hb dJ5_append_c97b9_0 rfl (lv_at hl 0 rfl) ?_
  refine gfU (k0 := 1) hX hB rfl rfl inJ4 3 (by decide) wm_4_11 rfl rfl dJ5_append_c97b9_1 ?_
  refine lv_istore_n (lv' := [(2, .int (nI c_s)), (0, .ref s_0), (1, .int x)]) hx hb dJ5_append_c97b9_4 rfl hl (by decide) rfl (fun ls hl => ?_)
  refine lv_iload_n hx hb dJ5_append_c97b9_5 rfl (lv_at hl 0 rfl) ?_
  refine lv_iload_n hx hb dJ5_append_c97b9_6 rfl (lv_at hl 2 rfl) ?_
  refine call_S (n := 1) (As := [.int x]) (rest := [.int (nI c_s)]) hX hB (k_J6_stringSize_0f7a4 κ l (bA κ b_s n_s f_s :: (s_0, .inr (1, [.ref b_s, .int 0, .int ml, .int (nI c_s)])) :: w) x ) ⟨by decide, by decide, by decide +kernel⟩ wm_4_119 wm_4_120 wm_1_26 wm_4_121 ⟨Nat.le_of_ble_eq_true rfl, Nat.le_of_ble_eq_true rfl⟩ ⟨Nat.le_of_ble_eq_true rfl, Nat.le_of_ble_eq_true rfl⟩ rfl hl.1 rfl (Nat.le_of_ble_eq_true rfl) dJ5_append_c97b9_7 (fun o w' H locs hp hB => ?_)
  obtain ⟨z1, rfl, hf2, hw9⟩ := hp
  replace hB : Bd κ A s (bA κ b_s n_s f_s :: (s_0, .inr (1, [.ref b_s, .int 0, .int ml, .int (nI c_s)])) :: w) H locs := by rw [hw9] at hB; exact hB
  refine W.eq (g2 := F0 m 10 ls [.int (nI z1), .int (nI c_s)]) rfl ?_
  refine lv_iadd hx hb dJ5_append_c97b9_10 ?_
  refine eqi (y := nI (c_s + z1)) (nI_add c_s z1) ?_
  refine lv_istore_n (lv' := [(3, .int (nI (c_s + z1))), (2, .int (nI c_s)), (0, .ref s_0), (1, .int x)]) hx hb dJ5_append_c97b9_11 rfl hl (by decide) rfl (fun ls hl => ?_)
  refine lv_aload_n hx hb dJ5_append_c97b9_12 rfl (lv_at hl 2 rfl) ?_
  refine lv_iload_n hx hb dJ5_append_c97b9_13 rfl (lv_at hl 0 rfl) ?_
  have hszb := DSz_b hf2
  refine call_U (n := 1) (k0 := 1) (As := [.int (nI (c_s + z1))]) (rest := []) hX hB (k_J5_ensureCapacityInternal_d00df κ l (w) s_0 b_s n_s c_s ml f_s (nI (c_s + z1)) (c_s + z1) (by omega) (by omega) hft rfl (by omega)) ⟨by decide, by decide, by decide +kernel⟩ wm_4_28 wm_7_186 wm_4_30 (Or.inr wn_4_29) wm_1_17 wm_4_31 ⟨Nat.le_of_ble_eq_true rfl, Nat.le_of_ble_eq_true rfl⟩ ⟨Nat.le_of_ble_eq_true rfl, Nat.le_of_ble_eq_true rfl⟩ rfl rfl rfl rfl hl.1 rfl (Nat.le_of_ble_eq_true rfl) dJ5_append_c97b9_14 (fun o w' H locs hp hB => ?_)
  obtain ⟨q3, n4, F5, rfl, hf6, hf7, hw9⟩ := hp
  replace hB : Bd κ A s (bA κ q3 n4 F5 :: (s_0, .inr (1, [.ref q3, .int 0, .int ml, .int (nI c_s)])) :: w) H locs := by rw [hw9] at hB; exact hB
  refine W.eq (g2 := F0 m 17 ls []) rfl ?_
  refine lv_aload_n hx hb dJ5_append_c97b9_17 rfl (lv_at hl 2 rfl) ?_
  refine call_U (n := 0) (k0 := 1) (As := []) (rest := []) hX hB (k_J5_isLatin1_aae02 κ l (bA κ q3 n4 F5 :: (s_0, .inr (1, [.ref q3, .int 0, .int ml, .int (nI c_s)])) :: w) 1 s_0 q3 c_s ml rfl) ⟨by decide, by decide, by decide +kernel⟩ wm_4_59 wm_4_61 wm_4_60 (Or.inl wm_4_62) wm_1_17 wm_4_63 ⟨Nat.le_of_ble_eq_true rfl, Nat.le_of_ble_eq_true rfl⟩ ⟨Nat.le_of_ble_eq_true rfl, Nat.le_of_ble_eq_true rfl⟩ rfl rfl rfl rfl hl.1 rfl (Nat.le_of_ble_eq_true rfl) dJ5_append_c97b9_18 (fun o w' H locs hp hB => ?_)
  obtain ⟨rfl, hw9⟩ := hp
  replace hB : Bd κ A s (bA κ q3 n4 F5 :: (s_0, .inr (1, [.ref q3, .int 0, .int ml, .int (nI c_s)])) :: w) H locs := by rw [hw9] at hB; exact hB
  refine W.eq (g2 := F0 m 21 ls [.int 1]) rfl ?_
  refine lv_if_eq (tgt := 37) hx hb dJ5_append_c97b9_21 (by decide) (fun c8 => False.elim (by revert c8; decide)) (fun _ => ?_)
  refine lv_iload_n hx hb dJ5_append_c97b9_24 rfl (lv_at hl 3 rfl) ?_
  refine lv_iload_n hx hb dJ5_append_c97b9_25 rfl (lv_at hl 0 rfl) ?_
  refine lv_aload_n hx hb dJ5_append_c97b9_26 rfl (lv_at hl 2 rfl) ?_
  refine gfU (k0 := 1) hX hB rfl rfl inJ4 0 (by decide) wm_4_8 rfl rfl dJ5_append_c97b9_27 ?_
  refine call_S (n := 3) (As := [.int x, .int (nI (c_s + z1)), .ref q3]) (rest := []) hX hB (k_J6_getChars_ba4f3 κ l (bA κ q3 n4 F5 :: (s_0, .inr (1, [.ref q3, .int 0, .int ml, .int (nI c_s)])) :: w) x (nI (c_s + z1)) (c_s + z1) 0 q3 n4 F5 rfl rfl (by omega) hf7 ⟨_, hf2, by omega⟩ (by omega)) ⟨by decide, by decide, by decide +kernel⟩ wm_4_122 wm_4_123 wm_1_26 wm_4_124 ⟨Nat.le_of_ble_eq_true rfl, Nat.le_of_ble_eq_true rfl⟩ ⟨Nat.le_of_ble_eq_true rfl, Nat.le_of_ble_eq_true rfl⟩ rfl hl.1 rfl (Nat.le_of_ble_eq_true rfl) dJ5_append_c97b9_30 (fun o w' H locs hp hB => ?_)
  obtain ⟨z9, F10, rfl, hf11, hw9⟩ := hp
  replace hB : Bd κ A s (bA κ q3 n4 F10 :: (s_0, .inr (1, [.ref q3, .int 0, .int ml, .int (nI c_s)])) :: w) H locs := by rw [hw9] at hB; exact hB
  refine W.eq (g2 := F0 m 33 ls [.int (nI z9)]) rfl ?_
  refine lv_pop hx hb dJ5_append_c97b9_33 rfl ?_
  refine lv_goto (tgt := 48) hx hb dJ5_append_c97b9_34 (by decide) ?_
  refine lv_aload_n hx hb dJ5_append_c97b9_48 rfl (lv_at hl 2 rfl) ?_
  refine lv_iload_n hx hb dJ5_append_c97b9_49 rfl (lv_at hl 0 rfl) ?_
  refine pfU (ty := .int) (k0 := 1) hX hB rfl rfl inJ4 tyJ4_ok nmJ4 3 (by decide) wm_4_11 rfl rfl rfl rfl rfl (Nat.le_of_ble_eq_true rfl) (w1 := bA κ q3 n4 F10 :: (s_0, .inr (1, [.ref q3, .int 0, .int ml, .int (nI (c_s + z1))])) :: w) rfl dJ5_append_c97b9_50 (fun H locs hB => ?_)
  refine lv_aload_n hx hb dJ5_append_c97b9_53 rfl (lv_at hl 2 rfl) ?_
  rw [← hQ]
  exact end_a hX hB hA3 rfl (Or.inr ⟨_, rfl⟩) ⟨q3, n4, F10, (c_s + z1), rfl, (by omega), hf11, rfl⟩ (Nat.le_of_ble_eq_true rfl) (Nat.le_of_ble_eq_true rfl) dJ5_append_c97b9_54
set_option maxHeartbeats 4000000 in
set_option maxRecDepth 100000 in
theorem k_J4_append_bf812 (κ : Kt) (l : Launch) (w : va_W) (s_0 b_s n_s c_s : Nat) (ml : Int32) (f_s : Nat → Int32) (x : Int32) (hcn : c_s ≤ n_s) (hnb : n_s ≤ 1000) (hft : sb_Fit f_s) (hc3 : c_s ≤ 300) (hn2 : n_s ≤ 2 * c_s + 16) : CM κ l yJ4_append_bf812 cJ4_append_bf812 2 (some (.object "java/lang/StringBuilder")) 5 127 1 820 [.ref s_0, .int x] (bA κ b_s n_s f_s :: (s_0, .inr (1, [.ref b_s, .int 0, .int ml, .int (nI c_s)])) :: w) (fun o w' => ∃ (q1 : Nat) (n1 : Nat) (F : Nat → Int32) (c1 : Nat), o = some (.ref s_0) ∧ (c_s + 1 ≤ n1 ∧ n1 ≤ 1000 ∧ n1 ≤ 2 * c1 + 16 ∧ c_s + 1 ≤ c1 ∧ c1 ≤ c_s + 11 ∧ c1 ≤ n1) ∧ (sb_Fit F) ∧ w' = bA κ q1 n1 F :: (s_0, .inr (1, [.ref q1, .int 0, .int ml, .int (nI c1)])) :: w) := by
  refine CM_begin (plainFor_of_name (by decide)) (Nat.le_of_ble_eq_true rfl) ?_
  intro p e s m args below meth c A Q hX hnm hA3 hQ hB ls hl
  have hx := hX.1.1
  have hb := hX.1.2.1
  have hl : lv_has ls 2 [(0, .ref s_0), (1, .int x)] := hl
  refine lv_aload_n hx hb dJ4_append_bf812_0 rfl (lv_at hl 0 rfl) ?_
  refine lv_iload_n hx hb dJ4_append_bf812_1 rfl (lv_at hl 1 rfl) ?_
  refine call_SU (n := 1) (k0 := 1) (As := [.int x]) (rest := []) hX hB (k_J5_append_c97b9 κ l (w) s_0 b_s n_s c_s ml f_s x (by omega) (by omega) hft (by omega) (by omega)) ⟨by decide, by decide +kernel⟩ wm_4_116 wm_7_189 wm_4_20 wm_4_117 wm_1_17 wm_4_118 ⟨Nat.le_of_ble_eq_true rfl, Nat.le_of_ble_eq_true rfl⟩ ⟨Nat.le_of_ble_eq_true rfl, Nat.le_of_ble_eq_true rfl⟩ rfl rfl rfl rfl hl.1 rfl (Nat.le_of_ble_eq_true rfl) dJ4_append_bf812_2 (fun o w' H locs hp hB => ?_)
  obtain ⟨q1, n2, F3, c4, rfl, hf5, hf6, hw9⟩ := hp
  replace hB : Bd κ A s (bA κ q1 n2 F3 :: (s_0, .inr (1, [.ref q1, .int 0, .int ml, .int (nI c4)])) :: w) H locs := by rw [hw9] at hB; exact hB
  refine W.eq (g2 := F0 m 5 ls [.ref s_0]) rfl ?_
  refine lv_pop hx hb dJ4_append_bf812_5 rfl ?_
  refine lv_aload_n hx hb dJ4_append_bf812_6 rfl (lv_at hl 0 rfl) ?_
  rw [← hQ]
  exact end_a hX hB hA3 rfl (Or.inr ⟨_, rfl⟩) ⟨q1, n2, F3, c4, rfl, (by omega), hf6, rfl⟩ (Nat.le_of_ble_eq_true rfl) (Nat.le_of_ble_eq_true rfl) dJ4_append_bf812_7
