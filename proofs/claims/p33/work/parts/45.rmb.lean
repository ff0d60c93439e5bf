theorem sow_x {x : Int64} (h : 0 ≤ x.toInt ∧ x.toInt < 65536) : 0 ≤ (x * 25173 + 13849 - (x * 25173 + 13849) / 65536 * 65536).toInt ∧ (x * 25173 + 13849 - (x * 25173 + 13849) / 65536 * 65536).toInt < 65536 := by
  have e : (x * 25173 + 13849).toInt = x.toInt * 25173 + 13849 := by
    rw [Int64.toInt_add, Int64.toInt_mul, show (25173 : Int64).toInt = 25173 from rfl, show (13849 : Int64).toInt = 13849 from rfl]
    rw [Int.bmod_eq_of_le (n := x.toInt * 25173) (by omega) (by omega)]
    exact Int.bmod_eq_of_le (by omega) (by omega)
  rw [rem_int (by decide), e, show (65536 : Int64).toInt = 65536 from rfl]
  have h1 := Int.tmod_nonneg 65536 (a := x.toInt * 25173 + 13849) (by omega)
  have h2 := Int.tmod_lt_of_pos (x.toInt * 25173 + 13849) (b := 65536) (by decide)
  exact ⟨h1, h2⟩
theorem sow_d {w : Int32} (h0 : ¬ w < 0) (h1 : w ≤ 20) : (2 * w + 1).toInt64.toInt = 2 * w.toInt + 1 ∧ 0 ≤ w.toInt ∧ w.toInt ≤ 20 := by
  rw [i32_lt] at h0
  rw [i32_le] at h1
  rw [show (0 : Int32).toInt = 0 from rfl] at h0
  rw [show (20 : Int32).toInt = 20 from rfl] at h1
  refine ⟨?_, by omega, h1⟩
  rw [Int32.toInt_toInt64, Int32.toInt_add, Int32.toInt_mul, show (2 : Int32).toInt = 2 from rfl, show (1 : Int32).toInt = 1 from rfl]
  rw [Int.bmod_eq_of_le (n := 2 * w.toInt) (by omega) (by omega)]
  exact Int.bmod_eq_of_le (by omega) (by omega)
theorem sow_nz {w : Int32} (h0 : ¬ w < 0) (h1 : w ≤ 20) : ¬ (2 * w + 1).toInt64 = 0 := by
  intro e
  have h := sow_d h0 h1
  rw [e, show (0 : Int64).toInt = 0 from rfl] at h
  omega
theorem sow_sm {a : Int64} {w : Int32} (h0 : ¬ w < 0) (h1 : w ≤ 20) (ha : 0 ≤ a.toInt) : sm (a - a / (2 * w + 1).toInt64 * (2 * w + 1).toInt64 - w.toInt64) := by
  have h := sow_d h0 h1
  have hr := rem_int (x := a) (sow_nz h0 h1)
  have h2 := Int.tmod_nonneg (2 * w + 1).toInt64.toInt (a := a.toInt) ha
  have h3 := Int.tmod_lt_of_pos a.toInt (b := (2 * w + 1).toInt64.toInt) (by omega)
  have hw : w.toInt64.toInt = w.toInt := Int32.toInt_toInt64 w
  have e : (a - a / (2 * w + 1).toInt64 * (2 * w + 1).toInt64 - w.toInt64).toInt = a.toInt.tmod (2 * w + 1).toInt64.toInt - w.toInt := by
    rw [Int64.toInt_sub, hr, hw]
    exact Int.bmod_eq_of_le (by omega) (by omega)
  constructor
  · rw [Int64.le_iff_toInt_le, e]
    show (-20 : Int) ≤ _
    omega
  · rw [Int64.le_iff_toInt_le, e]
    show _ ≤ (20 : Int)
    omega
theorem div64 {x : Int64} (h : 0 ≤ x.toInt) : 0 ≤ (x / 64).toInt := by
  have h1 := Int64.toInt_lt x
  rw [Int64.toInt_div, show (64 : Int64).toInt = 64 from rfl]
  have h2 := Int.tdiv_nonneg h (by decide : (0 : Int) ≤ 64)
  have h3 := Int.tdiv_le_self (b := 64) h
  rw [Int.bmod_eq_of_le (by omega) (by omega)]
  exact h2
theorem seed_x {v : Int32} (h0 : ¬ v < 0) (h1 : ¬ 65535 < v) : 0 ≤ v.toInt64.toInt ∧ v.toInt64.toInt < 65536 := by
  rw [i32_lt] at h0 h1
  rw [show (0 : Int32).toInt = 0 from rfl] at h0
  rw [show (65535 : Int32).toInt = 65535 from rfl] at h1
  rw [Int32.toInt_toInt64]
  omega
theorem shr0 {z : Int32} {R : Nat} (hR : R < 6) (h1 : ¬ z < 1) (h : z >>> ((nI R) &&& 31) = 0) : ∃ x, 0 < x ∧ x < 2 ^ R ∧ z = nI x := by
  have hn : ¬ z < 0 := fun e => h1 (Int32.lt_trans e (by decide))
  obtain ⟨j, hj, rfl⟩ := nI_of hn
  have h1 : ¬ nI j < nI 1 := h1
  rw [nI_ltI hj (by omega)] at h1
  refine ⟨j, by omega, ?_, rfl⟩
  have hb : ((nI R) &&& 31 : Int32).toBitVec = BitVec.ofNat 32 R := (by decide +kernel : ∀ R, R < 6 → ((nI R) &&& 31 : Int32).toBitVec = BitVec.ofNat 32 R) R hR
  have hs : (BitVec.ofNat 32 R).smod 32 = BitVec.ofNat 32 R := (by decide +kernel : ∀ R, R < 6 → (BitVec.ofNat 32 R).smod 32 = BitVec.ofNat 32 R) R hR
  have e := congrArg (fun z => z.toBitVec.toInt) h
  simp only [Int32.toBitVec_shiftRight, hb, hs, BitVec.toInt_sshiftRight'] at e
  have e1 : (nI j).toBitVec.toInt = (j : Int) := nI_toInt hj
  have e2 : (BitVec.ofNat 32 R).toNat = R := by
    rw [BitVec.toNat_ofNat]
    exact Nat.mod_eq_of_lt (by omega)
  rw [e1, e2] at e
  have e3 : ((j >>> R : Nat) : Int) = 0 := e
  have e4 : j >>> R = 0 := by omega
  rw [Nat.shiftRight_eq_div_pow] at e4
  exact (Nat.div_eq_zero_iff_lt (Nat.two_pow_pos R)).mp e4
theorem mn_six {R C x y : Nat} (hR : R ≤ 4) (hC : C ≤ 5) (h1 : 0 < x) (h2 : x < 2 ^ R) (h3 : 0 < y) (h4 : y < 2 ^ C) {u v : Int32} (e1 : u = bcE (nI x)) (e2 : v = bcE (nI y)) (h : u = v) : 0 < x ∧ x < 2 ^ R ∧ 0 < y ∧ y < 2 ^ C ∧ pc5 x = pc5 x ∧ pc5 y = pc5 x := by
  refine ⟨h1, h2, h3, h4, rfl, ?_⟩
  have a1 := p32 (by omega) h2
  have a2 := p32 hC h4
  exact (dv_pc e1 rfl e2 h.symm a1 a2).symm
theorem how_no {z : Int32} (h0 : ¬ z < 0) (h2 : z ≤ 2) (a : ¬ z = 2) (b : ¬ z = 0) (c : ¬ z = 1) : False := by
  obtain ⟨j, hj, rfl⟩ := nI_of h0
  have h2 : nI j ≤ nI 2 := h2
  have a : ¬ nI j = nI 2 := a
  have b : ¬ nI j = nI 0 := b
  have c : ¬ nI j = nI 1 := c
  rw [nI_leI hj (by omega)] at h2
  rw [nI_eq hj (by omega)] at a b c
  omega

set_option maxHeartbeats 4000000 in
set_option maxRecDepth 100000 in
theorem k_X10_sow (κ : Kt) (l : Launch) (w : va_W) (a r : Nat → Nat) (f : Nat → Nat → Int64) (q : Nat → Int32) (y : Int32) (z : Int32) (v : Int32) (hm : mok r f) : CM κ l yX10_sow cX10_sow 9 (some .int) 2 45 0 0 [.ref (a 0), .int y, .int z, .int v] (mw κ a r f q (tb a) w) (fun o w' => ∃ (x : Int32) (a' : Nat → Nat) (r' : Nat → Nat) (f' : Nat → Nat → Int64) (q' : Nat → Int32), o = some (.int x) ∧ (a' 0 = a 0) ∧ (mok r' f') ∧ (q' 2 = q 2) ∧ w' = mw κ a' r' f' q' (tb a') w) := by
  refine CM_begin (plainFor_of_name (by decide)) (Nat.le_of_ble_eq_true rfl) ?_
  intro p e s m args below meth c A Q hX hnm hA3 hQ hB ls hl
  have hx := hX.1.1
  have hb := hX.1.2.1
  have hl : lv_has ls 9 [(0, .ref (a 0)), (1, .int y), (2, .int z), (3, .int v)] := hl
  refine lv_aload_n hx hb dX10_sow_0 rfl (lv_at hl 0 rfl) ?_
  refine lv_iload_n hx hb dX10_sow_1 rfl (lv_at hl 1 rfl) ?_
  refine call_S (n := 1) (As := [.int y]) (rest := [.ref (a 0)]) hX hB (k_X10_isTable κ l (mw κ a r f q (tb a) w) y) ⟨by decide, by decide, by decide +kernel⟩ wm_5_182 wm_5_183 wm_1_6 wm_5_184 ⟨Nat.le_of_ble_eq_true rfl, Nat.le_of_ble_eq_true rfl⟩ ⟨Nat.le_of_ble_eq_true rfl, Nat.le_of_ble_eq_true rfl⟩ rfl hl.1 rfl (Nat.le_of_ble_eq_true rfl) dX10_sow_2 (fun o w' H locs hp hB => ?_)
  obtain ⟨z1, rfl, hf2, hw9⟩ := hp
  replace hB : Bd κ A s (mw κ a r f q (tb a) w) H locs := by rw [hw9] at hB; exact hB
  rcases hf2 with rfl | ⟨rfl, hz3a, hz3b⟩
  · refine W.eq (g2 := F0 m 5 ls [.int 0, .ref (a 0)]) rfl ?_
    refine lv_if_ne (tgt := 12) hx hb dX10_sow_5 (by decide) (fun c4 => False.elim (by revert c4; decide)) (fun _ => ?_)
    refine lv_iconst (v := 1) hx hb dX10_sow_8 (by decide) ?_
    refine lv_goto (tgt := 13) hx hb dX10_sow_9 (by decide) ?_
    refine lv_iload_n hx hb dX10_sow_13 rfl (lv_at hl 2 rfl) ?_
    refine lv_if_lt (tgt := 33) hx hb dX10_sow_14 (by decide) (fun c5 => ?_) (fun c5 => ?_)
    · refine lv_iconst (v := 1) hx hb dX10_sow_33 (by decide) ?_
      refine lv_goto (tgt := 38) hx hb dX10_sow_34 (by decide) ?_
      refine call_V (n := 2) (k0 := 0) (As := [.int 1, .int 1]) (rest := []) hX hB (k_X10_isThrown_ κ l (mw κ a r f q (tb a) w) 0 (a 0) (a 1) (q 0) (q 1) (q 2) (q 3) 1 1 (mw0x (a := a) (r := r) (f := f) (q := q) (T := tb a) (w := w) rfl)) ⟨rfl, by decide, by decide, by decide +kernel⟩ wm_5_188 wm_5_190 wp_27 wm_1_6 wm_5_191 ⟨Nat.le_of_ble_eq_true rfl, Nat.le_of_ble_eq_true rfl⟩ ⟨Nat.le_of_ble_eq_true rfl, Nat.le_of_ble_eq_true rfl⟩ (mw0x (a := a) (r := r) (f := f) (q := q) (T := tb a) (w := w) rfl) rfl rfl rfl hl.1 rfl (Nat.le_of_ble_eq_true rfl) dX10_sow_38 (fun o w' H locs hp hB => ?_)
      obtain ⟨x6, t7, rfl, hf8, hw9⟩ := hp
      replace hB : Bd κ A s (mw κ a r f (va_up q 3 t7) (tb a) w) H locs := by exact Bd_eq (mwQ3x rfl _) (by rw [hw9] at hB; exact hB)
      obtain rfl : x6 = 1 := hf8.trans (by decide)
      refine W.eq (g2 := F0 m 41 ls [.int 1]) rfl ?_
      refine lv_if_eq (tgt := 46) hx hb dX10_sow_41 (by decide) (fun c9 => False.elim (by revert c9; decide)) (fun _ => ?_)
      refine lv_iconst (v := 0) hx hb dX10_sow_44 (by decide) ?_
      rw [← hQ]
      exact end_i hX hB hA3 rfl rfl ⟨0, a, r, f, (va_up q 3 t7), rfl, rfl, hm, rfl, rfl⟩ (Nat.le_of_ble_eq_true rfl) (Nat.le_of_ble_eq_true rfl) dX10_sow_45
    · refine lv_iload_n hx hb dX10_sow_17 rfl (lv_at hl 2 rfl) ?_
      refine lv_ldc (own := RX10) (v := 65535) hx hb hX.1.2.2.2.1 (hX.1.2.2.2.2 _ wm_6_2) dX10_sow_18 ?_
      refine lv_icmp_gt (tgt := 33) hx hb dX10_sow_20 (by decide) (fun c10 => ?_) (fun c10 => ?_)
      · refine lv_iconst (v := 1) hx hb dX10_sow_33 (by decide) ?_
        refine lv_goto (tgt := 38) hx hb dX10_sow_34 (by decide) ?_
        refine call_V (n := 2) (k0 := 0) (As := [.int 1, .int 1]) (rest := []) hX hB (k_X10_isThrown_ κ l (mw κ a r f q (tb a) w) 0 (a 0) (a 1) (q 0) (q 1) (q 2) (q 3) 1 1 (mw0x (a := a) (r := r) (f := f) (q := q) (T := tb a) (w := w) rfl)) ⟨rfl, by decide, by decide, by decide +kernel⟩ wm_5_188 wm_5_190 wp_27 wm_1_6 wm_5_191 ⟨Nat.le_of_ble_eq_true rfl, Nat.le_of_ble_eq_true rfl⟩ ⟨Nat.le_of_ble_eq_true rfl, Nat.le_of_ble_eq_true rfl⟩ (mw0x (a := a) (r := r) (f := f) (q := q) (T := tb a) (w := w) rfl) rfl rfl rfl hl.1 rfl (Nat.le_of_ble_eq_true rfl) dX10_sow_38 (fun o w' H locs hp hB => ?_)
        obtain ⟨x11, t12, rfl, hf13, hw9⟩ := hp
        replace hB : Bd κ A s (mw κ a r f (va_up q 3 t12) (tb a) w) H locs := by exact Bd_eq (mwQ3x rfl _) (by rw [hw9] at hB; exact hB)
        obtain rfl : x11 = 1 := hf13.trans (by decide)
        refine W.eq (g2 := F0 m 41 ls [.int 1]) rfl ?_
        refine lv_if_eq (tgt := 46) hx hb dX10_sow_41 (by decide) (fun c14 => False.elim (by revert c14; decide)) (fun _ => ?_)
        refine lv_iconst (v := 0) hx hb dX10_sow_44 (by decide) ?_
        rw [← hQ]
        exact end_i hX hB hA3 rfl rfl ⟨0, a, r, f, (va_up q 3 t12), rfl, rfl, hm, rfl, rfl⟩ (Nat.le_of_ble_eq_true rfl) (Nat.le_of_ble_eq_true rfl) dX10_sow_45
      · refine lv_iload_n hx hb dX10_sow_23 rfl (lv_at hl 3 rfl) ?_
        refine lv_if_lt (tgt := 33) hx hb dX10_sow_24 (by decide) (fun c15 => ?_) (fun c15 => ?_)
        · refine lv_iconst (v := 1) hx hb dX10_sow_33 (by decide) ?_
          refine lv_goto (tgt := 38) hx hb dX10_sow_34 (by decide) ?_
          refine call_V (n := 2) (k0 := 0) (As := [.int 1, .int 1]) (rest := []) hX hB (k_X10_isThrown_ κ l (mw κ a r f q (tb a) w) 0 (a 0) (a 1) (q 0) (q 1) (q 2) (q 3) 1 1 (mw0x (a := a) (r := r) (f := f) (q := q) (T := tb a) (w := w) rfl)) ⟨rfl, by decide, by decide, by decide +kernel⟩ wm_5_188 wm_5_190 wp_27 wm_1_6 wm_5_191 ⟨Nat.le_of_ble_eq_true rfl, Nat.le_of_ble_eq_true rfl⟩ ⟨Nat.le_of_ble_eq_true rfl, Nat.le_of_ble_eq_true rfl⟩ (mw0x (a := a) (r := r) (f := f) (q := q) (T := tb a) (w := w) rfl) rfl rfl rfl hl.1 rfl (Nat.le_of_ble_eq_true rfl) dX10_sow_38 (fun o w' H locs hp hB => ?_)
          obtain ⟨x16, t17, rfl, hf18, hw9⟩ := hp
          replace hB : Bd κ A s (mw κ a r f (va_up q 3 t17) (tb a) w) H locs := by exact Bd_eq (mwQ3x rfl _) (by rw [hw9] at hB; exact hB)
          obtain rfl : x16 = 1 := hf18.trans (by decide)
          refine W.eq (g2 := F0 m 41 ls [.int 1]) rfl ?_
          refine lv_if_eq (tgt := 46) hx hb dX10_sow_41 (by decide) (fun c19 => False.elim (by revert c19; decide)) (fun _ => ?_)
          refine lv_iconst (v := 0) hx hb dX10_sow_44 (by decide) ?_
          rw [← hQ]
          exact end_i hX hB hA3 rfl rfl ⟨0, a, r, f, (va_up q 3 t17), rfl, rfl, hm, rfl, rfl⟩ (Nat.le_of_ble_eq_true rfl) (Nat.le_of_ble_eq_true rfl) dX10_sow_45
        · refine lv_iload_n hx hb dX10_sow_27 rfl (lv_at hl 3 rfl) ?_
          refine lv_bipush (v := 20) hx hb dX10_sow_28 (by decide) ?_
          refine lv_icmp_le (tgt := 37) hx hb dX10_sow_30 (by decide) (fun c20 => ?_) (fun c20 => ?_)
          · refine lv_iconst (v := 0) hx hb dX10_sow_37 (by decide) ?_
            refine call_V (n := 2) (k0 := 0) (As := [.int 1, .int 0]) (rest := []) hX hB (k_X10_isThrown_ κ l (mw κ a r f q (tb a) w) 0 (a 0) (a 1) (q 0) (q 1) (q 2) (q 3) 1 0 (mw0x (a := a) (r := r) (f := f) (q := q) (T := tb a) (w := w) rfl)) ⟨rfl, by decide, by decide, by decide +kernel⟩ wm_5_188 wm_5_190 wp_27 wm_1_6 wm_5_191 ⟨Nat.le_of_ble_eq_true rfl, Nat.le_of_ble_eq_true rfl⟩ ⟨Nat.le_of_ble_eq_true rfl, Nat.le_of_ble_eq_true rfl⟩ (mw0x (a := a) (r := r) (f := f) (q := q) (T := tb a) (w := w) rfl) rfl rfl rfl hl.1 rfl (Nat.le_of_ble_eq_true rfl) dX10_sow_38 (fun o w' H locs hp hB => ?_)
            obtain ⟨x21, t22, rfl, hf23, hw9⟩ := hp
            replace hB : Bd κ A s (mw κ a r f (va_up q 3 t22) (tb a) w) H locs := by exact Bd_eq (mwQ3x rfl _) (by rw [hw9] at hB; exact hB)
            obtain rfl : x21 = 1 := hf23.trans (by decide)
            refine W.eq (g2 := F0 m 41 ls [.int 1]) rfl ?_
            refine lv_if_eq (tgt := 46) hx hb dX10_sow_41 (by decide) (fun c24 => False.elim (by revert c24; decide)) (fun _ => ?_)
            refine lv_iconst (v := 0) hx hb dX10_sow_44 (by decide) ?_
            rw [← hQ]
            exact end_i hX hB hA3 rfl rfl ⟨0, a, r, f, (va_up q 3 t22), rfl, rfl, hm, rfl, rfl⟩ (Nat.le_of_ble_eq_true rfl) (Nat.le_of_ble_eq_true rfl) dX10_sow_45
          · refine lv_iconst (v := 1) hx hb dX10_sow_33 (by decide) ?_
            refine lv_goto (tgt := 38) hx hb dX10_sow_34 (by decide) ?_
            refine call_V (n := 2) (k0 := 0) (As := [.int 1, .int 1]) (rest := []) hX hB (k_X10_isThrown_ κ l (mw κ a r f q (tb a) w) 0 (a 0) (a 1) (q 0) (q 1) (q 2) (q 3) 1 1 (mw0x (a := a) (r := r) (f := f) (q := q) (T := tb a) (w := w) rfl)) ⟨rfl, by decide, by decide, by decide +kernel⟩ wm_5_188 wm_5_190 wp_27 wm_1_6 wm_5_191 ⟨Nat.le_of_ble_eq_true rfl, Nat.le_of_ble_eq_true rfl⟩ ⟨Nat.le_of_ble_eq_true rfl, Nat.le_of_ble_eq_true rfl⟩ (mw0x (a := a) (r := r) (f := f) (q := q) (T := tb a) (w := w) rfl) rfl rfl rfl hl.1 rfl (Nat.le_of_ble_eq_true rfl) dX10_sow_38 (fun o w' H locs hp hB => ?_)
            obtain ⟨x25, t26, rfl, hf27, hw9⟩ := hp
            replace hB : Bd κ A s (mw κ a r f (va_up q 3 t26) (tb a) w) H locs := by exact Bd_eq (mwQ3x rfl _) (by rw [hw9] at hB; exact hB)
            obtain rfl : x25 = 1 := hf27.trans (by decide)
            refine W.eq (g2 := F0 m 41 ls [.int 1]) rfl ?_
            refine lv_if_eq (tgt := 46) hx hb dX10_sow_41 (by decide) (fun c28 => False.elim (by revert c28; decide)) (fun _ => ?_)
            refine lv_iconst (v := 0) hx hb dX10_sow_44 (by decide) ?_
            rw [← hQ]
            exact end_i hX hB hA3 rfl rfl ⟨0, a, r, f, (va_up q 3 t26), rfl, rfl, hm, rfl, rfl⟩ (Nat.le_of_ble_eq_true rfl) (Nat.le_of_ble_eq_true rfl) dX10_sow_45
  · refine W.eq (g2 := F0 m 5 ls [.int 1, .ref (a 0)]) rfl ?_
    refine lv_if_ne (tgt := 12) hx hb dX10_sow_5 (by decide) (fun _ => ?_) (fun c29 => False.elim (by revert c29; decide))
    refine lv_iconst (v := 0) hx hb dX10_sow_12 (by decide) ?_
    refine lv_iload_n hx hb dX10_sow_13 rfl (lv_at hl 2 rfl) ?_
    refine lv_if_lt (tgt := 33) hx hb dX10_sow_14 (by decide) (fun c30 => ?_) (fun c30 => ?_)
    · refine lv_iconst (v := 1) hx hb dX10_sow_33 (by decide) ?_
      refine lv_goto (tgt := 38) hx hb dX10_sow_34 (by decide) ?_
      refine call_V (n := 2) (k0 := 0) (As := [.int 0, .int 1]) (rest := []) hX hB (k_X10_isThrown_ κ l (mw κ a r f q (tb a) w) 0 (a 0) (a 1) (q 0) (q 1) (q 2) (q 3) 0 1 (mw0x (a := a) (r := r) (f := f) (q := q) (T := tb a) (w := w) rfl)) ⟨rfl, by decide, by decide, by decide +kernel⟩ wm_5_188 wm_5_190 wp_27 wm_1_6 wm_5_191 ⟨Nat.le_of_ble_eq_true rfl, Nat.le_of_ble_eq_true rfl⟩ ⟨Nat.le_of_ble_eq_true rfl, Nat.le_of_ble_eq_true rfl⟩ (mw0x (a := a) (r := r) (f := f) (q := q) (T := tb a) (w := w) rfl) rfl rfl rfl hl.1 rfl (Nat.le_of_ble_eq_true rfl) dX10_sow_38 (fun o w' H locs hp hB => ?_)
      obtain ⟨x31, t32, rfl, hf33, hw9⟩ := hp
      replace hB : Bd κ A s (mw κ a r f (va_up q 3 t32) (tb a) w) H locs := by exact Bd_eq (mwQ3x rfl _) (by rw [hw9] at hB; exact hB)
      obtain rfl : x31 = 1 := hf33.trans (by decide)
      refine W.eq (g2 := F0 m 41 ls [.int 1]) rfl ?_
      refine lv_if_eq (tgt := 46) hx hb dX10_sow_41 (by decide) (fun c34 => False.elim (by revert c34; decide)) (fun _ => ?_)
      refine lv_iconst (v := 0) hx hb dX10_sow_44 (by decide) ?_
      rw [← hQ]
      exact end_i hX hB hA3 rfl rfl ⟨0, a, r, f, (va_up q 3 t32), rfl, rfl, hm, rfl, rfl⟩ (Nat.le_of_ble_eq_true rfl) (Nat.le_of_ble_eq_true rfl) dX10_sow_45
    · refine lv_iload_n hx hb dX10_sow_17 rfl (lv_at hl 2 rfl) ?_
      refine lv_ldc (own := RX10) (v := 65535) hx hb hX.1.2.2.2.1 (hX.1.2.2.2.2 _ wm_6_2) dX10_sow_18 ?_
      refine lv_icmp_gt (tgt := 33) hx hb dX10_sow_20 (by decide) (fun c35 => ?_) (fun c35 => ?_)
      · refine lv_iconst (v := 1) hx hb dX10_sow_33 (by decide) ?_
        refine lv_goto (tgt := 38) hx hb dX10_sow_34 (by decide) ?_
        refine call_V (n := 2) (k0 := 0) (As := [.int 0, .int 1]) (rest := []) hX hB (k_X10_isThrown_ κ l (mw κ a r f q (tb a) w) 0 (a 0) (a 1) (q 0) (q 1) (q 2) (q 3) 0 1 (mw0x (a := a) (r := r) (f := f) (q := q) (T := tb a) (w := w) rfl)) ⟨rfl, by decide, by decide, by decide +kernel⟩ wm_5_188 wm_5_190 wp_27 wm_1_6 wm_5_191 ⟨Nat.le_of_ble_eq_true rfl, Nat.le_of_ble_eq_true rfl⟩ ⟨Nat.le_of_ble_eq_true rfl, Nat.le_of_ble_eq_true rfl⟩ (mw0x (a := a) (r := r) (f := f) (q := q) (T := tb a) (w := w) rfl) rfl rfl rfl hl.1 rfl (Nat.le_of_ble_eq_true rfl) dX10_sow_38 (fun o w' H locs hp hB => ?_)
        obtain ⟨x36, t37, rfl, hf38, hw9⟩ := hp
        replace hB : Bd κ A s (mw κ a r f (va_up q 3 t37) (tb a) w) H locs := by exact Bd_eq (mwQ3x rfl _) (by rw [hw9] at hB; exact hB)
        obtain rfl : x36 = 1 := hf38.trans (by decide)
        refine W.eq (g2 := F0 m 41 ls [.int 1]) rfl ?_
        refine lv_if_eq (tgt := 46) hx hb dX10_sow_41 (by decide) (fun c39 => False.elim (by revert c39; decide)) (fun _ => ?_)
        refine lv_iconst (v := 0) hx hb dX10_sow_44 (by decide) ?_
        rw [← hQ]
        exact end_i hX hB hA3 rfl rfl ⟨0, a, r, f, (va_up q 3 t37), rfl, rfl, hm, rfl, rfl⟩ (Nat.le_of_ble_eq_true rfl) (Nat.le_of_ble_eq_true rfl) dX10_sow_45
      · refine lv_iload_n hx hb dX10_sow_23 rfl (lv_at hl 3 rfl) ?_
        refine lv_if_lt (tgt := 33) hx hb dX10_sow_24 (by decide) (fun c40 => ?_) (fun c40 => ?_)
        · refine lv_iconst (v := 1) hx hb dX10_sow_33 (by decide) ?_
          refine lv_goto (tgt := 38) hx hb dX10_sow_34 (by decide) ?_
          refine call_V (n := 2) (k0 := 0) (As := [.int 0, .int 1]) (rest := []) hX hB (k_X10_isThrown_ κ l (mw κ a r f q (tb a) w) 0 (a 0) (a 1) (q 0) (q 1) (q 2) (q 3) 0 1 (mw0x (a := a) (r := r) (f := f) (q := q) (T := tb a) (w := w) rfl)) ⟨rfl, by decide, by decide, by decide +kernel⟩ wm_5_188 wm_5_190 wp_27 wm_1_6 wm_5_191 ⟨Nat.le_of_ble_eq_true rfl, Nat.le_of_ble_eq_true rfl⟩ ⟨Nat.le_of_ble_eq_true rfl, Nat.le_of_ble_eq_true rfl⟩ (mw0x (a := a) (r := r) (f := f) (q := q) (T := tb a) (w := w) rfl) rfl rfl rfl hl.1 rfl (Nat.le_of_ble_eq_true rfl) dX10_sow_38 (fun o w' H locs hp hB => ?_)
          obtain ⟨x41, t42, rfl, hf43, hw9⟩ := hp
          replace hB : Bd κ A s (mw κ a r f (va_up q 3 t42) (tb a) w) H locs := by exact Bd_eq (mwQ3x rfl _) (by rw [hw9] at hB; exact hB)
          obtain rfl : x41 = 1 := hf43.trans (by decide)
          refine W.eq (g2 := F0 m 41 ls [.int 1]) rfl ?_
          refine lv_if_eq (tgt := 46) hx hb dX10_sow_41 (by decide) (fun c44 => False.elim (by revert c44; decide)) (fun _ => ?_)
          refine lv_iconst (v := 0) hx hb dX10_sow_44 (by decide) ?_
          rw [← hQ]
          exact end_i hX hB hA3 rfl rfl ⟨0, a, r, f, (va_up q 3 t42), rfl, rfl, hm, rfl, rfl⟩ (Nat.le_of_ble_eq_true rfl) (Nat.le_of_ble_eq_true rfl) dX10_sow_45
        · refine lv_iload_n hx hb dX10_sow_27 rfl (lv_at hl 3 rfl) ?_
          refine lv_bipush (v := 20) hx hb dX10_sow_28 (by decide) ?_
          refine lv_icmp_le (tgt := 37) hx hb dX10_sow_30 (by decide) (fun c45 => ?_) (fun c45 => ?_)
          · refine lv_iconst (v := 0) hx hb dX10_sow_37 (by decide) ?_
            refine call_V (n := 2) (k0 := 0) (As := [.int 0, .int 0]) (rest := []) hX hB (k_X10_isThrown_ κ l (mw κ a r f q (tb a) w) 0 (a 0) (a 1) (q 0) (q 1) (q 2) (q 3) 0 0 (mw0x (a := a) (r := r) (f := f) (q := q) (T := tb a) (w := w) rfl)) ⟨rfl, by decide, by decide, by decide +kernel⟩ wm_5_188 wm_5_190 wp_27 wm_1_6 wm_5_191 ⟨Nat.le_of_ble_eq_true rfl, Nat.le_of_ble_eq_true rfl⟩ ⟨Nat.le_of_ble_eq_true rfl, Nat.le_of_ble_eq_true rfl⟩ (mw0x (a := a) (r := r) (f := f) (q := q) (T := tb a) (w := w) rfl) rfl rfl rfl hl.1 rfl (Nat.le_of_ble_eq_true rfl) dX10_sow_38 (fun o w' H locs hp hB => ?_)
            obtain ⟨x46, t47, rfl, hf48, hw9⟩ := hp
            replace hB : Bd κ A s (mw κ a r f (va_up q 3 t47) (tb a) w) H locs := by exact Bd_eq (mwQ3x rfl _) (by rw [hw9] at hB; exact hB)
            obtain rfl : x46 = 0 := hf48.trans (by decide)
            refine W.eq (g2 := F0 m 41 ls [.int 0]) rfl ?_
            refine lv_if_eq (tgt := 46) hx hb dX10_sow_41 (by decide) (fun _ => ?_) (fun c49 => False.elim (by revert c49; decide))
            refine lv_aload_n hx hb dX10_sow_46 rfl (lv_at hl 0 rfl) ?_
            refine gf (k0 := 0) hX hB (mw0x (a := a) (r := r) (f := f) (q := (va_up q 3 t47)) (T := tb a) (w := w) rfl) rfl in10 0 (by decide) wm_5_162 rfl rfl dX10_sow_47 ?_
            refine lv_iload_n hx hb dX10_sow_50 rfl (lv_at hl 1 rfl) ?_
            refine aaldM (k0 := 1) hX hB (mw1 (a := a) (r := r) (f := f) (q := (va_up q 3 t47)) (T := tb a) (w := w)) (vp_in_mk (by assumption) (by assumption)) rfl dX10_sow_51 ?_
            have hb50 := mok_r hm y.toNatClampNeg (by omega)
            refine lv_astore (lv' := [(4, .ref (a (2 + 2 * y.toNatClampNeg))), (0, .ref (a 0)), (1, .int y), (2, .int z), (3, .int v)]) hx hb dX10_sow_52 hl (by decide) rfl (fun ls hl => ?_)
            refine lv_iload_n hx hb dX10_sow_54 rfl (lv_at hl 3 rfl) ?_
            refine lv_i2l hx hb dX10_sow_55 rfl ?_
            refine lv_lstore (lv' := [(5, .long ((z).toInt64)), (4, .ref (a (2 + 2 * y.toNatClampNeg))), (0, .ref (a 0)), (1, .int y), (2, .int z), (3, .int v)]) hx hb dX10_sow_56 hl (by decide) rfl (fun ls hl => ?_)
            refine lv_iconst (v := 0) hx hb dX10_sow_58 (by decide) ?_
            refine lv_istore (lv' := [(7, .int 0), (5, .long ((z).toInt64)), (4, .ref (a (2 + 2 * y.toNatClampNeg))), (0, .ref (a 0)), (1, .int y), (2, .int z), (3, .int v)]) hx hb dX10_sow_59 hl (by decide) rfl (fun ls hl => ?_)
            have lp61 : ∀ (nn : Nat) (y7_61 : Nat) (y5_61 : Int64) (F_61 : Nat → Nat → Int64) (H : Heap) (locs : List Loc), (y7_61 ≤ (r (2 * y.toNatClampNeg))) → (0 ≤ (y5_61).toInt ∧ (y5_61).toInt < 65536) → (mok r F_61) → (r (2 * y.toNatClampNeg)) + 1 - y7_61 < nn → Bd κ A s (mw κ a r F_61 (va_up q 3 t47) (tb a) w) H locs → ∀ ls : Array Slot, lv_has ls 9 [(7, .int (nI y7_61)), (5, .long y5_61), (4, .ref (a (2 + 2 * y.toNatClampNeg))), (0, .ref (a 0)), (1, .int y), (2, .int z), (3, .int v)] → W p l e (Rm 2 45 0 0) s m args below meth c H locs 0 0 Q (F0 m 61 ls []) := by
              intro nn
              induction nn with
              | zero => intro y7_61 y5_61 F_61 H locs hn7_61 hx61 hk61 hμ; exact absurd hμ (Nat.not_lt_zero _)
              | succ nn ih61 =>
                intro y7_61 y5_61 F_61 H locs hn7_61 hx61 hk61 hμ61 hB ls hl
                refine lv_iload hx hb dX10_sow_61 (lv_at hl 0 rfl) ?_
                refine lv_aload hx hb dX10_sow_63 (lv_at hl 2 rfl) ?_
                refine gf (k0 := 2 + 2 * y.toNatClampNeg) hX hB (mwG (i := y.toNatClampNeg) (a := a) (r := r) (f := F_61) (q := (va_up q 3 t47)) (T := tb a) (w := w) (by omega)) rfl in7 0 (by decide) wm_5_148 rfl rfl dX10_sow_65 ?_
                refine lv_icmp_ge (tgt := 137) hx hb dX10_sow_68 (by decide) (fun c61 => ?_) (fun c61 => ?_)
                · rw [nleP (a := r (2 * y.toNatClampNeg)) (b := y7_61) (by omega) (by omega)] at c61
                  refine lv_aload_n hx hb dX10_sow_137 rfl (lv_at hl 3 rfl) ?_
                  refine lv_aload hx hb dX10_sow_138 (lv_at hl 2 rfl) ?_
                  refine gf (k0 := 2 + 2 * y.toNatClampNeg) hX hB (mwG (i := y.toNatClampNeg) (a := a) (r := r) (f := F_61) (q := (va_up q 3 t47)) (T := tb a) (w := w) (by omega)) rfl in7 0 (by decide) wm_5_148 rfl rfl dX10_sow_140 ?_
                  refine lv_aload hx hb dX10_sow_143 (lv_at hl 2 rfl) ?_
                  refine gf (k0 := 2 + 2 * y.toNatClampNeg) hX hB (mwG (i := y.toNatClampNeg) (a := a) (r := r) (f := F_61) (q := (va_up q 3 t47)) (T := tb a) (w := w) (by omega)) rfl in7 1 (by decide) wm_5_152 rfl rfl dX10_sow_145 ?_
                  refine lv_imul hx hb dX10_sow_148 ?_
                  refine eqi (y := nI ((r (2 * y.toNatClampNeg)) * (r (2 * y.toNatClampNeg + 1)))) (nI_mul (r (2 * y.toNatClampNeg)) (r (2 * y.toNatClampNeg + 1))) ?_
                  refine lv_aload hx hb dX10_sow_149 (lv_at hl 2 rfl) ?_
                  refine call_V (n := 0) (k0 := (2 + 2 * y.toNatClampNeg)) (As := []) (rest := [.int (nI ((r (2 * y.toNatClampNeg)) * (r (2 * y.toNatClampNeg + 1)))), .ref (a 0)]) hX hB (k_X7_others κ l (mw κ a r F_61 (va_up q 3 t47) (tb a) w) (2 + 2 * y.toNatClampNeg) (3 + 2 * y.toNatClampNeg) (a (2 + 2 * y.toNatClampNeg)) (a (3 + 2 * y.toNatClampNeg)) (r (2 * y.toNatClampNeg)) (r (2 * y.toNatClampNeg + 1)) (F_61 y.toNatClampNeg) (mwG (i := y.toNatClampNeg) (a := a) (r := r) (f := F_61) (q := (va_up q 3 t47)) (T := tb a) (w := w) (by omega)) (mwA (i := y.toNatClampNeg) (a := a) (r := r) (f := F_61) (q := (va_up q 3 t47)) (T := tb a) (w := w) (by omega)) (mok_shp (i := y.toNatClampNeg) hm (by omega))) ⟨rfl, by decide, by decide, by decide +kernel⟩ wm_5_200 wm_5_201 wm_5_202 wm_1_7 wm_5_203 ⟨Nat.le_of_ble_eq_true rfl, Nat.le_of_ble_eq_true rfl⟩ ⟨Nat.le_of_ble_eq_true rfl, Nat.le_of_ble_eq_true rfl⟩ (mwG (i := y.toNatClampNeg) (a := a) (r := r) (f := F_61) (q := (va_up q 3 t47)) (T := tb a) (w := w) (by omega)) rfl rfl rfl hl.1 rfl (Nat.le_of_ble_eq_true rfl) dX10_sow_151 (fun o w' H locs hp hB => ?_)
                  obtain ⟨x62, rfl, hw9⟩ := hp
                  replace hB : Bd κ A s (mw κ a r F_61 (va_up q 3 t47) (tb a) w) H locs := by rw [hw9] at hB; exact hB
                  refine W.eq (g2 := F0 m 154 ls [.int x62, .int (nI ((r (2 * y.toNatClampNeg)) * (r (2 * y.toNatClampNeg + 1)))), .ref (a 0)]) rfl ?_
                  refine lv_isub hx hb dX10_sow_154 ?_
                  refine call_V (n := 1) (k0 := 0) (As := [.int ((nI ((r (2 * y.toNatClampNeg)) * (r (2 * y.toNatClampNeg + 1)))) - x62)]) (rest := []) hX hB (k_X10_told κ l (mw κ a r F_61 (va_up q 3 t47) (tb a) w) 0 (a 0) (a 1) ((va_up q 3 t47) 0) ((va_up q 3 t47) 1) ((va_up q 3 t47) 2) ((va_up q 3 t47) 3) ((nI ((r (2 * y.toNatClampNeg)) * (r (2 * y.toNatClampNeg + 1)))) - x62) (mw0x (a := a) (r := r) (f := F_61) (q := (va_up q 3 t47)) (T := tb a) (w := w) rfl)) ⟨rfl, by decide, by decide, by decide +kernel⟩ wm_5_204 wm_5_206 wp_30 wm_1_6 wm_5_207 ⟨Nat.le_of_ble_eq_true rfl, Nat.le_of_ble_eq_true rfl⟩ ⟨Nat.le_of_ble_eq_true rfl, Nat.le_of_ble_eq_true rfl⟩ (mw0x (a := a) (r := r) (f := F_61) (q := (va_up q 3 t47)) (T := tb a) (w := w) rfl) rfl rfl rfl hl.1 rfl (Nat.le_of_ble_eq_true rfl) dX10_sow_155 (fun o w' H locs hp hB => ?_)
                  obtain ⟨rfl, hw9⟩ := hp
                  replace hB : Bd κ A s (mw κ a r F_61 (va_up (va_up q 3 t47) 0 (((va_up q 3 t47) 0) + 1)) (tb a) w) H locs := by exact Bd_eq (mwQ0x rfl _) (by rw [hw9] at hB; exact hB)
                  refine W.eq (g2 := F0 m 158 ls [.int ((nI ((r (2 * y.toNatClampNeg)) * (r (2 * y.toNatClampNeg + 1)))) - x62)]) rfl ?_
                  rw [← hQ]
                  exact end_i hX hB hA3 rfl rfl ⟨((nI ((r (2 * y.toNatClampNeg)) * (r (2 * y.toNatClampNeg + 1)))) - x62), a, r, F_61, (va_up (va_up q 3 t47) 0 (((va_up q 3 t47) 0) + 1)), rfl, rfl, hk61, rfl, rfl⟩ (Nat.le_of_ble_eq_true rfl) (Nat.le_of_ble_eq_true rfl) dX10_sow_158
                · rw [nleP (a := r (2 * y.toNatClampNeg)) (b := y7_61) (by omega) (by omega)] at c61
                  refine lv_iconst (v := 0) hx hb dX10_sow_71 (by decide) ?_
                  refine lv_istore (lv' := [(8, .int 0), (7, .int (nI y7_61)), (5, .long y5_61), (4, .ref (a (2 + 2 * y.toNatClampNeg))), (0, .ref (a 0)), (1, .int y), (2, .int z), (3, .int v)]) hx hb dX10_sow_72 hl (by decide) rfl (fun ls hl => ?_)
                  have lp74 : ∀ (nn : Nat) (y8_74 : Nat) (y5_74 : Int64) (F_74 : Nat → Nat → Int64) (H : Heap) (locs : List Loc), (y8_74 ≤ (r (2 * y.toNatClampNeg + 1))) → (0 ≤ (y5_74).toInt ∧ (y5_74).toInt < 65536) → (mok r F_74) → (r (2 * y.toNatClampNeg + 1)) + 1 - y8_74 < nn → Bd κ A s (mw κ a r F_74 (va_up q 3 t47) (tb a) w) H locs → ∀ ls : Array Slot, lv_has ls 9 [(8, .int (nI y8_74)), (7, .int (nI y7_61)), (5, .long y5_74), (4, .ref (a (2 + 2 * y.toNatClampNeg))), (0, .ref (a 0)), (1, .int y), (2, .int z), (3, .int v)] → W p l e (Rm 2 45 0 0) s m args below meth c H locs 0 0 Q (F0 m 74 ls []) := by
                    intro nn
                    induction nn with
                    | zero => intro y8_74 y5_74 F_74 H locs hn8_74 hx74 hk74 hμ; exact absurd hμ (Nat.not_lt_zero _)
                    | succ nn ih74 =>
                      intro y8_74 y5_74 F_74 H locs hn8_74 hx74 hk74 hμ74 hB ls hl
                      refine lv_iload hx hb dX10_sow_74 (lv_at hl 0 rfl) ?_
                      refine lv_aload hx hb dX10_sow_76 (lv_at hl 3 rfl) ?_
                      refine gf (k0 := 2 + 2 * y.toNatClampNeg) hX hB (mwG (i := y.toNatClampNeg) (a := a) (r := r) (f := F_74) (q := (va_up q 3 t47)) (T := tb a) (w := w) (by omega)) rfl in7 1 (by decide) wm_5_152 rfl rfl dX10_sow_78 ?_
                      refine lv_icmp_ge (tgt := 131) hx hb dX10_sow_81 (by decide) (fun c65 => ?_) (fun c65 => ?_)
                      · rw [nleP (a := r (2 * y.toNatClampNeg + 1)) (b := y8_74) (by omega) (by omega)] at c65
                        refine lv_iinc (v := nI (y7_61 + 1)) (lv' := [(7, .int (nI (y7_61 + 1))), (8, .int (nI y8_74)), (5, .long y5_74), (4, .ref (a (2 + 2 * y.toNatClampNeg))), (0, .ref (a 0)), (1, .int y), (2, .int z), (3, .int v)]) hx hb dX10_sow_131 hl (k := 1) rfl (nI_add y7_61 1) (by decide) rfl (fun ls hl => ?_)
                        refine lv_goto (tgt := 61) hx hb dX10_sow_134 (by decide) ?_
                        exact ih61 (y7_61 + 1) y5_74 F_74 _ _ (by omega) hx74 hk74 (by omega) hB _ (lv_sub hl [0, 2, 3, 4, 5, 6, 7] rfl)
                      · rw [nleP (a := r (2 * y.toNatClampNeg + 1)) (b := y8_74) (by omega) (by omega)] at c65
                        refine lv_lload hx hb dX10_sow_84 (lv_at hl 2 rfl) ?_
                        refine lv_ldc2 (own := RX10) (v := 25173) hx hb hX.1.2.2.2.1 (hX.1.2.2.2.2 _ wm_6_3) dX10_sow_86 ?_
                        refine lv_lmul hx hb dX10_sow_89 ?_
                        refine lv_ldc2 (own := RX10) (v := 13849) hx hb hX.1.2.2.2.1 (hX.1.2.2.2.2 _ wm_6_4) dX10_sow_90 ?_
                        refine lv_ladd hx hb dX10_sow_93 ?_
                        refine lv_ldc2 (own := RX10) (v := 65536) hx hb hX.1.2.2.2.1 (hX.1.2.2.2.2 _ wm_6_5) dX10_sow_94 ?_
                        refine lv_lrem hx hb dX10_sow_97 (by decide) ?_
                        refine lv_lstore (lv' := [(5, .long (((y5_74 * 25173) + 13849) - ((y5_74 * 25173) + 13849) / 65536 * 65536)), (8, .int (nI y8_74)), (7, .int (nI y7_61)), (4, .ref (a (2 + 2 * y.toNatClampNeg))), (0, .ref (a 0)), (1, .int y), (2, .int z), (3, .int v)]) hx hb dX10_sow_98 hl (by decide) rfl (fun ls hl => ?_)
                        refine lv_aload hx hb dX10_sow_100 (lv_at hl 3 rfl) ?_
                        refine lv_iload hx hb dX10_sow_102 (lv_at hl 2 rfl) ?_
                        refine lv_iload hx hb dX10_sow_104 (lv_at hl 1 rfl) ?_
                        refine lv_lload hx hb dX10_sow_106 (lv_at hl 0 rfl) ?_
                        refine lv_ldc2 (own := RX10) (v := 64) hx hb hX.1.2.2.2.1 (hX.1.2.2.2.2 _ wm_6_6) dX10_sow_108 ?_
                        refine lv_ldiv hx hb dX10_sow_111 (by decide) ?_
                        refine lv_iconst (v := 2) hx hb dX10_sow_112 (by decide) ?_
                        refine lv_iload_n hx hb dX10_sow_113 rfl (lv_at hl 7 rfl) ?_
                        refine lv_imul hx hb dX10_sow_114 ?_
                        refine lv_iconst (v := 1) hx hb dX10_sow_115 (by decide) ?_
                        refine lv_iadd hx hb dX10_sow_116 ?_
                        refine lv_i2l hx hb dX10_sow_117 rfl ?_
                        refine lv_lrem hx hb dX10_sow_118 (sow_nz (by assumption) (by assumption)) ?_
                        refine lv_iload_n hx hb dX10_sow_119 rfl (lv_at hl 7 rfl) ?_
                        refine lv_i2l hx hb dX10_sow_120 rfl ?_
                        refine lv_lsub hx hb dX10_sow_121 ?_
                        refine call_V (n := 3) (k0 := (2 + 2 * y.toNatClampNeg)) (As := [.int (nI y7_61), .int (nI y8_74), .long ((((((y5_74 * 25173) + 13849) - ((y5_74 * 25173) + 13849) / 65536 * 65536) / 64) - ((((y5_74 * 25173) + 13849) - ((y5_74 * 25173) + 13849) / 65536 * 65536) / 64) / ((((2 * v) + 1)).toInt64) * ((((2 * v) + 1)).toInt64)) - ((v).toInt64))]) (rest := []) hX hB (k_X7_put κ l (mw κ a r F_74 (va_up q 3 t47) (tb a) w) (2 + 2 * y.toNatClampNeg) (3 + 2 * y.toNatClampNeg) (a (2 + 2 * y.toNatClampNeg)) (a (3 + 2 * y.toNatClampNeg)) (r (2 * y.toNatClampNeg)) (r (2 * y.toNatClampNeg + 1)) (F_74 y.toNatClampNeg) (nI y7_61) y7_61 (nI y8_74) y8_74 ((((((y5_74 * 25173) + 13849) - ((y5_74 * 25173) + 13849) / 65536 * 65536) / 64) - ((((y5_74 * 25173) + 13849) - ((y5_74 * 25173) + 13849) / 65536 * 65536) / 64) / ((((2 * v) + 1)).toInt64) * ((((2 * v) + 1)).toInt64)) - ((v).toInt64)) (mwG (i := y.toNatClampNeg) (a := a) (r := r) (f := F_74) (q := (va_up q 3 t47)) (T := tb a) (w := w) (by omega)) (mwA (i := y.toNatClampNeg) (a := a) (r := r) (f := F_74) (q := (va_up q 3 t47)) (T := tb a) (w := w) (by omega)) (mok_shp (i := y.toNatClampNeg) hm (by omega)) rfl rfl (by omega)) ⟨rfl, by decide, by decide, by decide +kernel⟩ wm_5_237 wm_5_218 wm_5_219 wm_1_7 wm_5_220 ⟨Nat.le_of_ble_eq_true rfl, Nat.le_of_ble_eq_true rfl⟩ ⟨Nat.le_of_ble_eq_true rfl, Nat.le_of_ble_eq_true rfl⟩ (mwG (i := y.toNatClampNeg) (a := a) (r := r) (f := F_74) (q := (va_up q 3 t47)) (T := tb a) (w := w) (by omega)) rfl rfl rfl hl.1 rfl (Nat.le_of_ble_eq_true rfl) dX10_sow_122 (fun o w' H locs hp hB => ?_)
                        obtain ⟨rfl, hw9⟩ := hp
                        replace hB : Bd κ A s (mw κ a r (va_up F_74 y.toNatClampNeg (vp_updL (F_74 y.toNatClampNeg) (y7_61 * 5 + y8_74) ((((((y5_74 * 25173) + 13849) - ((y5_74 * 25173) + 13849) / 65536 * 65536) / 64) - ((((y5_74 * 25173) + 13849) - ((y5_74 * 25173) + 13849) / 65536 * 65536) / 64) / ((((2 * v) + 1)).toInt64) * ((((2 * v) + 1)).toInt64)) - ((v).toInt64)))) (va_up q 3 t47) (tb a) w) H locs := by exact Bd_eq (mwUL (i := y.toNatClampNeg) (by omega) _) (by rw [hw9] at hB; exact hB)
                        refine W.eq (g2 := F0 m 125 ls []) rfl ?_
                        refine lv_iinc (v := nI (y8_74 + 1)) (lv' := [(8, .int (nI (y8_74 + 1))), (5, .long (((y5_74 * 25173) + 13849) - ((y5_74 * 25173) + 13849) / 65536 * 65536)), (7, .int (nI y7_61)), (4, .ref (a (2 + 2 * y.toNatClampNeg))), (0, .ref (a 0)), (1, .int y), (2, .int z), (3, .int v)]) hx hb dX10_sow_125 hl (k := 1) rfl (nI_add y8_74 1) (by decide) rfl (fun ls hl => ?_)
                        refine lv_goto (tgt := 74) hx hb dX10_sow_128 (by decide) ?_
                        exact ih74 (y8_74 + 1) (((y5_74 * 25173) + 13849) - ((y5_74 * 25173) + 13849) / 65536 * 65536) (va_up F_74 y.toNatClampNeg (vp_updL (F_74 y.toNatClampNeg) (y7_61 * 5 + y8_74) ((((((y5_74 * 25173) + 13849) - ((y5_74 * 25173) + 13849) / 65536 * 65536) / 64) - ((((y5_74 * 25173) + 13849) - ((y5_74 * 25173) + 13849) / 65536 * 65536) / 64) / ((((2 * v) + 1)).toInt64) * ((((2 * v) + 1)).toInt64)) - ((v).toInt64)))) _ _ (by omega) (sow_x hx74) (mok_f hk74 (sm_upd (hk74 _ (by omega)).2 (sow_sm (by assumption) (by assumption) (div64 (sow_x hx74).1)))) (by omega) hB _ (lv_sub hl [0, 2, 1, 3, 4, 5, 6, 7] rfl)
                  exact lp74 _ 0 y5_61 F_61 _ _ (by omega) hx61 hk61 (Nat.lt_succ_self _) hB _ hl
            exact lp61 _ 0 ((z).toInt64) f _ _ (by omega) (seed_x (by assumption) (by assumption)) hm (Nat.lt_succ_self _) hB _ hl
          · refine lv_iconst (v := 1) hx hb dX10_sow_33 (by decide) ?_
            refine lv_goto (tgt := 38) hx hb dX10_sow_34 (by decide) ?_
            refine call_V (n := 2) (k0 := 0) (As := [.int 0, .int 1]) (rest := []) hX hB (k_X10_isThrown_ κ l (mw κ a r f q (tb a) w) 0 (a 0) (a 1) (q 0) (q 1) (q 2) (q 3) 0 1 (mw0x (a := a) (r := r) (f := f) (q := q) (T := tb a) (w := w) rfl)) ⟨rfl, by decide, by decide, by decide +kernel⟩ wm_5_188 wm_5_190 wp_27 wm_1_6 wm_5_191 ⟨Nat.le_of_ble_eq_true rfl, Nat.le_of_ble_eq_true rfl⟩ ⟨Nat.le_of_ble_eq_true rfl, Nat.le_of_ble_eq_true rfl⟩ (mw0x (a := a) (r := r) (f := f) (q := q) (T := tb a) (w := w) rfl) rfl rfl rfl hl.1 rfl (Nat.le_of_ble_eq_true rfl) dX10_sow_38 (fun o w' H locs hp hB => ?_)
            obtain ⟨x66, t67, rfl, hf68, hw9⟩ := hp
            replace hB : Bd κ A s (mw κ a r f (va_up q 3 t67) (tb a) w) H locs := by exact Bd_eq (mwQ3x rfl _) (by rw [hw9] at hB; exact hB)
            obtain rfl : x66 = 1 := hf68.trans (by decide)
            refine W.eq (g2 := F0 m 41 ls [.int 1]) rfl ?_
            refine lv_if_eq (tgt := 46) hx hb dX10_sow_41 (by decide) (fun c69 => False.elim (by revert c69; decide)) (fun _ => ?_)
            refine lv_iconst (v := 0) hx hb dX10_sow_44 (by decide) ?_
            rw [← hQ]
            exact end_i hX hB hA3 rfl rfl ⟨0, a, r, f, (va_up q 3 t67), rfl, rfl, hm, rfl, rfl⟩ (Nat.le_of_ble_eq_true rfl) (Nat.le_of_ble_eq_true rfl) dX10_sow_45
set_option maxHeartbeats 4000000 in
set_option maxRecDepth 100000 in
theorem k_X10_sum (κ : Kt) (l : Launch) (w : va_W) (a r : Nat → Nat) (f : Nat → Nat → Int64) (q : Nat → Int32) (y : Int32) (z : Int32) (c0 : Int32) (u : Int32) (hm : mok r f) : CM κ l yX10_sum cX10_sum 9 (some .int) 3 64 2 23 [.ref (a 0), .int y, .int z, .int c0, .int u] (mw κ a r f q (tb a) w) (fun o w' => ∃ (x : Int32) (a' : Nat → Nat) (r' : Nat → Nat) (f' : Nat → Nat → Int64) (q' : Nat → Int32), o = some (.int x) ∧ (a' 0 = a 0) ∧ (mok r' f') ∧ (q' 2 = q 2) ∧ w' = mw κ a' r' f' q' (tb a') w) := by
  refine CM_begin (plainFor_of_name (by decide)) (Nat.le_of_ble_eq_true rfl) ?_
  intro p e s m args below meth c A Q hX hnm hA3 hQ hB ls hl
  have hx := hX.1.1
  have hb := hX.1.2.1
  have hl : lv_has ls 9 [(0, .ref (a 0)), (1, .int y), (2, .int z), (3, .int c0), (4, .int u)] := hl
  refine lv_aload_n hx hb dX10_sum_0 rfl (lv_at hl 0 rfl) ?_
  refine lv_iload_n hx hb dX10_sum_1 rfl (lv_at hl 1 rfl) ?_
  refine call_S (n := 1) (As := [.int y]) (rest := [.ref (a 0)]) hX hB (k_X10_isTable κ l (mw κ a r f q (tb a) w) y) ⟨by decide, by decide, by decide +kernel⟩ wm_5_182 wm_5_183 wm_1_6 wm_5_184 ⟨Nat.le_of_ble_eq_true rfl, Nat.le_of_ble_eq_true rfl⟩ ⟨Nat.le_of_ble_eq_true rfl, Nat.le_of_ble_eq_true rfl⟩ rfl hl.1 rfl (Nat.le_of_ble_eq_true rfl) dX10_sum_2 (fun o w' H locs hp hB => ?_)
  obtain ⟨z1, rfl, hf2, hw9⟩ := hp
  replace hB : Bd κ A s (mw κ a r f q (tb a) w) H locs := by rw [hw9] at hB; exact hB
  rcases hf2 with rfl | ⟨rfl, hz3a, hz3b⟩
  · refine W.eq (g2 := F0 m 5 ls [.int 0, .ref (a 0)]) rfl ?_
    refine lv_if_eq (tgt := 23) hx hb dX10_sum_5 (by decide) (fun _ => ?_) (fun c4 => False.elim (by revert c4; decide))
    refine lv_iconst (v := 1) hx hb dX10_sum_23 (by decide) ?_
    refine lv_goto (tgt := 28) hx hb dX10_sum_24 (by decide) ?_
    refine call_V (n := 1) (k0 := 0) (As := [.int 1]) (rest := []) hX hB (k_X10_isThrown__ κ l (mw κ a r f q (tb a) w) 0 (a 0) (a 1) (q 0) (q 1) (q 2) (q 3) 1 (mw0x (a := a) (r := r) (f := f) (q := q) (T := tb a) (w := w) rfl)) ⟨rfl, by decide, by decide, by decide +kernel⟩ wm_6_11 wm_6_13 wp_33 wm_1_6 wm_6_14 ⟨Nat.le_of_ble_eq_true rfl, Nat.le_of_ble_eq_true rfl⟩ ⟨Nat.le_of_ble_eq_true rfl, Nat.le_of_ble_eq_true rfl⟩ (mw0x (a := a) (r := r) (f := f) (q := q) (T := tb a) (w := w) rfl) rfl rfl rfl hl.1 rfl (Nat.le_of_ble_eq_true rfl) dX10_sum_28 (fun o w' H locs hp hB => ?_)
    obtain ⟨x5, t6, rfl, hf7, hw9⟩ := hp
    replace hB : Bd κ A s (mw κ a r f (va_up q 3 t6) (tb a) w) H locs := by exact Bd_eq (mwQ3x rfl _) (by rw [hw9] at hB; exact hB)
    obtain rfl : x5 = 1 := hf7.trans (by decide)
    refine W.eq (g2 := F0 m 31 ls [.int 1]) rfl ?_
    refine lv_if_eq (tgt := 36) hx hb dX10_sum_31 (by decide) (fun c8 => False.elim (by revert c8; decide)) (fun _ => ?_)
    refine lv_iconst (v := 0) hx hb dX10_sum_34 (by decide) ?_
    rw [← hQ]
    exact end_i hX hB hA3 rfl rfl ⟨0, a, r, f, (va_up q 3 t6), rfl, rfl, hm, rfl, rfl⟩ (Nat.le_of_ble_eq_true rfl) (Nat.le_of_ble_eq_true rfl) dX10_sum_35
  · refine W.eq (g2 := F0 m 5 ls [.int 1, .ref (a 0)]) rfl ?_
    refine lv_if_eq (tgt := 23) hx hb dX10_sum_5 (by decide) (fun c9 => False.elim (by revert c9; decide)) (fun _ => ?_)
    refine lv_iload_n hx hb dX10_sum_8 rfl (lv_at hl 2 rfl) ?_
    refine call_S (n := 1) (As := [.int z]) (rest := [.ref (a 0)]) hX hB (k_X10_isTable κ l (mw κ a r f q (tb a) w) z) ⟨by decide, by decide, by decide +kernel⟩ wm_5_182 wm_5_183 wm_1_6 wm_5_184 ⟨Nat.le_of_ble_eq_true rfl, Nat.le_of_ble_eq_true rfl⟩ ⟨Nat.le_of_ble_eq_true rfl, Nat.le_of_ble_eq_true rfl⟩ rfl hl.1 rfl (Nat.le_of_ble_eq_true rfl) dX10_sum_9 (fun o w' H locs hp hB => ?_)
    obtain ⟨z10, rfl, hf11, hw9⟩ := hp
    replace hB : Bd κ A s (mw κ a r f q (tb a) w) H locs := by rw [hw9] at hB; exact hB
    rcases hf11 with rfl | ⟨rfl, hz12a, hz12b⟩
    · refine W.eq (g2 := F0 m 12 ls [.int 0, .ref (a 0)]) rfl ?_
      refine lv_if_eq (tgt := 23) hx hb dX10_sum_12 (by decide) (fun _ => ?_) (fun c13 => False.elim (by revert c13; decide))
      refine lv_iconst (v := 1) hx hb dX10_sum_23 (by decide) ?_
      refine lv_goto (tgt := 28) hx hb dX10_sum_24 (by decide) ?_
      refine call_V (n := 1) (k0 := 0) (As := [.int 1]) (rest := []) hX hB (k_X10_isThrown__ κ l (mw κ a r f q (tb a) w) 0 (a 0) (a 1) (q 0) (q 1) (q 2) (q 3) 1 (mw0x (a := a) (r := r) (f := f) (q := q) (T := tb a) (w := w) rfl)) ⟨rfl, by decide, by decide, by decide +kernel⟩ wm_6_11 wm_6_13 wp_33 wm_1_6 wm_6_14 ⟨Nat.le_of_ble_eq_true rfl, Nat.le_of_ble_eq_true rfl⟩ ⟨Nat.le_of_ble_eq_true rfl, Nat.le_of_ble_eq_true rfl⟩ (mw0x (a := a) (r := r) (f := f) (q := q) (T := tb a) (w := w) rfl) rfl rfl rfl hl.1 rfl (Nat.le_of_ble_eq_true rfl) dX10_sum_28 (fun o w' H locs hp hB => ?_)
      obtain ⟨x14, t15, rfl, hf16, hw9⟩ := hp
      replace hB : Bd κ A s (mw κ a r f (va_up q 3 t15) (tb a) w) H locs := by exact Bd_eq (mwQ3x rfl _) (by rw [hw9] at hB; exact hB)
      obtain rfl : x14 = 1 := hf16.trans (by decide)
      refine W.eq (g2 := F0 m 31 ls [.int 1]) rfl ?_
      refine lv_if_eq (tgt := 36) hx hb dX10_sum_31 (by decide) (fun c17 => False.elim (by revert c17; decide)) (fun _ => ?_)
      refine lv_iconst (v := 0) hx hb dX10_sum_34 (by decide) ?_
      rw [← hQ]
      exact end_i hX hB hA3 rfl rfl ⟨0, a, r, f, (va_up q 3 t15), rfl, rfl, hm, rfl, rfl⟩ (Nat.le_of_ble_eq_true rfl) (Nat.le_of_ble_eq_true rfl) dX10_sum_35
    · refine W.eq (g2 := F0 m 12 ls [.int 1, .ref (a 0)]) rfl ?_
      refine lv_if_eq (tgt := 23) hx hb dX10_sum_12 (by decide) (fun c18 => False.elim (by revert c18; decide)) (fun _ => ?_)
      refine lv_iload hx hb dX10_sum_15 (lv_at hl 4 rfl) ?_
      refine call_S (n := 1) (As := [.int u]) (rest := [.ref (a 0)]) hX hB (k_X10_isTable κ l (mw κ a r f q (tb a) w) u) ⟨by decide, by decide, by decide +kernel⟩ wm_5_182 wm_5_183 wm_1_6 wm_5_184 ⟨Nat.le_of_ble_eq_true rfl, Nat.le_of_ble_eq_true rfl⟩ ⟨Nat.le_of_ble_eq_true rfl, Nat.le_of_ble_eq_true rfl⟩ rfl hl.1 rfl (Nat.le_of_ble_eq_true rfl) dX10_sum_17 (fun o w' H locs hp hB => ?_)
      obtain ⟨z19, rfl, hf20, hw9⟩ := hp
      replace hB : Bd κ A s (mw κ a r f q (tb a) w) H locs := by rw [hw9] at hB; exact hB
      rcases hf20 with rfl | ⟨rfl, hz21a, hz21b⟩
      · refine W.eq (g2 := F0 m 20 ls [.int 0, .ref (a 0)]) rfl ?_
        refine lv_if_ne (tgt := 27) hx hb dX10_sum_20 (by decide) (fun c22 => False.elim (by revert c22; decide)) (fun _ => ?_)
        refine lv_iconst (v := 1) hx hb dX10_sum_23 (by decide) ?_
        refine lv_goto (tgt := 28) hx hb dX10_sum_24 (by decide) ?_
        refine call_V (n := 1) (k0 := 0) (As := [.int 1]) (rest := []) hX hB (k_X10_isThrown__ κ l (mw κ a r f q (tb a) w) 0 (a 0) (a 1) (q 0) (q 1) (q 2) (q 3) 1 (mw0x (a := a) (r := r) (f := f) (q := q) (T := tb a) (w := w) rfl)) ⟨rfl, by decide, by decide, by decide +kernel⟩ wm_6_11 wm_6_13 wp_33 wm_1_6 wm_6_14 ⟨Nat.le_of_ble_eq_true rfl, Nat.le_of_ble_eq_true rfl⟩ ⟨Nat.le_of_ble_eq_true rfl, Nat.le_of_ble_eq_true rfl⟩ (mw0x (a := a) (r := r) (f := f) (q := q) (T := tb a) (w := w) rfl) rfl rfl rfl hl.1 rfl (Nat.le_of_ble_eq_true rfl) dX10_sum_28 (fun o w' H locs hp hB => ?_)
        obtain ⟨x23, t24, rfl, hf25, hw9⟩ := hp
        replace hB : Bd κ A s (mw κ a r f (va_up q 3 t24) (tb a) w) H locs := by exact Bd_eq (mwQ3x rfl _) (by rw [hw9] at hB; exact hB)
        obtain rfl : x23 = 1 := hf25.trans (by decide)
        refine W.eq (g2 := F0 m 31 ls [.int 1]) rfl ?_
        refine lv_if_eq (tgt := 36) hx hb dX10_sum_31 (by decide) (fun c26 => False.elim (by revert c26; decide)) (fun _ => ?_)
        refine lv_iconst (v := 0) hx hb dX10_sum_34 (by decide) ?_
        rw [← hQ]
        exact end_i hX hB hA3 rfl rfl ⟨0, a, r, f, (va_up q 3 t24), rfl, rfl, hm, rfl, rfl⟩ (Nat.le_of_ble_eq_true rfl) (Nat.le_of_ble_eq_true rfl) dX10_sum_35
      · refine W.eq (g2 := F0 m 20 ls [.int 1, .ref (a 0)]) rfl ?_
        refine lv_if_ne (tgt := 27) hx hb dX10_sum_20 (by decide) (fun _ => ?_) (fun c27 => False.elim (by revert c27; decide))
        refine lv_iconst (v := 0) hx hb dX10_sum_27 (by decide) ?_
        refine call_V (n := 1) (k0 := 0) (As := [.int 0]) (rest := []) hX hB (k_X10_isThrown__ κ l (mw κ a r f q (tb a) w) 0 (a 0) (a 1) (q 0) (q 1) (q 2) (q 3) 0 (mw0x (a := a) (r := r) (f := f) (q := q) (T := tb a) (w := w) rfl)) ⟨rfl, by decide, by decide, by decide +kernel⟩ wm_6_11 wm_6_13 wp_33 wm_1_6 wm_6_14 ⟨Nat.le_of_ble_eq_true rfl, Nat.le_of_ble_eq_true rfl⟩ ⟨Nat.le_of_ble_eq_true rfl, Nat.le_of_ble_eq_true rfl⟩ (mw0x (a := a) (r := r) (f := f) (q := q) (T := tb a) (w := w) rfl) rfl rfl rfl hl.1 rfl (Nat.le_of_ble_eq_true rfl) dX10_sum_28 (fun o w' H locs hp hB => ?_)
        obtain ⟨x28, t29, rfl, hf30, hw9⟩ := hp
        replace hB : Bd κ A s (mw κ a r f (va_up q 3 t29) (tb a) w) H locs := by exact Bd_eq (mwQ3x rfl _) (by rw [hw9] at hB; exact hB)
        obtain rfl : x28 = 0 := hf30.trans (by decide)
        refine W.eq (g2 := F0 m 31 ls [.int 0]) rfl ?_
        refine lv_if_eq (tgt := 36) hx hb dX10_sum_31 (by decide) (fun _ => ?_) (fun c31 => False.elim (by revert c31; decide))
        refine lv_aload_n hx hb dX10_sum_36 rfl (lv_at hl 0 rfl) ?_
        refine gf (k0 := 0) hX hB (mw0x (a := a) (r := r) (f := f) (q := (va_up q 3 t29)) (T := tb a) (w := w) rfl) rfl in10 0 (by decide) wm_5_162 rfl rfl dX10_sum_37 ?_
        refine lv_iload_n hx hb dX10_sum_40 rfl (lv_at hl 1 rfl) ?_
        refine aaldM (k0 := 1) hX hB (mw1 (a := a) (r := r) (f := f) (q := (va_up q 3 t29)) (T := tb a) (w := w)) (vp_in_mk (by assumption) (by assumption)) rfl dX10_sum_41 ?_
        have hb32 := mok_r hm y.toNatClampNeg (by omega)
        refine lv_astore (lv' := [(5, .ref (a (2 + 2 * y.toNatClampNeg))), (0, .ref (a 0)), (1, .int y), (2, .int z), (3, .int c0), (4, .int u)]) hx hb dX10_sum_42 hl (by decide) rfl (fun ls hl => ?_)
        refine lv_aload_n hx hb dX10_sum_44 rfl (lv_at hl 1 rfl) ?_
        refine gf (k0 := 0) hX hB (mw0x (a := a) (r := r) (f := f) (q := (va_up q 3 t29)) (T := tb a) (w := w) rfl) rfl in10 0 (by decide) wm_5_162 rfl rfl dX10_sum_45 ?_
        refine lv_iload_n hx hb dX10_sum_48 rfl (lv_at hl 3 rfl) ?_
        refine aaldM (k0 := 1) hX hB (mw1 (a := a) (r := r) (f := f) (q := (va_up q 3 t29)) (T := tb a) (w := w)) (vp_in_mk (by assumption) (by assumption)) rfl dX10_sum_49 ?_
        have hb33 := mok_r hm z.toNatClampNeg (by omega)
        refine lv_astore (lv' := [(6, .ref (a (2 + 2 * z.toNatClampNeg))), (5, .ref (a (2 + 2 * y.toNatClampNeg))), (0, .ref (a 0)), (1, .int y), (2, .int z), (3, .int c0), (4, .int u)]) hx hb dX10_sum_50 hl (by decide) rfl (fun ls hl => ?_)
        refine lv_aload hx hb dX10_sum_52 (lv_at hl 1 rfl) ?_
        refine gf (k0 := 2 + 2 * y.toNatClampNeg) hX hB (mwG (i := y.toNatClampNeg) (a := a) (r := r) (f := f) (q := (va_up q 3 t29)) (T := tb a) (w := w) (by omega)) rfl in7 0 (by decide) wm_5_148 rfl rfl dX10_sum_54 ?_
        refine lv_aload hx hb dX10_sum_57 (lv_at hl 0 rfl) ?_
        refine gf (k0 := 2 + 2 * z.toNatClampNeg) hX hB (mwG (i := z.toNatClampNeg) (a := a) (r := r) (f := f) (q := (va_up q 3 t29)) (T := tb a) (w := w) (by omega)) rfl in7 0 (by decide) wm_5_148 rfl rfl dX10_sum_59 ?_
        refine lv_icmp_ne (tgt := 78) hx hb dX10_sum_62 (by decide) (fun c34 => ?_) (fun c34 => ?_)
        · rw [neqP (a := r (2 * y.toNatClampNeg)) (b := r (2 * z.toNatClampNeg)) (by omega) (by omega)] at c34
          refine lv_aload_n hx hb dX10_sum_78 rfl (lv_at hl 2 rfl) ?_
          refine call_V (n := 0) (k0 := 0) (As := []) (rest := []) hX hB (k_X10_no κ l (mw κ a r f (va_up q 3 t29) (tb a) w) 0 (a 0) (a 1) ((va_up q 3 t29) 0) ((va_up q 3 t29) 1) ((va_up q 3 t29) 2) ((va_up q 3 t29) 3) (mw0x (a := a) (r := r) (f := f) (q := (va_up q 3 t29)) (T := tb a) (w := w) rfl)) ⟨rfl, by decide, by decide, by decide +kernel⟩ wm_6_85 wm_6_87 wp_36 wm_1_6 wm_6_88 ⟨Nat.le_of_ble_eq_true rfl, Nat.le_of_ble_eq_true rfl⟩ ⟨Nat.le_of_ble_eq_true rfl, Nat.le_of_ble_eq_true rfl⟩ (mw0x (a := a) (r := r) (f := f) (q := (va_up q 3 t29)) (T := tb a) (w := w) rfl) rfl rfl rfl hl.1 rfl (Nat.le_of_ble_eq_true rfl) dX10_sum_79 (fun o w' H locs hp hB => ?_)
          obtain ⟨rfl, hw9⟩ := hp
          replace hB : Bd κ A s (mw κ a r f (va_up (va_up q 3 t29) 1 (((va_up q 3 t29) 1) + 1)) (tb a) w) H locs := by exact Bd_eq (mwQ1x rfl _) (by rw [hw9] at hB; exact hB)
          refine W.eq (g2 := F0 m 82 ls [.int (-9)]) rfl ?_
          rw [← hQ]
          exact end_i hX hB hA3 rfl rfl ⟨(-9), a, r, f, (va_up (va_up q 3 t29) 1 (((va_up q 3 t29) 1) + 1)), rfl, rfl, hm, rfl, rfl⟩ (Nat.le_of_ble_eq_true rfl) (Nat.le_of_ble_eq_true rfl) dX10_sum_82
        · rw [neqP (a := r (2 * y.toNatClampNeg)) (b := r (2 * z.toNatClampNeg)) (by omega) (by omega)] at c34
          refine lv_aload hx hb dX10_sum_65 (lv_at hl 1 rfl) ?_
          refine gf (k0 := 2 + 2 * y.toNatClampNeg) hX hB (mwG (i := y.toNatClampNeg) (a := a) (r := r) (f := f) (q := (va_up q 3 t29)) (T := tb a) (w := w) (by omega)) rfl in7 1 (by decide) wm_5_152 rfl rfl dX10_sum_67 ?_
          refine lv_aload hx hb dX10_sum_70 (lv_at hl 0 rfl) ?_
          refine gf (k0 := 2 + 2 * z.toNatClampNeg) hX hB (mwG (i := z.toNatClampNeg) (a := a) (r := r) (f := f) (q := (va_up q 3 t29)) (T := tb a) (w := w) (by omega)) rfl in7 1 (by decide) wm_5_152 rfl rfl dX10_sum_72 ?_
          refine lv_icmp_eq (tgt := 83) hx hb dX10_sum_75 (by decide) (fun c35 => ?_) (fun c35 => ?_)
          · rw [neqP (a := r (2 * y.toNatClampNeg + 1)) (b := r (2 * z.toNatClampNeg + 1)) (by omega) (by omega)] at c35
            refine lv_aload hx hb dX10_sum_83 (lv_at hl 1 rfl) ?_
            refine call_V (n := 0) (k0 := (2 + 2 * y.toNatClampNeg)) (As := []) (rest := []) hX hB (k_X7_copy κ l (mw κ a r f (va_up q 3 t29) (tb a) w) (2 + 2 * y.toNatClampNeg) (3 + 2 * y.toNatClampNeg) (a (2 + 2 * y.toNatClampNeg)) (a (3 + 2 * y.toNatClampNeg)) (r (2 * y.toNatClampNeg)) (r (2 * y.toNatClampNeg + 1)) (f y.toNatClampNeg) (mwG (i := y.toNatClampNeg) (a := a) (r := r) (f := f) (q := (va_up q 3 t29)) (T := tb a) (w := w) (by omega)) (mwA (i := y.toNatClampNeg) (a := a) (r := r) (f := f) (q := (va_up q 3 t29)) (T := tb a) (w := w) (by omega)) (mok_shp (i := y.toNatClampNeg) hm (by omega))) ⟨rfl, by decide, by decide, by decide +kernel⟩ wm_6_19 wm_6_20 wm_6_21 wm_1_7 wm_6_22 ⟨Nat.le_of_ble_eq_true rfl, Nat.le_of_ble_eq_true rfl⟩ ⟨Nat.le_of_ble_eq_true rfl, Nat.le_of_ble_eq_true rfl⟩ (mwG (i := y.toNatClampNeg) (a := a) (r := r) (f := f) (q := (va_up q 3 t29)) (T := tb a) (w := w) (by omega)) rfl rfl rfl hl.1 rfl (Nat.le_of_ble_eq_true rfl) dX10_sum_85 (fun o w' H locs hp hB => ?_)
            obtain ⟨q36, q37, F38, rfl, hf39, hw9⟩ := hp
            replace hB : Bd κ A s (lA κ q37 ((r (2 * y.toNatClampNeg)) * 5) F38 :: gO q36 (r (2 * y.toNatClampNeg)) (r (2 * y.toNatClampNeg + 1)) q37 :: mw κ a r f (va_up q 3 t29) (tb a) w) H locs := by rw [hw9] at hB; exact hB
            have hscF38 : ∀ k, k < (r (2 * y.toNatClampNeg)) * 5 → sm (F38 k) := fun k hk => by rw [hf39 k hk]; exact (hm _ (by omega)).2 k hk
            refine W.eq (g2 := F0 m 88 ls [.ref q36]) rfl ?_
            refine lv_astore (lv' := [(7, .ref q36), (6, .ref (a (2 + 2 * z.toNatClampNeg))), (5, .ref (a (2 + 2 * y.toNatClampNeg))), (0, .ref (a 0)), (1, .int y), (2, .int z), (3, .int c0), (4, .int u)]) hx hb dX10_sum_88 hl (by decide) rfl (fun ls hl => ?_)
            refine lv_iconst (v := 0) hx hb dX10_sum_90 (by decide) ?_
            refine lv_istore (lv' := [(8, .int 0), (7, .ref q36), (6, .ref (a (2 + 2 * z.toNatClampNeg))), (5, .ref (a (2 + 2 * y.toNatClampNeg))), (0, .ref (a 0)), (1, .int y), (2, .int z), (3, .int c0), (4, .int u)]) hx hb dX10_sum_91 hl (by decide) rfl (fun ls hl => ?_)
            have lp93 : ∀ (nn : Nat) (y8_93 : Nat) (fq37_93 : Nat → Int64) (H : Heap) (locs : List Loc), (y8_93 ≤ ((r (2 * y.toNatClampNeg)) * 5)) → ((r (2 * y.toNatClampNeg)) * 5) + 1 - y8_93 < nn → Bd κ A s (lA κ q37 ((r (2 * y.toNatClampNeg)) * 5) fq37_93 :: gO q36 (r (2 * y.toNatClampNeg)) (r (2 * y.toNatClampNeg + 1)) q37 :: mw κ a r f (va_up q 3 t29) (tb a) w) H locs → ∀ ls : Array Slot, lv_has ls 9 [(8, .int (nI y8_93)), (7, .ref q36), (6, .ref (a (2 + 2 * z.toNatClampNeg))), (5, .ref (a (2 + 2 * y.toNatClampNeg))), (0, .ref (a 0)), (1, .int y), (2, .int z), (3, .int c0), (4, .int u)] → W p l e (Rm 3 64 2 23) s m args below meth c H locs 2 23 Q (F0 m 93 ls []) := by
              intro nn
              induction nn with
              | zero => intro y8_93 fq37_93 H locs hn8_93 hμ; exact absurd hμ (Nat.not_lt_zero _)
              | succ nn ih93 =>
                intro y8_93 fq37_93 H locs hn8_93 hμ93 hB ls hl
                refine lv_iload hx hb dX10_sum_93 (lv_at hl 0 rfl) ?_
                refine lv_aload hx hb dX10_sum_95 (lv_at hl 1 rfl) ?_
                refine gf (k0 := 1) hX hB rfl rfl in7 2 (by decide) wm_5_154 rfl rfl dX10_sum_97 ?_
                refine alenL (k0 := 0) (v := nI ((r (2 * y.toNatClampNeg)) * 5)) hX hB rfl rfl dX10_sum_100 ?_
                refine lv_icmp_ge (tgt := 145) hx hb dX10_sum_101 (by decide) (fun c60 => ?_) (fun c60 => ?_)
                · rw [nleP (a := (r (2 * y.toNatClampNeg)) * 5) (b := y8_93) (by omega) (by omega)] at c60
                  refine lv_aload_n hx hb dX10_sum_145 rfl (lv_at hl 4 rfl) ?_
                  refine lv_iload hx hb dX10_sum_146 (lv_at hl 8 rfl) ?_
                  refine lv_aload hx hb dX10_sum_148 (lv_at hl 1 rfl) ?_
                  refine call_V (n := 2) (k0 := 2) (As := [.int u, .ref q36]) (rest := []) hX hB (k_X10_become κ l w a r f (va_up q 3 t29) u q36 q37 (r (2 * y.toNatClampNeg)) (r (2 * y.toNatClampNeg + 1)) fq37_93 hm ⟨by omega, by omega, by omega, by omega⟩ (by assumption) (by assumption)) ⟨rfl, by decide, by decide, by decide +kernel⟩ wm_6_104 wm_6_106 wp_37 wm_1_6 wm_6_107 ⟨Nat.le_of_ble_eq_true rfl, Nat.le_of_ble_eq_true rfl⟩ ⟨Nat.le_of_ble_eq_true rfl, Nat.le_of_ble_eq_true rfl⟩ (mw0x (a := a) (r := r) (f := f) (q := (va_up q 3 t29)) (T := tb a) (w := w) rfl) rfl rfl rfl hl.1 rfl (Nat.le_of_ble_eq_true rfl) dX10_sum_150 (fun o w' H locs hp hB => ?_)
                  obtain ⟨x61, an62, rn63, fn64, qn65, rfl, hf66, hf67, hf68, hw9⟩ := hp
                  replace hB : Bd κ A s (mw κ an62 rn63 fn64 qn65 (tb an62) w) H locs := by rw [hw9] at hB; exact hB
                  refine W.eq (g2 := F0 m 153 ls [.int x61]) rfl ?_
                  rw [← hQ]
                  exact end_i hX hB hA3 rfl rfl ⟨x61, an62, rn63, fn64, qn65, rfl, (hf66.trans rfl), hf67, (hf68.trans rfl), rfl⟩ (Nat.le_of_ble_eq_true rfl) (Nat.le_of_ble_eq_true rfl) dX10_sum_153
                · rw [nleP (a := (r (2 * y.toNatClampNeg)) * 5) (b := y8_93) (by omega) (by omega)] at c60
                  refine lv_aload hx hb dX10_sum_104 (lv_at hl 1 rfl) ?_
                  refine gf (k0 := 1) hX hB rfl rfl in7 2 (by decide) wm_5_154 rfl rfl dX10_sum_106 ?_
                  refine lv_iload hx hb dX10_sum_109 (lv_at hl 0 rfl) ?_
                  refine lv_dup2_11 hx hb dX10_sum_111 rfl rfl ?_
                  refine laldN (k0 := 0) (k := y8_93) hX hB rfl (by omega) (by omega) dX10_sum_112 ?_
                  refine lv_iload_n hx hb dX10_sum_113 rfl (lv_at hl 7 rfl) ?_
                  refine lv_if_eq (tgt := 129) hx hb dX10_sum_114 (by decide) (fun c69 => ?_) (fun c69 => ?_)
                  · refine lv_aload hx hb dX10_sum_129 (lv_at hl 2 rfl) ?_
                    refine gf (k0 := 2 + 2 * z.toNatClampNeg + 2) hX hB (mwG (i := z.toNatClampNeg) (a := a) (r := r) (f := f) (q := (va_up q 3 t29)) (T := tb a) (w := w) (by omega)) rfl in7 2 (by decide) wm_5_154 rfl rfl dX10_sum_131 ?_
                    refine lv_iload hx hb dX10_sum_134 (lv_at hl 0 rfl) ?_
                    refine laldN (k0 := 3 + 2 * z.toNatClampNeg + 2) (k := y8_93) hX hB (mwA (i := z.toNatClampNeg) (a := a) (r := r) (f := f) (q := (va_up q 3 t29)) (T := tb a) (w := w) (by omega)) (by omega) (by omega) dX10_sum_136 ?_
                    refine lv_ladd hx hb dX10_sum_137 ?_
                    refine lastN (k0 := 0) (k := y8_93) hX hB rfl (by omega) (by omega) (w1 := lA κ q37 ((r (2 * y.toNatClampNeg)) * 5) (vp_updL fq37_93 y8_93 ((fq37_93 y8_93) + ((f z.toNatClampNeg) y8_93))) :: gO q36 (r (2 * y.toNatClampNeg)) (r (2 * y.toNatClampNeg + 1)) q37 :: mw κ a r f (va_up q 3 t29) (tb a) w) rfl dX10_sum_138 (fun H locs hB => ?_)
                    refine lv_iinc (v := nI (y8_93 + 1)) (lv' := [(8, .int (nI (y8_93 + 1))), (7, .ref q36), (6, .ref (a (2 + 2 * z.toNatClampNeg))), (5, .ref (a (2 + 2 * y.toNatClampNeg))), (0, .ref (a 0)), (1, .int y), (2, .int z), (3, .int c0), (4, .int u)]) hx hb dX10_sum_139 hl (k := 0) rfl (nI_add y8_93 1) (by decide) rfl (fun ls hl => ?_)
                    refine lv_goto (tgt := 93) hx hb dX10_sum_142 (by decide) ?_
                    exact ih93 (y8_93 + 1) (vp_updL fq37_93 y8_93 ((fq37_93 y8_93) + ((f z.toNatClampNeg) y8_93))) _ _ (by omega) (by omega) hB _ hl
                  · refine lv_aload hx hb dX10_sum_117 (lv_at hl 2 rfl) ?_
                    refine gf (k0 := 2 + 2 * z.toNatClampNeg + 2) hX hB (mwG (i := z.toNatClampNeg) (a := a) (r := r) (f := f) (q := (va_up q 3 t29)) (T := tb a) (w := w) (by omega)) rfl in7 2 (by decide) wm_5_154 rfl rfl dX10_sum_119 ?_
                    refine lv_iload hx hb dX10_sum_122 (lv_at hl 0 rfl) ?_
                    refine laldN (k0 := 3 + 2 * z.toNatClampNeg + 2) (k := y8_93) hX hB (mwA (i := z.toNatClampNeg) (a := a) (r := r) (f := f) (q := (va_up q 3 t29)) (T := tb a) (w := w) (by omega)) (by omega) (by omega) dX10_sum_124 ?_
                    refine lv_lneg hx hb dX10_sum_125 ?_
                    refine lv_goto (tgt := 137) hx hb dX10_sum_126 (by decide) ?_
                    refine lv_ladd hx hb dX10_sum_137 ?_
                    refine lastN (k0 := 0) (k := y8_93) hX hB rfl (by omega) (by omega) (w1 := lA κ q37 ((r (2 * y.toNatClampNeg)) * 5) (vp_updL fq37_93 y8_93 ((fq37_93 y8_93) + (-((f z.toNatClampNeg) y8_93)))) :: gO q36 (r (2 * y.toNatClampNeg)) (r (2 * y.toNatClampNeg + 1)) q37 :: mw κ a r f (va_up q 3 t29) (tb a) w) rfl dX10_sum_138 (fun H locs hB => ?_)
                    refine lv_iinc (v := nI (y8_93 + 1)) (lv' := [(8, .int (nI (y8_93 + 1))), (7, .ref q36), (6, .ref (a (2 + 2 * z.toNatClampNeg))), (5, .ref (a (2 + 2 * y.toNatClampNeg))), (0, .ref (a 0)), (1, .int y), (2, .int z), (3, .int c0), (4, .int u)]) hx hb dX10_sum_139 hl (k := 0) rfl (nI_add y8_93 1) (by decide) rfl (fun ls hl => ?_)
                    refine lv_goto (tgt := 93) hx hb dX10_sum_142 (by decide) ?_
                    exact ih93 (y8_93 + 1) (vp_updL fq37_93 y8_93 ((fq37_93 y8_93) + (-((f z.toNatClampNeg) y8_93)))) _ _ (by omega) (by omega) hB _ hl
            exact lp93 _ 0 F38 _ _ (by omega) (Nat.lt_succ_self _) hB _ hl
          · rw [neqP (a := r (2 * y.toNatClampNeg + 1)) (b := r (2 * z.toNatClampNeg + 1)) (by omega) (by omega)] at c35
            refine lv_aload_n hx hb dX10_sum_78 rfl (lv_at hl 2 rfl) ?_
            refine call_V (n := 0) (k0 := 0) (As := []) (rest := []) hX hB (k_X10_no κ l (mw κ a r f (va_up q 3 t29) (tb a) w) 0 (a 0) (a 1) ((va_up q 3 t29) 0) ((va_up q 3 t29) 1) ((va_up q 3 t29) 2) ((va_up q 3 t29) 3) (mw0x (a := a) (r := r) (f := f) (q := (va_up q 3 t29)) (T := tb a) (w := w) rfl)) ⟨rfl, by decide, by decide, by decide +kernel⟩ wm_6_85 wm_6_87 wp_36 wm_1_6 wm_6_88 ⟨Nat.le_of_ble_eq_true rfl, Nat.le_of_ble_eq_true rfl⟩ ⟨Nat.le_of_ble_eq_true rfl, Nat.le_of_ble_eq_true rfl⟩ (mw0x (a := a) (r := r) (f := f) (q := (va_up q 3 t29)) (T := tb a) (w := w) rfl) rfl rfl rfl hl.1 rfl (Nat.le_of_ble_eq_true rfl) dX10_sum_79 (fun o w' H locs hp hB => ?_)
            obtain ⟨rfl, hw9⟩ := hp
            replace hB : Bd κ A s (mw κ a r f (va_up (va_up q 3 t29) 1 (((va_up q 3 t29) 1) + 1)) (tb a) w) H locs := by exact Bd_eq (mwQ1x rfl _) (by rw [hw9] at hB; exact hB)
            refine W.eq (g2 := F0 m 82 ls [.int (-9)]) rfl ?_
            rw [← hQ]
            exact end_i hX hB hA3 rfl rfl ⟨(-9), a, r, f, (va_up (va_up q 3 t29) 1 (((va_up q 3 t29) 1) + 1)), rfl, rfl, hm, rfl, rfl⟩ (Nat.le_of_ble_eq_true rfl) (Nat.le_of_ble_eq_true rfl) dX10_sum_82
set_option maxHeartbeats 4000000 in
set_option maxRecDepth 100000 in
theorem k_X10_multiply (κ : Kt) (l : Launch) (w : va_W) (a r : Nat → Nat) (f : Nat → Nat → Int64) (q : Nat → Int32) (y : Int32) (z : Int32) (u : Int32) (hm : mok r f) : CM κ l yX10_multiply cX10_multiply 4 (some .int) 3 69 2 23 [.ref (a 0), .int y, .int z, .int u] (mw κ a r f q (tb a) w) (fun o w' => ∃ (x : Int32) (a' : Nat → Nat) (r' : Nat → Nat) (f' : Nat → Nat → Int64) (q' : Nat → Int32), o = some (.int x) ∧ (a' 0 = a 0) ∧ (mok r' f') ∧ (q' 2 = q 2) ∧ w' = mw κ a' r' f' q' (tb a') w) := by
  refine CM_begin (plainFor_of_name (by decide)) (Nat.le_of_ble_eq_true rfl) ?_
  intro p e s m args below meth c A Q hX hnm hA3 hQ hB ls hl
  have hx := hX.1.1
  have hb := hX.1.2.1
  have hl : lv_has ls 4 [(0, .ref (a 0)), (1, .int y), (2, .int z), (3, .int u)] := hl
  refine lv_aload_n hx hb dX10_multiply_0 rfl (lv_at hl 0 rfl) ?_
  refine lv_iload_n hx hb dX10_multiply_1 rfl (lv_at hl 1 rfl) ?_
  refine call_S (n := 1) (As := [.int y]) (rest := [.ref (a 0)]) hX hB (k_X10_isTable κ l (mw κ a r f q (tb a) w) y) ⟨by decide, by decide, by decide +kernel⟩ wm_5_182 wm_5_183 wm_1_6 wm_5_184 ⟨Nat.le_of_ble_eq_true rfl, Nat.le_of_ble_eq_true rfl⟩ ⟨Nat.le_of_ble_eq_true rfl, Nat.le_of_ble_eq_true rfl⟩ rfl hl.1 rfl (Nat.le_of_ble_eq_true rfl) dX10_multiply_2 (fun o w' H locs hp hB => ?_)
  obtain ⟨z1, rfl, hf2, hw9⟩ := hp
  replace hB : Bd κ A s (mw κ a r f q (tb a) w) H locs := by rw [hw9] at hB; exact hB
  rcases hf2 with rfl | ⟨rfl, hz3a, hz3b⟩
  · refine W.eq (g2 := F0 m 5 ls [.int 0, .ref (a 0)]) rfl ?_
    refine lv_if_eq (tgt := 22) hx hb dX10_multiply_5 (by decide) (fun _ => ?_) (fun c4 => False.elim (by revert c4; decide))
    refine lv_iconst (v := 1) hx hb dX10_multiply_22 (by decide) ?_
    refine lv_goto (tgt := 27) hx hb dX10_multiply_23 (by decide) ?_
    refine call_V (n := 1) (k0 := 0) (As := [.int 1]) (rest := []) hX hB (k_X10_isThrown__ κ l (mw κ a r f q (tb a) w) 0 (a 0) (a 1) (q 0) (q 1) (q 2) (q 3) 1 (mw0x (a := a) (r := r) (f := f) (q := q) (T := tb a) (w := w) rfl)) ⟨rfl, by decide, by decide, by decide +kernel⟩ wm_6_11 wm_6_13 wp_33 wm_1_6 wm_6_14 ⟨Nat.le_of_ble_eq_true rfl, Nat.le_of_ble_eq_true rfl⟩ ⟨Nat.le_of_ble_eq_true rfl, Nat.le_of_ble_eq_true rfl⟩ (mw0x (a := a) (r := r) (f := f) (q := q) (T := tb a) (w := w) rfl) rfl rfl rfl hl.1 rfl (Nat.le_of_ble_eq_true rfl) dX10_multiply_27 (fun o w' H locs hp hB => ?_)
    obtain ⟨x5, t6, rfl, hf7, hw9⟩ := hp
    replace hB : Bd κ A s (mw κ a r f (va_up q 3 t6) (tb a) w) H locs := by exact Bd_eq (mwQ3x rfl _) (by rw [hw9] at hB; exact hB)
    obtain rfl : x5 = 1 := hf7.trans (by decide)
    refine W.eq (g2 := F0 m 30 ls [.int 1]) rfl ?_
    refine lv_if_eq (tgt := 35) hx hb dX10_multiply_30 (by decide) (fun c8 => False.elim (by revert c8; decide)) (fun _ => ?_)
    refine lv_iconst (v := 0) hx hb dX10_multiply_33 (by decide) ?_
    rw [← hQ]
    exact end_i hX hB hA3 rfl rfl ⟨0, a, r, f, (va_up q 3 t6), rfl, rfl, hm, rfl, rfl⟩ (Nat.le_of_ble_eq_true rfl) (Nat.le_of_ble_eq_true rfl) dX10_multiply_34
  · refine W.eq (g2 := F0 m 5 ls [.int 1, .ref (a 0)]) rfl ?_
    refine lv_if_eq (tgt := 22) hx hb dX10_multiply_5 (by decide) (fun c9 => False.elim (by revert c9; decide)) (fun _ => ?_)
    refine lv_iload_n hx hb dX10_multiply_8 rfl (lv_at hl 2 rfl) ?_
    refine call_S (n := 1) (As := [.int z]) (rest := [.ref (a 0)]) hX hB (k_X10_isTable κ l (mw κ a r f q (tb a) w) z) ⟨by decide, by decide, by decide +kernel⟩ wm_5_182 wm_5_183 wm_1_6 wm_5_184 ⟨Nat.le_of_ble_eq_true rfl, Nat.le_of_ble_eq_true rfl⟩ ⟨Nat.le_of_ble_eq_true rfl, Nat.le_of_ble_eq_true rfl⟩ rfl hl.1 rfl (Nat.le_of_ble_eq_true rfl) dX10_multiply_9 (fun o w' H locs hp hB => ?_)
    obtain ⟨z10, rfl, hf11, hw9⟩ := hp
    replace hB : Bd κ A s (mw κ a r f q (tb a) w) H locs := by rw [hw9] at hB; exact hB
    rcases hf11 with rfl | ⟨rfl, hz12a, hz12b⟩
    · refine W.eq (g2 := F0 m 12 ls [.int 0, .ref (a 0)]) rfl ?_
      refine lv_if_eq (tgt := 22) hx hb dX10_multiply_12 (by decide) (fun _ => ?_) (fun c13 => False.elim (by revert c13; decide))
      refine lv_iconst (v := 1) hx hb dX10_multiply_22 (by decide) ?_
      refine lv_goto (tgt := 27) hx hb dX10_multiply_23 (by decide) ?_
      refine call_V (n := 1) (k0 := 0) (As := [.int 1]) (rest := []) hX hB (k_X10_isThrown__ κ l (mw κ a r f q (tb a) w) 0 (a 0) (a 1) (q 0) (q 1) (q 2) (q 3) 1 (mw0x (a := a) (r := r) (f := f) (q := q) (T := tb a) (w := w) rfl)) ⟨rfl, by decide, by decide, by decide +kernel⟩ wm_6_11 wm_6_13 wp_33 wm_1_6 wm_6_14 ⟨Nat.le_of_ble_eq_true rfl, Nat.le_of_ble_eq_true rfl⟩ ⟨Nat.le_of_ble_eq_true rfl, Nat.le_of_ble_eq_true rfl⟩ (mw0x (a := a) (r := r) (f := f) (q := q) (T := tb a) (w := w) rfl) rfl rfl rfl hl.1 rfl (Nat.le_of_ble_eq_true rfl) dX10_multiply_27 (fun o w' H locs hp hB => ?_)
      obtain ⟨x14, t15, rfl, hf16, hw9⟩ := hp
      replace hB : Bd κ A s (mw κ a r f (va_up q 3 t15) (tb a) w) H locs := by exact Bd_eq (mwQ3x rfl _) (by rw [hw9] at hB; exact hB)
      obtain rfl : x14 = 1 := hf16.trans (by decide)
      refine W.eq (g2 := F0 m 30 ls [.int 1]) rfl ?_
      refine lv_if_eq (tgt := 35) hx hb dX10_multiply_30 (by decide) (fun c17 => False.elim (by revert c17; decide)) (fun _ => ?_)
      refine lv_iconst (v := 0) hx hb dX10_multiply_33 (by decide) ?_
      rw [← hQ]
      exact end_i hX hB hA3 rfl rfl ⟨0, a, r, f, (va_up q 3 t15), rfl, rfl, hm, rfl, rfl⟩ (Nat.le_of_ble_eq_true rfl) (Nat.le_of_ble_eq_true rfl) dX10_multiply_34
    · refine W.eq (g2 := F0 m 12 ls [.int 1, .ref (a 0)]) rfl ?_
      refine lv_if_eq (tgt := 22) hx hb dX10_multiply_12 (by decide) (fun c18 => False.elim (by revert c18; decide)) (fun _ => ?_)
      refine lv_iload_n hx hb dX10_multiply_15 rfl (lv_at hl 3 rfl) ?_
      refine call_S (n := 1) (As := [.int u]) (rest := [.ref (a 0)]) hX hB (k_X10_isTable κ l (mw κ a r f q (tb a) w) u) ⟨by decide, by decide, by decide +kernel⟩ wm_5_182 wm_5_183 wm_1_6 wm_5_184 ⟨Nat.le_of_ble_eq_true rfl, Nat.le_of_ble_eq_true rfl⟩ ⟨Nat.le_of_ble_eq_true rfl, Nat.le_of_ble_eq_true rfl⟩ rfl hl.1 rfl (Nat.le_of_ble_eq_true rfl) dX10_multiply_16 (fun o w' H locs hp hB => ?_)
      obtain ⟨z19, rfl, hf20, hw9⟩ := hp
      replace hB : Bd κ A s (mw κ a r f q (tb a) w) H locs := by rw [hw9] at hB; exact hB
      rcases hf20 with rfl | ⟨rfl, hz21a, hz21b⟩
      · refine W.eq (g2 := F0 m 19 ls [.int 0, .ref (a 0)]) rfl ?_
        refine lv_if_ne (tgt := 26) hx hb dX10_multiply_19 (by decide) (fun c22 => False.elim (by revert c22; decide)) (fun _ => ?_)
        refine lv_iconst (v := 1) hx hb dX10_multiply_22 (by decide) ?_
        refine lv_goto (tgt := 27) hx hb dX10_multiply_23 (by decide) ?_
        refine call_V (n := 1) (k0 := 0) (As := [.int 1]) (rest := []) hX hB (k_X10_isThrown__ κ l (mw κ a r f q (tb a) w) 0 (a 0) (a 1) (q 0) (q 1) (q 2) (q 3) 1 (mw0x (a := a) (r := r) (f := f) (q := q) (T := tb a) (w := w) rfl)) ⟨rfl, by decide, by decide, by decide +kernel⟩ wm_6_11 wm_6_13 wp_33 wm_1_6 wm_6_14 ⟨Nat.le_of_ble_eq_true rfl, Nat.le_of_ble_eq_true rfl⟩ ⟨Nat.le_of_ble_eq_true rfl, Nat.le_of_ble_eq_true rfl⟩ (mw0x (a := a) (r := r) (f := f) (q := q) (T := tb a) (w := w) rfl) rfl rfl rfl hl.1 rfl (Nat.le_of_ble_eq_true rfl) dX10_multiply_27 (fun o w' H locs hp hB => ?_)
        obtain ⟨x23, t24, rfl, hf25, hw9⟩ := hp
        replace hB : Bd κ A s (mw κ a r f (va_up q 3 t24) (tb a) w) H locs := by exact Bd_eq (mwQ3x rfl _) (by rw [hw9] at hB; exact hB)
        obtain rfl : x23 = 1 := hf25.trans (by decide)
        refine W.eq (g2 := F0 m 30 ls [.int 1]) rfl ?_
        refine lv_if_eq (tgt := 35) hx hb dX10_multiply_30 (by decide) (fun c26 => False.elim (by revert c26; decide)) (fun _ => ?_)
        refine lv_iconst (v := 0) hx hb dX10_multiply_33 (by decide) ?_
        rw [← hQ]
        exact end_i hX hB hA3 rfl rfl ⟨0, a, r, f, (va_up q 3 t24), rfl, rfl, hm, rfl, rfl⟩ (Nat.le_of_ble_eq_true rfl) (Nat.le_of_ble_eq_true rfl) dX10_multiply_34
      · refine W.eq (g2 := F0 m 19 ls [.int 1, .ref (a 0)]) rfl ?_
        refine lv_if_ne (tgt := 26) hx hb dX10_multiply_19 (by decide) (fun _ => ?_) (fun c27 => False.elim (by revert c27; decide))
        refine lv_iconst (v := 0) hx hb dX10_multiply_26 (by decide) ?_
        refine call_V (n := 1) (k0 := 0) (As := [.int 0]) (rest := []) hX hB (k_X10_isThrown__ κ l (mw κ a r f q (tb a) w) 0 (a 0) (a 1) (q 0) (q 1) (q 2) (q 3) 0 (mw0x (a := a) (r := r) (f := f) (q := q) (T := tb a) (w := w) rfl)) ⟨rfl, by decide, by decide, by decide +kernel⟩ wm_6_11 wm_6_13 wp_33 wm_1_6 wm_6_14 ⟨Nat.le_of_ble_eq_true rfl, Nat.le_of_ble_eq_true rfl⟩ ⟨Nat.le_of_ble_eq_true rfl, Nat.le_of_ble_eq_true rfl⟩ (mw0x (a := a) (r := r) (f := f) (q := q) (T := tb a) (w := w) rfl) rfl rfl rfl hl.1 rfl (Nat.le_of_ble_eq_true rfl) dX10_multiply_27 (fun o w' H locs hp hB => ?_)
        obtain ⟨x28, t29, rfl, hf30, hw9⟩ := hp
        replace hB : Bd κ A s (mw κ a r f (va_up q 3 t29) (tb a) w) H locs := by exact Bd_eq (mwQ3x rfl _) (by rw [hw9] at hB; exact hB)
        obtain rfl : x28 = 0 := hf30.trans (by decide)
        refine W.eq (g2 := F0 m 30 ls [.int 0]) rfl ?_
        refine lv_if_eq (tgt := 35) hx hb dX10_multiply_30 (by decide) (fun _ => ?_) (fun c31 => False.elim (by revert c31; decide))
        refine lv_aload_n hx hb dX10_multiply_35 rfl (lv_at hl 0 rfl) ?_
        refine gf (k0 := 0) hX hB (mw0x (a := a) (r := r) (f := f) (q := (va_up q 3 t29)) (T := tb a) (w := w) rfl) rfl in10 0 (by decide) wm_5_162 rfl rfl dX10_multiply_36 ?_
        refine lv_iload_n hx hb dX10_multiply_39 rfl (lv_at hl 1 rfl) ?_
        refine aaldM (k0 := 1) hX hB (mw1 (a := a) (r := r) (f := f) (q := (va_up q 3 t29)) (T := tb a) (w := w)) (vp_in_mk (by assumption) (by assumption)) rfl dX10_multiply_40 ?_
        have hb32 := mok_r hm y.toNatClampNeg (by omega)
        refine gf (k0 := 2 + 2 * y.toNatClampNeg) hX hB (mwG (i := y.toNatClampNeg) (a := a) (r := r) (f := f) (q := (va_up q 3 t29)) (T := tb a) (w := w) (by omega)) rfl in7 1 (by decide) wm_5_152 rfl rfl dX10_multiply_41 ?_
        refine lv_aload_n hx hb dX10_multiply_44 rfl (lv_at hl 0 rfl) ?_
        refine gf (k0 := 0) hX hB (mw0x (a := a) (r := r) (f := f) (q := (va_up q 3 t29)) (T := tb a) (w := w) rfl) rfl in10 0 (by decide) wm_5_162 rfl rfl dX10_multiply_45 ?_
        refine lv_iload_n hx hb dX10_multiply_48 rfl (lv_at hl 2 rfl) ?_
        refine aaldM (k0 := 1) hX hB (mw1 (a := a) (r := r) (f := f) (q := (va_up q 3 t29)) (T := tb a) (w := w)) (vp_in_mk (by assumption) (by assumption)) rfl dX10_multiply_49 ?_
        have hb33 := mok_r hm z.toNatClampNeg (by omega)
        refine gf (k0 := 2 + 2 * z.toNatClampNeg) hX hB (mwG (i := z.toNatClampNeg) (a := a) (r := r) (f := f) (q := (va_up q 3 t29)) (T := tb a) (w := w) (by omega)) rfl in7 0 (by decide) wm_5_148 rfl rfl dX10_multiply_50 ?_
        refine lv_icmp_eq (tgt := 63) hx hb dX10_multiply_53 (by decide) (fun c34 => ?_) (fun c34 => ?_)
        · rw [neqP (a := r (2 * y.toNatClampNeg + 1)) (b := r (2 * z.toNatClampNeg)) (by omega) (by omega)] at c34
          refine lv_aload_n hx hb dX10_multiply_63 rfl (lv_at hl 0 rfl) ?_
          refine lv_iload_n hx hb dX10_multiply_64 rfl (lv_at hl 3 rfl) ?_
          refine lv_aload_n hx hb dX10_multiply_65 rfl (lv_at hl 0 rfl) ?_
          refine gf (k0 := 0) hX hB (mw0x (a := a) (r := r) (f := f) (q := (va_up q 3 t29)) (T := tb a) (w := w) rfl) rfl in10 0 (by decide) wm_5_162 rfl rfl dX10_multiply_66 ?_
          refine lv_iload_n hx hb dX10_multiply_69 rfl (lv_at hl 1 rfl) ?_
          refine aaldM (k0 := 1) hX hB (mw1 (a := a) (r := r) (f := f) (q := (va_up q 3 t29)) (T := tb a) (w := w)) (vp_in_mk (by assumption) (by assumption)) rfl dX10_multiply_70 ?_
          have hb35 := mok_r hm y.toNatClampNeg (by omega)
          refine lv_aload_n hx hb dX10_multiply_71 rfl (lv_at hl 0 rfl) ?_
          refine gf (k0 := 0) hX hB (mw0x (a := a) (r := r) (f := f) (q := (va_up q 3 t29)) (T := tb a) (w := w) rfl) rfl in10 0 (by decide) wm_5_162 rfl rfl dX10_multiply_72 ?_
          refine lv_iload_n hx hb dX10_multiply_75 rfl (lv_at hl 2 rfl) ?_
          refine aaldM (k0 := 1) hX hB (mw1 (a := a) (r := r) (f := f) (q := (va_up q 3 t29)) (T := tb a) (w := w)) (vp_in_mk (by assumption) (by assumption)) rfl dX10_multiply_76 ?_
          have hb36 := mok_r hm z.toNatClampNeg (by omega)
          refine call_V (n := 1) (k0 := (2 + 2 * y.toNatClampNeg)) (As := [.ref (a (2 + 2 * z.toNatClampNeg))]) (rest := [.int u, .ref (a 0)]) hX hB (k_X7_product κ l (mw κ a r f (va_up q 3 t29) (tb a) w) (2 + 2 * y.toNatClampNeg) (3 + 2 * y.toNatClampNeg) (a (2 + 2 * y.toNatClampNeg)) (a (3 + 2 * y.toNatClampNeg)) (r (2 * y.toNatClampNeg)) (r (2 * y.toNatClampNeg + 1)) (f y.toNatClampNeg) (2 + 2 * z.toNatClampNeg) (3 + 2 * z.toNatClampNeg) (a (2 + 2 * z.toNatClampNeg)) (a (3 + 2 * z.toNatClampNeg)) (r (2 * z.toNatClampNeg)) (r (2 * z.toNatClampNeg + 1)) (f z.toNatClampNeg) (mwG (i := y.toNatClampNeg) (a := a) (r := r) (f := f) (q := (va_up q 3 t29)) (T := tb a) (w := w) (by omega)) (mwA (i := y.toNatClampNeg) (a := a) (r := r) (f := f) (q := (va_up q 3 t29)) (T := tb a) (w := w) (by omega)) (mok_shp (i := y.toNatClampNeg) hm (by omega)) (mwG (i := z.toNatClampNeg) (a := a) (r := r) (f := f) (q := (va_up q 3 t29)) (T := tb a) (w := w) (by omega)) (mwA (i := z.toNatClampNeg) (a := a) (r := r) (f := f) (q := (va_up q 3 t29)) (T := tb a) (w := w) (by omega)) (mok_shp (i := z.toNatClampNeg) hm (by omega)) (by omega)) ⟨rfl, by decide, by decide, by decide +kernel⟩ wm_6_112 wm_6_113 wm_6_114 wm_1_7 wm_6_115 ⟨Nat.le_of_ble_eq_true rfl, Nat.le_of_ble_eq_true rfl⟩ ⟨Nat.le_of_ble_eq_true rfl, Nat.le_of_ble_eq_true rfl⟩ (mwG (i := y.toNatClampNeg) (a := a) (r := r) (f := f) (q := (va_up q 3 t29)) (T := tb a) (w := w) (by omega)) rfl rfl rfl hl.1 rfl (Nat.le_of_ble_eq_true rfl) dX10_multiply_77 (fun o w' H locs hp hB => ?_)
          obtain ⟨q37, q38, F39, rfl, hw9⟩ := hp
          replace hB : Bd κ A s (lA κ q38 ((r (2 * y.toNatClampNeg)) * 5) F39 :: gO q37 (r (2 * y.toNatClampNeg)) (r (2 * z.toNatClampNeg + 1)) q38 :: mw κ a r f (va_up q 3 t29) (tb a) w) H locs := by rw [hw9] at hB; exact hB
          refine W.eq (g2 := F0 m 80 ls [.ref q37, .int u, .ref (a 0)]) rfl ?_
          refine call_V (n := 2) (k0 := 2) (As := [.int u, .ref q37]) (rest := []) hX hB (k_X10_become κ l w a r f (va_up q 3 t29) u q37 q38 (r (2 * y.toNatClampNeg)) (r (2 * z.toNatClampNeg + 1)) F39 hm ⟨by omega, by omega, by omega, by omega⟩ (by assumption) (by assumption)) ⟨rfl, by decide, by decide, by decide +kernel⟩ wm_6_104 wm_6_106 wp_37 wm_1_6 wm_6_107 ⟨Nat.le_of_ble_eq_true rfl, Nat.le_of_ble_eq_true rfl⟩ ⟨Nat.le_of_ble_eq_true rfl, Nat.le_of_ble_eq_true rfl⟩ (mw0x (a := a) (r := r) (f := f) (q := (va_up q 3 t29)) (T := tb a) (w := w) rfl) rfl rfl rfl hl.1 rfl (Nat.le_of_ble_eq_true rfl) dX10_multiply_80 (fun o w' H locs hp hB => ?_)
          obtain ⟨x40, an41, rn42, fn43, qn44, rfl, hf45, hf46, hf47, hw9⟩ := hp
          replace hB : Bd κ A s (mw κ an41 rn42 fn43 qn44 (tb an41) w) H locs := by rw [hw9] at hB; exact hB
          refine W.eq (g2 := F0 m 83 ls [.int x40]) rfl ?_
          rw [← hQ]
          exact end_i hX hB hA3 rfl rfl ⟨x40, an41, rn42, fn43, qn44, rfl, (hf45.trans rfl), hf46, (hf47.trans rfl), rfl⟩ (Nat.le_of_ble_eq_true rfl) (Nat.le_of_ble_eq_true rfl) dX10_multiply_83
        · rw [neqP (a := r (2 * y.toNatClampNeg + 1)) (b := r (2 * z.toNatClampNeg)) (by omega) (by omega)] at c34
          refine lv_aload_n hx hb dX10_multiply_56 rfl (lv_at hl 0 rfl) ?_
          refine call_V (n := 0) (k0 := 0) (As := []) (rest := []) hX hB (k_X10_no κ l (mw κ a r f (va_up q 3 t29) (tb a) w) 0 (a 0) (a 1) ((va_up q 3 t29) 0) ((va_up q 3 t29) 1) ((va_up q 3 t29) 2) ((va_up q 3 t29) 3) (mw0x (a := a) (r := r) (f := f) (q := (va_up q 3 t29)) (T := tb a) (w := w) rfl)) ⟨rfl, by decide, by decide, by decide +kernel⟩ wm_6_85 wm_6_87 wp_36 wm_1_6 wm_6_88 ⟨Nat.le_of_ble_eq_true rfl, Nat.le_of_ble_eq_true rfl⟩ ⟨Nat.le_of_ble_eq_true rfl, Nat.le_of_ble_eq_true rfl⟩ (mw0x (a := a) (r := r) (f := f) (q := (va_up q 3 t29)) (T := tb a) (w := w) rfl) rfl rfl rfl hl.1 rfl (Nat.le_of_ble_eq_true rfl) dX10_multiply_57 (fun o w' H locs hp hB => ?_)
          obtain ⟨rfl, hw9⟩ := hp
          replace hB : Bd κ A s (mw κ a r f (va_up (va_up q 3 t29) 1 (((va_up q 3 t29) 1) + 1)) (tb a) w) H locs := by exact Bd_eq (mwQ1x rfl _) (by rw [hw9] at hB; exact hB)
          refine W.eq (g2 := F0 m 60 ls [.int (-9)]) rfl ?_
          refine lv_goto (tgt := 83) hx hb dX10_multiply_60 (by decide) ?_
          rw [← hQ]
          exact end_i hX hB hA3 rfl rfl ⟨(-9), a, r, f, (va_up (va_up q 3 t29) 1 (((va_up q 3 t29) 1) + 1)), rfl, rfl, hm, rfl, rfl⟩ (Nat.le_of_ble_eq_true rfl) (Nat.le_of_ble_eq_true rfl) dX10_multiply_83
set_option maxHeartbeats 4000000 in
set_option maxRecDepth 100000 in
theorem k_X10_take (κ : Kt) (l : Launch) (w : va_W) (a r : Nat → Nat) (f : Nat → Nat → Int64) (q : Nat → Int32) (y : Int32) (z : Int32) (u : Int32) (hm : mok r f) : CM κ l yX10_take cX10_take 5 (some .int) 6 144 7 76 [.ref (a 0), .int y, .int z, .int u] (mw κ a r f q (tb a) w) (fun o w' => ∃ (x : Int32) (a' : Nat → Nat) (r' : Nat → Nat) (f' : Nat → Nat → Int64) (q' : Nat → Int32), o = some (.int x) ∧ (a' 0 = a 0) ∧ (mok r' f') ∧ (q' 2 = q 2) ∧ w' = mw κ a' r' f' q' (tb a') w) := by
  refine CM_begin (plainFor_of_name (by decide)) (Nat.le_of_ble_eq_true rfl) ?_
  intro p e s m args below meth c A Q hX hnm hA3 hQ hB ls hl
  have hx := hX.1.1
  have hb := hX.1.2.1
  have hl : lv_has ls 5 [(0, .ref (a 0)), (1, .int y), (2, .int z), (3, .int u)] := hl
  refine lv_aload_n hx hb dX10_take_0 rfl (lv_at hl 0 rfl) ?_
  refine lv_iload_n hx hb dX10_take_1 rfl (lv_at hl 1 rfl) ?_
  refine call_S (n := 1) (As := [.int y]) (rest := [.ref (a 0)]) hX hB (k_X10_isTable κ l (mw κ a r f q (tb a) w) y) ⟨by decide, by decide, by decide +kernel⟩ wm_5_182 wm_5_183 wm_1_6 wm_5_184 ⟨Nat.le_of_ble_eq_true rfl, Nat.le_of_ble_eq_true rfl⟩ ⟨Nat.le_of_ble_eq_true rfl, Nat.le_of_ble_eq_true rfl⟩ rfl hl.1 rfl (Nat.le_of_ble_eq_true rfl) dX10_take_2 (fun o w' H locs hp hB => ?_)
  obtain ⟨z1, rfl, hf2, hw9⟩ := hp
  replace hB : Bd κ A s (mw κ a r f q (tb a) w) H locs := by rw [hw9] at hB; exact hB
  rcases hf2 with rfl | ⟨rfl, hz3a, hz3b⟩
  · refine W.eq (g2 := F0 m 5 ls [.int 0, .ref (a 0)]) rfl ?_
    refine lv_if_eq (tgt := 15) hx hb dX10_take_5 (by decide) (fun _ => ?_) (fun c4 => False.elim (by revert c4; decide))
    refine lv_iconst (v := 1) hx hb dX10_take_15 (by decide) ?_
    refine lv_goto (tgt := 20) hx hb dX10_take_16 (by decide) ?_
    refine lv_iload_n hx hb dX10_take_20 rfl (lv_at hl 2 rfl) ?_
    refine lv_if_lt (tgt := 29) hx hb dX10_take_21 (by decide) (fun c5 => ?_) (fun c5 => ?_)
    · refine lv_iconst (v := 1) hx hb dX10_take_29 (by decide) ?_
      refine lv_goto (tgt := 34) hx hb dX10_take_30 (by decide) ?_
      refine call_V (n := 2) (k0 := 0) (As := [.int 1, .int 1]) (rest := []) hX hB (k_X10_isThrown_ κ l (mw κ a r f q (tb a) w) 0 (a 0) (a 1) (q 0) (q 1) (q 2) (q 3) 1 1 (mw0x (a := a) (r := r) (f := f) (q := q) (T := tb a) (w := w) rfl)) ⟨rfl, by decide, by decide, by decide +kernel⟩ wm_5_188 wm_5_190 wp_27 wm_1_6 wm_5_191 ⟨Nat.le_of_ble_eq_true rfl, Nat.le_of_ble_eq_true rfl⟩ ⟨Nat.le_of_ble_eq_true rfl, Nat.le_of_ble_eq_true rfl⟩ (mw0x (a := a) (r := r) (f := f) (q := q) (T := tb a) (w := w) rfl) rfl rfl rfl hl.1 rfl (Nat.le_of_ble_eq_true rfl) dX10_take_34 (fun o w' H locs hp hB => ?_)
      obtain ⟨x6, t7, rfl, hf8, hw9⟩ := hp
      replace hB : Bd κ A s (mw κ a r f (va_up q 3 t7) (tb a) w) H locs := by exact Bd_eq (mwQ3x rfl _) (by rw [hw9] at hB; exact hB)
      obtain rfl : x6 = 1 := hf8.trans (by decide)
      refine W.eq (g2 := F0 m 37 ls [.int 1]) rfl ?_
      refine lv_if_eq (tgt := 42) hx hb dX10_take_37 (by decide) (fun c9 => False.elim (by revert c9; decide)) (fun _ => ?_)
      refine lv_iconst (v := 0) hx hb dX10_take_40 (by decide) ?_
      rw [← hQ]
      exact end_i hX hB hA3 rfl rfl ⟨0, a, r, f, (va_up q 3 t7), rfl, rfl, hm, rfl, rfl⟩ (Nat.le_of_ble_eq_true rfl) (Nat.le_of_ble_eq_true rfl) dX10_take_41
    · refine lv_iload_n hx hb dX10_take_24 rfl (lv_at hl 2 rfl) ?_
      refine lv_iconst (v := 4) hx hb dX10_take_25 (by decide) ?_
      refine lv_icmp_le (tgt := 33) hx hb dX10_take_26 (by decide) (fun c10 => ?_) (fun c10 => ?_)
      · refine lv_iconst (v := 0) hx hb dX10_take_33 (by decide) ?_
        refine call_V (n := 2) (k0 := 0) (As := [.int 1, .int 0]) (rest := []) hX hB (k_X10_isThrown_ κ l (mw κ a r f q (tb a) w) 0 (a 0) (a 1) (q 0) (q 1) (q 2) (q 3) 1 0 (mw0x (a := a) (r := r) (f := f) (q := q) (T := tb a) (w := w) rfl)) ⟨rfl, by decide, by decide, by decide +kernel⟩ wm_5_188 wm_5_190 wp_27 wm_1_6 wm_5_191 ⟨Nat.le_of_ble_eq_true rfl, Nat.le_of_ble_eq_true rfl⟩ ⟨Nat.le_of_ble_eq_true rfl, Nat.le_of_ble_eq_true rfl⟩ (mw0x (a := a) (r := r) (f := f) (q := q) (T := tb a) (w := w) rfl) rfl rfl rfl hl.1 rfl (Nat.le_of_ble_eq_true rfl) dX10_take_34 (fun o w' H locs hp hB => ?_)
        obtain ⟨x11, t12, rfl, hf13, hw9⟩ := hp
        replace hB : Bd κ A s (mw κ a r f (va_up q 3 t12) (tb a) w) H locs := by exact Bd_eq (mwQ3x rfl _) (by rw [hw9] at hB; exact hB)
        obtain rfl : x11 = 1 := hf13.trans (by decide)
        refine W.eq (g2 := F0 m 37 ls [.int 1]) rfl ?_
        refine lv_if_eq (tgt := 42) hx hb dX10_take_37 (by decide) (fun c14 => False.elim (by revert c14; decide)) (fun _ => ?_)
        refine lv_iconst (v := 0) hx hb dX10_take_40 (by decide) ?_
        rw [← hQ]
        exact end_i hX hB hA3 rfl rfl ⟨0, a, r, f, (va_up q 3 t12), rfl, rfl, hm, rfl, rfl⟩ (Nat.le_of_ble_eq_true rfl) (Nat.le_of_ble_eq_true rfl) dX10_take_41
      · refine lv_iconst (v := 1) hx hb dX10_take_29 (by decide) ?_
        refine lv_goto (tgt := 34) hx hb dX10_take_30 (by decide) ?_
        refine call_V (n := 2) (k0 := 0) (As := [.int 1, .int 1]) (rest := []) hX hB (k_X10_isThrown_ κ l (mw κ a r f q (tb a) w) 0 (a 0) (a 1) (q 0) (q 1) (q 2) (q 3) 1 1 (mw0x (a := a) (r := r) (f := f) (q := q) (T := tb a) (w := w) rfl)) ⟨rfl, by decide, by decide, by decide +kernel⟩ wm_5_188 wm_5_190 wp_27 wm_1_6 wm_5_191 ⟨Nat.le_of_ble_eq_true rfl, Nat.le_of_ble_eq_true rfl⟩ ⟨Nat.le_of_ble_eq_true rfl, Nat.le_of_ble_eq_true rfl⟩ (mw0x (a := a) (r := r) (f := f) (q := q) (T := tb a) (w := w) rfl) rfl rfl rfl hl.1 rfl (Nat.le_of_ble_eq_true rfl) dX10_take_34 (fun o w' H locs hp hB => ?_)
        obtain ⟨x15, t16, rfl, hf17, hw9⟩ := hp
        replace hB : Bd κ A s (mw κ a r f (va_up q 3 t16) (tb a) w) H locs := by exact Bd_eq (mwQ3x rfl _) (by rw [hw9] at hB; exact hB)
        obtain rfl : x15 = 1 := hf17.trans (by decide)
        refine W.eq (g2 := F0 m 37 ls [.int 1]) rfl ?_
        refine lv_if_eq (tgt := 42) hx hb dX10_take_37 (by decide) (fun c18 => False.elim (by revert c18; decide)) (fun _ => ?_)
        refine lv_iconst (v := 0) hx hb dX10_take_40 (by decide) ?_
        rw [← hQ]
        exact end_i hX hB hA3 rfl rfl ⟨0, a, r, f, (va_up q 3 t16), rfl, rfl, hm, rfl, rfl⟩ (Nat.le_of_ble_eq_true rfl) (Nat.le_of_ble_eq_true rfl) dX10_take_41
  · refine W.eq (g2 := F0 m 5 ls [.int 1, .ref (a 0)]) rfl ?_
    refine lv_if_eq (tgt := 15) hx hb dX10_take_5 (by decide) (fun c19 => False.elim (by revert c19; decide)) (fun _ => ?_)
    refine lv_iload_n hx hb dX10_take_8 rfl (lv_at hl 3 rfl) ?_
    refine call_S (n := 1) (As := [.int u]) (rest := [.ref (a 0)]) hX hB (k_X10_isTable κ l (mw κ a r f q (tb a) w) u) ⟨by decide, by decide, by decide +kernel⟩ wm_5_182 wm_5_183 wm_1_6 wm_5_184 ⟨Nat.le_of_ble_eq_true rfl, Nat.le_of_ble_eq_true rfl⟩ ⟨Nat.le_of_ble_eq_true rfl, Nat.le_of_ble_eq_true rfl⟩ rfl hl.1 rfl (Nat.le_of_ble_eq_true rfl) dX10_take_9 (fun o w' H locs hp hB => ?_)
    obtain ⟨z20, rfl, hf21, hw9⟩ := hp
    replace hB : Bd κ A s (mw κ a r f q (tb a) w) H locs := by rw [hw9] at hB; exact hB
    rcases hf21 with rfl | ⟨rfl, hz22a, hz22b⟩
    · refine W.eq (g2 := F0 m 12 ls [.int 0, .ref (a 0)]) rfl ?_
      refine lv_if_ne (tgt := 19) hx hb dX10_take_12 (by decide) (fun c23 => False.elim (by revert c23; decide)) (fun _ => ?_)
      refine lv_iconst (v := 1) hx hb dX10_take_15 (by decide) ?_
      refine lv_goto (tgt := 20) hx hb dX10_take_16 (by decide) ?_
      refine lv_iload_n hx hb dX10_take_20 rfl (lv_at hl 2 rfl) ?_
      refine lv_if_lt (tgt := 29) hx hb dX10_take_21 (by decide) (fun c24 => ?_) (fun c24 => ?_)
      · refine lv_iconst (v := 1) hx hb dX10_take_29 (by decide) ?_
        refine lv_goto (tgt := 34) hx hb dX10_take_30 (by decide) ?_
        refine call_V (n := 2) (k0 := 0) (As := [.int 1, .int 1]) (rest := []) hX hB (k_X10_isThrown_ κ l (mw κ a r f q (tb a) w) 0 (a 0) (a 1) (q 0) (q 1) (q 2) (q 3) 1 1 (mw0x (a := a) (r := r) (f := f) (q := q) (T := tb a) (w := w) rfl)) ⟨rfl, by decide, by decide, by decide +kernel⟩ wm_5_188 wm_5_190 wp_27 wm_1_6 wm_5_191 ⟨Nat.le_of_ble_eq_true rfl, Nat.le_of_ble_eq_true rfl⟩ ⟨Nat.le_of_ble_eq_true rfl, Nat.le_of_ble_eq_true rfl⟩ (mw0x (a := a) (r := r) (f := f) (q := q) (T := tb a) (w := w) rfl) rfl rfl rfl hl.1 rfl (Nat.le_of_ble_eq_true rfl) dX10_take_34 (fun o w' H locs hp hB => ?_)
        obtain ⟨x25, t26, rfl, hf27, hw9⟩ := hp
        replace hB : Bd κ A s (mw κ a r f (va_up q 3 t26) (tb a) w) H locs := by exact Bd_eq (mwQ3x rfl _) (by rw [hw9] at hB; exact hB)
        obtain rfl : x25 = 1 := hf27.trans (by decide)
        refine W.eq (g2 := F0 m 37 ls [.int 1]) rfl ?_
        refine lv_if_eq (tgt := 42) hx hb dX10_take_37 (by decide) (fun c28 => False.elim (by revert c28; decide)) (fun _ => ?_)
        refine lv_iconst (v := 0) hx hb dX10_take_40 (by decide) ?_
        rw [← hQ]
        exact end_i hX hB hA3 rfl rfl ⟨0, a, r, f, (va_up q 3 t26), rfl, rfl, hm, rfl, rfl⟩ (Nat.le_of_ble_eq_true rfl) (Nat.le_of_ble_eq_true rfl) dX10_take_41
      · refine lv_iload_n hx hb dX10_take_24 rfl (lv_at hl 2 rfl) ?_
        refine lv_iconst (v := 4) hx hb dX10_take_25 (by decide) ?_
        refine lv_icmp_le (tgt := 33) hx hb dX10_take_26 (by decide) (fun c29 => ?_) (fun c29 => ?_)
        · refine lv_iconst (v := 0) hx hb dX10_take_33 (by decide) ?_
          refine call_V (n := 2) (k0 := 0) (As := [.int 1, .int 0]) (rest := []) hX hB (k_X10_isThrown_ κ l (mw κ a r f q (tb a) w) 0 (a 0) (a 1) (q 0) (q 1) (q 2) (q 3) 1 0 (mw0x (a := a) (r := r) (f := f) (q := q) (T := tb a) (w := w) rfl)) ⟨rfl, by decide, by decide, by decide +kernel⟩ wm_5_188 wm_5_190 wp_27 wm_1_6 wm_5_191 ⟨Nat.le_of_ble_eq_true rfl, Nat.le_of_ble_eq_true rfl⟩ ⟨Nat.le_of_ble_eq_true rfl, Nat.le_of_ble_eq_true rfl⟩ (mw0x (a := a) (r := r) (f := f) (q := q) (T := tb a) (w := w) rfl) rfl rfl rfl hl.1 rfl (Nat.le_of_ble_eq_true rfl) dX10_take_34 (fun o w' H locs hp hB => ?_)
          obtain ⟨x30, t31, rfl, hf32, hw9⟩ := hp
          replace hB : Bd κ A s (mw κ a r f (va_up q 3 t31) (tb a) w) H locs := by exact Bd_eq (mwQ3x rfl _) (by rw [hw9] at hB; exact hB)
          obtain rfl : x30 = 1 := hf32.trans (by decide)
          refine W.eq (g2 := F0 m 37 ls [.int 1]) rfl ?_
          refine lv_if_eq (tgt := 42) hx hb dX10_take_37 (by decide) (fun c33 => False.elim (by revert c33; decide)) (fun _ => ?_)
          refine lv_iconst (v := 0) hx hb dX10_take_40 (by decide) ?_
          rw [← hQ]
          exact end_i hX hB hA3 rfl rfl ⟨0, a, r, f, (va_up q 3 t31), rfl, rfl, hm, rfl, rfl⟩ (Nat.le_of_ble_eq_true rfl) (Nat.le_of_ble_eq_true rfl) dX10_take_41
        · refine lv_iconst (v := 1) hx hb dX10_take_29 (by decide) ?_
          refine lv_goto (tgt := 34) hx hb dX10_take_30 (by decide) ?_
          refine call_V (n := 2) (k0 := 0) (As := [.int 1, .int 1]) (rest := []) hX hB (k_X10_isThrown_ κ l (mw κ a r f q (tb a) w) 0 (a 0) (a 1) (q 0) (q 1) (q 2) (q 3) 1 1 (mw0x (a := a) (r := r) (f := f) (q := q) (T := tb a) (w := w) rfl)) ⟨rfl, by decide, by decide, by decide +kernel⟩ wm_5_188 wm_5_190 wp_27 wm_1_6 wm_5_191 ⟨Nat.le_of_ble_eq_true rfl, Nat.le_of_ble_eq_true rfl⟩ ⟨Nat.le_of_ble_eq_true rfl, Nat.le_of_ble_eq_true rfl⟩ (mw0x (a := a) (r := r) (f := f) (q := q) (T := tb a) (w := w) rfl) rfl rfl rfl hl.1 rfl (Nat.le_of_ble_eq_true rfl) dX10_take_34 (fun o w' H locs hp hB => ?_)
          obtain ⟨x34, t35, rfl, hf36, hw9⟩ := hp
          replace hB : Bd κ A s (mw κ a r f (va_up q 3 t35) (tb a) w) H locs := by exact Bd_eq (mwQ3x rfl _) (by rw [hw9] at hB; exact hB)
          obtain rfl : x34 = 1 := hf36.trans (by decide)
          refine W.eq (g2 := F0 m 37 ls [.int 1]) rfl ?_
          refine lv_if_eq (tgt := 42) hx hb dX10_take_37 (by decide) (fun c37 => False.elim (by revert c37; decide)) (fun _ => ?_)
          refine lv_iconst (v := 0) hx hb dX10_take_40 (by decide) ?_
          rw [← hQ]
          exact end_i hX hB hA3 rfl rfl ⟨0, a, r, f, (va_up q 3 t35), rfl, rfl, hm, rfl, rfl⟩ (Nat.le_of_ble_eq_true rfl) (Nat.le_of_ble_eq_true rfl) dX10_take_41
    · refine W.eq (g2 := F0 m 12 ls [.int 1, .ref (a 0)]) rfl ?_
      refine lv_if_ne (tgt := 19) hx hb dX10_take_12 (by decide) (fun _ => ?_) (fun c38 => False.elim (by revert c38; decide))
      refine lv_iconst (v := 0) hx hb dX10_take_19 (by decide) ?_
      refine lv_iload_n hx hb dX10_take_20 rfl (lv_at hl 2 rfl) ?_
      refine lv_if_lt (tgt := 29) hx hb dX10_take_21 (by decide) (fun c39 => ?_) (fun c39 => ?_)
      · refine lv_iconst (v := 1) hx hb dX10_take_29 (by decide) ?_
        refine lv_goto (tgt := 34) hx hb dX10_take_30 (by decide) ?_
        refine call_V (n := 2) (k0 := 0) (As := [.int 0, .int 1]) (rest := []) hX hB (k_X10_isThrown_ κ l (mw κ a r f q (tb a) w) 0 (a 0) (a 1) (q 0) (q 1) (q 2) (q 3) 0 1 (mw0x (a := a) (r := r) (f := f) (q := q) (T := tb a) (w := w) rfl)) ⟨rfl, by decide, by decide, by decide +kernel⟩ wm_5_188 wm_5_190 wp_27 wm_1_6 wm_5_191 ⟨Nat.le_of_ble_eq_true rfl, Nat.le_of_ble_eq_true rfl⟩ ⟨Nat.le_of_ble_eq_true rfl, Nat.le_of_ble_eq_true rfl⟩ (mw0x (a := a) (r := r) (f := f) (q := q) (T := tb a) (w := w) rfl) rfl rfl rfl hl.1 rfl (Nat.le_of_ble_eq_true rfl) dX10_take_34 (fun o w' H locs hp hB => ?_)
        obtain ⟨x40, t41, rfl, hf42, hw9⟩ := hp
        replace hB : Bd κ A s (mw κ a r f (va_up q 3 t41) (tb a) w) H locs := by exact Bd_eq (mwQ3x rfl _) (by rw [hw9] at hB; exact hB)
        obtain rfl : x40 = 1 := hf42.trans (by decide)
        refine W.eq (g2 := F0 m 37 ls [.int 1]) rfl ?_
        refine lv_if_eq (tgt := 42) hx hb dX10_take_37 (by decide) (fun c43 => False.elim (by revert c43; decide)) (fun _ => ?_)
        refine lv_iconst (v := 0) hx hb dX10_take_40 (by decide) ?_
        rw [← hQ]
        exact end_i hX hB hA3 rfl rfl ⟨0, a, r, f, (va_up q 3 t41), rfl, rfl, hm, rfl, rfl⟩ (Nat.le_of_ble_eq_true rfl) (Nat.le_of_ble_eq_true rfl) dX10_take_41
      · refine lv_iload_n hx hb dX10_take_24 rfl (lv_at hl 2 rfl) ?_
        refine lv_iconst (v := 4) hx hb dX10_take_25 (by decide) ?_
        refine lv_icmp_le (tgt := 33) hx hb dX10_take_26 (by decide) (fun c44 => ?_) (fun c44 => ?_)
        · refine lv_iconst (v := 0) hx hb dX10_take_33 (by decide) ?_
          refine call_V (n := 2) (k0 := 0) (As := [.int 0, .int 0]) (rest := []) hX hB (k_X10_isThrown_ κ l (mw κ a r f q (tb a) w) 0 (a 0) (a 1) (q 0) (q 1) (q 2) (q 3) 0 0 (mw0x (a := a) (r := r) (f := f) (q := q) (T := tb a) (w := w) rfl)) ⟨rfl, by decide, by decide, by decide +kernel⟩ wm_5_188 wm_5_190 wp_27 wm_1_6 wm_5_191 ⟨Nat.le_of_ble_eq_true rfl, Nat.le_of_ble_eq_true rfl⟩ ⟨Nat.le_of_ble_eq_true rfl, Nat.le_of_ble_eq_true rfl⟩ (mw0x (a := a) (r := r) (f := f) (q := q) (T := tb a) (w := w) rfl) rfl rfl rfl hl.1 rfl (Nat.le_of_ble_eq_true rfl) dX10_take_34 (fun o w' H locs hp hB => ?_)
          obtain ⟨x45, t46, rfl, hf47, hw9⟩ := hp
          replace hB : Bd κ A s (mw κ a r f (va_up q 3 t46) (tb a) w) H locs := by exact Bd_eq (mwQ3x rfl _) (by rw [hw9] at hB; exact hB)
          obtain rfl : x45 = 0 := hf47.trans (by decide)
          refine W.eq (g2 := F0 m 37 ls [.int 0]) rfl ?_
          refine lv_if_eq (tgt := 42) hx hb dX10_take_37 (by decide) (fun _ => ?_) (fun c48 => False.elim (by revert c48; decide))
          refine lv_aload_n hx hb dX10_take_42 rfl (lv_at hl 0 rfl) ?_
          refine gf (k0 := 0) hX hB (mw0x (a := a) (r := r) (f := f) (q := (va_up q 3 t46)) (T := tb a) (w := w) rfl) rfl in10 0 (by decide) wm_5_162 rfl rfl dX10_take_43 ?_
          refine lv_iload_n hx hb dX10_take_46 rfl (lv_at hl 1 rfl) ?_
          refine aaldM (k0 := 1) hX hB (mw1 (a := a) (r := r) (f := f) (q := (va_up q 3 t46)) (T := tb a) (w := w)) (vp_in_mk (by assumption) (by assumption)) rfl dX10_take_47 ?_
          have hb49 := mok_r hm y.toNatClampNeg (by omega)
          refine lv_iload_n hx hb dX10_take_48 rfl (lv_at hl 2 rfl) ?_
          refine call_S (n := 2) (As := [.ref (a (2 + 2 * y.toNatClampNeg)), .int z]) (rest := []) hX hB (k_X10_toldOf κ l (mw κ a r f (va_up q 3 t46) (tb a) w) (2 + 2 * y.toNatClampNeg) (3 + 2 * y.toNatClampNeg) (a (2 + 2 * y.toNatClampNeg)) (a (3 + 2 * y.toNatClampNeg)) (r (2 * y.toNatClampNeg)) (r (2 * y.toNatClampNeg + 1)) (f y.toNatClampNeg) z (mwG (i := y.toNatClampNeg) (a := a) (r := r) (f := f) (q := (va_up q 3 t46)) (T := tb a) (w := w) (by omega)) (mwA (i := y.toNatClampNeg) (a := a) (r := r) (f := f) (q := (va_up q 3 t46)) (T := tb a) (w := w) (by omega)) (mok_shp (i := y.toNatClampNeg) hm (by omega)) (by omega) (fun k hk => sm_ng ((hm _ (by omega)).2 k hk)) ⟨by assumption, by first | assumption | exact Int32.not_lt.mp (by assumption)⟩) ⟨by decide, by decide, by decide +kernel⟩ wm_6_120 wm_6_121 wm_1_6 wm_6_122 ⟨Nat.le_of_ble_eq_true rfl, Nat.le_of_ble_eq_true rfl⟩ ⟨Nat.le_of_ble_eq_true rfl, Nat.le_of_ble_eq_true rfl⟩ rfl hl.1 rfl (Nat.le_of_ble_eq_true rfl) dX10_take_49 (fun o w' H locs hp hB => ?_)
          rcases hp with ⟨rfl, hw9⟩ | ⟨q50, q51, R52, C53, F54, rfl, ⟨⟨hd55a, hd55b, hd55c, hd55d⟩, hd55t⟩, hw9⟩
          · replace hB : Bd κ A s (mw κ a r f (va_up q 3 t46) (tb a) w) H locs := by rw [hw9] at hB; exact hB
            refine W.eq (g2 := F0 m 52 ls [.null]) rfl ?_
            refine lv_astoreN (lv' := [(4, .null), (0, .ref (a 0)), (1, .int y), (2, .int z), (3, .int u)]) hx hb dX10_take_52 hl (by decide) rfl (fun ls hl => ?_)
            refine lv_aloadN hx hb dX10_take_54 (lv_at hl 0 rfl) ?_
            refine lv_ifnonnullN hx hb dX10_take_56 ?_
            refine lv_aload_n hx hb dX10_take_59 rfl (lv_at hl 1 rfl) ?_
            refine call_V (n := 0) (k0 := 0) (As := []) (rest := []) hX hB (k_X10_no κ l (mw κ a r f (va_up q 3 t46) (tb a) w) 0 (a 0) (a 1) ((va_up q 3 t46) 0) ((va_up q 3 t46) 1) ((va_up q 3 t46) 2) ((va_up q 3 t46) 3) (mw0x (a := a) (r := r) (f := f) (q := (va_up q 3 t46)) (T := tb a) (w := w) rfl)) ⟨rfl, by decide, by decide, by decide +kernel⟩ wm_6_85 wm_6_87 wp_36 wm_1_6 wm_6_88 ⟨Nat.le_of_ble_eq_true rfl, Nat.le_of_ble_eq_true rfl⟩ ⟨Nat.le_of_ble_eq_true rfl, Nat.le_of_ble_eq_true rfl⟩ (mw0x (a := a) (r := r) (f := f) (q := (va_up q 3 t46)) (T := tb a) (w := w) rfl) rfl rfl rfl hl.1 rfl (Nat.le_of_ble_eq_true rfl) dX10_take_60 (fun o w' H locs hp hB => ?_)
            obtain ⟨rfl, hw9⟩ := hp
            replace hB : Bd κ A s (mw κ a r f (va_up (va_up q 3 t46) 1 (((va_up q 3 t46) 1) + 1)) (tb a) w) H locs := by exact Bd_eq (mwQ1x rfl _) (by rw [hw9] at hB; exact hB)
            refine W.eq (g2 := F0 m 63 ls [.int (-9)]) rfl ?_
            refine lv_goto (tgt := 73) hx hb dX10_take_63 (by decide) ?_
            rw [← hQ]
            exact end_i hX hB hA3 rfl rfl ⟨(-9), a, r, f, (va_up (va_up q 3 t46) 1 (((va_up q 3 t46) 1) + 1)), rfl, rfl, hm, rfl, rfl⟩ (Nat.le_of_ble_eq_true rfl) (Nat.le_of_ble_eq_true rfl) dX10_take_73
          · replace hB : Bd κ A s (lA κ q51 (R52 * 5) F54 :: gO q50 R52 C53 q51 :: mw κ a r f (va_up q 3 t46) (tb a) w) H locs := by rw [hw9] at hB; exact hB
            refine W.eq (g2 := F0 m 52 ls [.ref q50]) rfl ?_
            refine lv_astore (lv' := [(4, .ref q50), (0, .ref (a 0)), (1, .int y), (2, .int z), (3, .int u)]) hx hb dX10_take_52 hl (by decide) rfl (fun ls hl => ?_)
            refine lv_aload hx hb dX10_take_54 (lv_at hl 0 rfl) ?_
            refine lv_ifnonnull (tgt := 66) hx hb dX10_take_56 (by decide) ?_
            refine lv_aload_n hx hb dX10_take_66 rfl (lv_at hl 1 rfl) ?_
            refine lv_iload_n hx hb dX10_take_67 rfl (lv_at hl 4 rfl) ?_
            refine lv_aload hx hb dX10_take_68 (lv_at hl 0 rfl) ?_
            refine call_V (n := 2) (k0 := 2) (As := [.int u, .ref q50]) (rest := []) hX hB (k_X10_become κ l w a r f (va_up q 3 t46) u q50 q51 R52 C53 F54 hm ⟨by omega, by omega, by omega, by omega⟩ (by assumption) (by assumption)) ⟨rfl, by decide, by decide, by decide +kernel⟩ wm_6_104 wm_6_106 wp_37 wm_1_6 wm_6_107 ⟨Nat.le_of_ble_eq_true rfl, Nat.le_of_ble_eq_true rfl⟩ ⟨Nat.le_of_ble_eq_true rfl, Nat.le_of_ble_eq_true rfl⟩ (mw0x (a := a) (r := r) (f := f) (q := (va_up q 3 t46)) (T := tb a) (w := w) rfl) rfl rfl rfl hl.1 rfl (Nat.le_of_ble_eq_true rfl) dX10_take_70 (fun o w' H locs hp hB => ?_)
            obtain ⟨x56, an57, rn58, fn59, qn60, rfl, hf61, hf62, hf63, hw9⟩ := hp
            replace hB : Bd κ A s (mw κ an57 rn58 fn59 qn60 (tb an57) w) H locs := by rw [hw9] at hB; exact hB
            refine W.eq (g2 := F0 m 73 ls [.int x56]) rfl ?_
            rw [← hQ]
            exact end_i hX hB hA3 rfl rfl ⟨x56, an57, rn58, fn59, qn60, rfl, (hf61.trans rfl), hf62, (hf63.trans rfl), rfl⟩ (Nat.le_of_ble_eq_true rfl) (Nat.le_of_ble_eq_true rfl) dX10_take_73
        · refine lv_iconst (v := 1) hx hb dX10_take_29 (by decide) ?_
          refine lv_goto (tgt := 34) hx hb dX10_take_30 (by decide) ?_
          refine call_V (n := 2) (k0 := 0) (As := [.int 0, .int 1]) (rest := []) hX hB (k_X10_isThrown_ κ l (mw κ a r f q (tb a) w) 0 (a 0) (a 1) (q 0) (q 1) (q 2) (q 3) 0 1 (mw0x (a := a) (r := r) (f := f) (q := q) (T := tb a) (w := w) rfl)) ⟨rfl, by decide, by decide, by decide +kernel⟩ wm_5_188 wm_5_190 wp_27 wm_1_6 wm_5_191 ⟨Nat.le_of_ble_eq_true rfl, Nat.le_of_ble_eq_true rfl⟩ ⟨Nat.le_of_ble_eq_true rfl, Nat.le_of_ble_eq_true rfl⟩ (mw0x (a := a) (r := r) (f := f) (q := q) (T := tb a) (w := w) rfl) rfl rfl rfl hl.1 rfl (Nat.le_of_ble_eq_true rfl) dX10_take_34 (fun o w' H locs hp hB => ?_)
          obtain ⟨x64, t65, rfl, hf66, hw9⟩ := hp
          replace hB : Bd κ A s (mw κ a r f (va_up q 3 t65) (tb a) w) H locs := by exact Bd_eq (mwQ3x rfl _) (by rw [hw9] at hB; exact hB)
          obtain rfl : x64 = 1 := hf66.trans (by decide)
          refine W.eq (g2 := F0 m 37 ls [.int 1]) rfl ?_
          refine lv_if_eq (tgt := 42) hx hb dX10_take_37 (by decide) (fun c67 => False.elim (by revert c67; decide)) (fun _ => ?_)
          refine lv_iconst (v := 0) hx hb dX10_take_40 (by decide) ?_
          rw [← hQ]
          exact end_i hX hB hA3 rfl rfl ⟨0, a, r, f, (va_up q 3 t65), rfl, rfl, hm, rfl, rfl⟩ (Nat.le_of_ble_eq_true rfl) (Nat.le_of_ble_eq_true rfl) dX10_take_41
set_option maxHeartbeats 4000000 in
set_option maxRecDepth 100000 in
theorem k_X10_solve (κ : Kt) (l : Launch) (w : va_W) (a r : Nat → Nat) (f : Nat → Nat → Int64) (q : Nat → Int32) (y : Int32) (z : Int32) (u : Int32) (v : Int32) (hm : mok r f) : CM κ l yX10_solve cX10_solve 10 (some .int) 5 121 15 168 [.ref (a 0), .int y, .int z, .int u, .int v] (mw κ a r f q (tb a) w) (fun o w' => ∃ (x : Int32) (a' : Nat → Nat) (r' : Nat → Nat) (f' : Nat → Nat → Int64) (q' : Nat → Int32), o = some (.int x) ∧ (a' 0 = a 0) ∧ (mok r' f') ∧ (q' 2 = q 2) ∧ w' = mw κ a' r' f' q' (tb a') w) := by
  refine CM_begin (plainFor_of_name (by decide)) (Nat.le_of_ble_eq_true rfl) ?_
  intro p e s m args below meth c A Q hX hnm hA3 hQ hB ls hl
  have hx := hX.1.1
  have hb := hX.1.2.1
  have hl : lv_has ls 10 [(0, .ref (a 0)), (1, .int y), (2, .int z), (3, .int u), (4, .int v)] := hl
  refine lv_aload_n hx hb dX10_solve_0 rfl (lv_at hl 0 rfl) ?_
  refine lv_iload_n hx hb dX10_solve_1 rfl (lv_at hl 1 rfl) ?_
  refine call_S (n := 1) (As := [.int y]) (rest := [.ref (a 0)]) hX hB (k_X10_isTable κ l (mw κ a r f q (tb a) w) y) ⟨by decide, by decide, by decide +kernel⟩ wm_5_182 wm_5_183 wm_1_6 wm_5_184 ⟨Nat.le_of_ble_eq_true rfl, Nat.le_of_ble_eq_true rfl⟩ ⟨Nat.le_of_ble_eq_true rfl, Nat.le_of_ble_eq_true rfl⟩ rfl hl.1 rfl (Nat.le_of_ble_eq_true rfl) dX10_solve_2 (fun o w' H locs hp hB => ?_)
  obtain ⟨z1, rfl, hf2, hw9⟩ := hp
  replace hB : Bd κ A s (mw κ a r f q (tb a) w) H locs := by rw [hw9] at hB; exact hB
  rcases hf2 with rfl | ⟨rfl, hz3a, hz3b⟩
  · refine W.eq (g2 := F0 m 5 ls [.int 0, .ref (a 0)]) rfl ?_
    refine lv_if_eq (tgt := 25) hx hb dX10_solve_5 (by decide) (fun _ => ?_) (fun c4 => False.elim (by revert c4; decide))
    refine lv_iconst (v := 1) hx hb dX10_solve_25 (by decide) ?_
    refine lv_goto (tgt := 30) hx hb dX10_solve_26 (by decide) ?_
    refine call_V (n := 1) (k0 := 0) (As := [.int 1]) (rest := []) hX hB (k_X10_isThrown__ κ l (mw κ a r f q (tb a) w) 0 (a 0) (a 1) (q 0) (q 1) (q 2) (q 3) 1 (mw0x (a := a) (r := r) (f := f) (q := q) (T := tb a) (w := w) rfl)) ⟨rfl, by decide, by decide, by decide +kernel⟩ wm_6_11 wm_6_13 wp_33 wm_1_6 wm_6_14 ⟨Nat.le_of_ble_eq_true rfl, Nat.le_of_ble_eq_true rfl⟩ ⟨Nat.le_of_ble_eq_true rfl, Nat.le_of_ble_eq_true rfl⟩ (mw0x (a := a) (r := r) (f := f) (q := q) (T := tb a) (w := w) rfl) rfl rfl rfl hl.1 rfl (Nat.le_of_ble_eq_true rfl) dX10_solve_30 (fun o w' H locs hp hB => ?_)
    obtain ⟨x5, t6, rfl, hf7, hw9⟩ := hp
    replace hB : Bd κ A s (mw κ a r f (va_up q 3 t6) (tb a) w) H locs := by exact Bd_eq (mwQ3x rfl _) (by rw [hw9] at hB; exact hB)
    obtain rfl : x5 = 1 := hf7.trans (by decide)
    refine W.eq (g2 := F0 m 33 ls [.int 1]) rfl ?_
    refine lv_if_eq (tgt := 38) hx hb dX10_solve_33 (by decide) (fun c8 => False.elim (by revert c8; decide)) (fun _ => ?_)
    refine lv_iconst (v := 0) hx hb dX10_solve_36 (by decide) ?_
    rw [← hQ]
    exact end_i hX hB hA3 rfl rfl ⟨0, a, r, f, (va_up q 3 t6), rfl, rfl, hm, rfl, rfl⟩ (Nat.le_of_ble_eq_true rfl) (Nat.le_of_ble_eq_true rfl) dX10_solve_37
  · refine W.eq (g2 := F0 m 5 ls [.int 1, .ref (a 0)]) rfl ?_
    refine lv_if_eq (tgt := 25) hx hb dX10_solve_5 (by decide) (fun c9 => False.elim (by revert c9; decide)) (fun _ => ?_)
    refine lv_aload_n hx hb dX10_solve_8 rfl (lv_at hl 0 rfl) ?_
    refine lv_iload_n hx hb dX10_solve_9 rfl (lv_at hl 2 rfl) ?_
    refine lv_iload_n hx hb dX10_solve_10 rfl (lv_at hl 3 rfl) ?_
    refine call_V (n := 2) (k0 := 0) (As := [.int z, .int u]) (rest := [.ref (a 0)]) hX hB (k_X10_isColumn κ l w a r f q z u hm) ⟨rfl, by decide, by decide, by decide +kernel⟩ wm_5_229 wm_5_231 wp_32 wm_1_6 wm_5_232 ⟨Nat.le_of_ble_eq_true rfl, Nat.le_of_ble_eq_true rfl⟩ ⟨Nat.le_of_ble_eq_true rfl, Nat.le_of_ble_eq_true rfl⟩ (mw0x (a := a) (r := r) (f := f) (q := q) (T := tb a) (w := w) rfl) rfl rfl rfl hl.1 rfl (Nat.le_of_ble_eq_true rfl) dX10_solve_11 (fun o w' H locs hp hB => ?_)
    obtain ⟨x10, rfl, hf11, hw9⟩ := hp
    replace hB : Bd κ A s (mw κ a r f q (tb a) w) H locs := by rw [hw9] at hB; exact hB
    rcases hf11 with rfl | ⟨rfl, hz12a, hz12b, hz12c, hz12d⟩
    · refine W.eq (g2 := F0 m 14 ls [.int 0, .ref (a 0)]) rfl ?_
      refine lv_if_eq (tgt := 25) hx hb dX10_solve_14 (by decide) (fun _ => ?_) (fun c13 => False.elim (by revert c13; decide))
      refine lv_iconst (v := 1) hx hb dX10_solve_25 (by decide) ?_
      refine lv_goto (tgt := 30) hx hb dX10_solve_26 (by decide) ?_
      refine call_V (n := 1) (k0 := 0) (As := [.int 1]) (rest := []) hX hB (k_X10_isThrown__ κ l (mw κ a r f q (tb a) w) 0 (a 0) (a 1) (q 0) (q 1) (q 2) (q 3) 1 (mw0x (a := a) (r := r) (f := f) (q := q) (T := tb a) (w := w) rfl)) ⟨rfl, by decide, by decide, by decide +kernel⟩ wm_6_11 wm_6_13 wp_33 wm_1_6 wm_6_14 ⟨Nat.le_of_ble_eq_true rfl, Nat.le_of_ble_eq_true rfl⟩ ⟨Nat.le_of_ble_eq_true rfl, Nat.le_of_ble_eq_true rfl⟩ (mw0x (a := a) (r := r) (f := f) (q := q) (T := tb a) (w := w) rfl) rfl rfl rfl hl.1 rfl (Nat.le_of_ble_eq_true rfl) dX10_solve_30 (fun o w' H locs hp hB => ?_)
      obtain ⟨x14, t15, rfl, hf16, hw9⟩ := hp
      replace hB : Bd κ A s (mw κ a r f (va_up q 3 t15) (tb a) w) H locs := by exact Bd_eq (mwQ3x rfl _) (by rw [hw9] at hB; exact hB)
      obtain rfl : x14 = 1 := hf16.trans (by decide)
      refine W.eq (g2 := F0 m 33 ls [.int 1]) rfl ?_
      refine lv_if_eq (tgt := 38) hx hb dX10_solve_33 (by decide) (fun c17 => False.elim (by revert c17; decide)) (fun _ => ?_)
      refine lv_iconst (v := 0) hx hb dX10_solve_36 (by decide) ?_
      rw [← hQ]
      exact end_i hX hB hA3 rfl rfl ⟨0, a, r, f, (va_up q 3 t15), rfl, rfl, hm, rfl, rfl⟩ (Nat.le_of_ble_eq_true rfl) (Nat.le_of_ble_eq_true rfl) dX10_solve_37
    · refine W.eq (g2 := F0 m 14 ls [.int 1, .ref (a 0)]) rfl ?_
      refine lv_if_eq (tgt := 25) hx hb dX10_solve_14 (by decide) (fun c18 => False.elim (by revert c18; decide)) (fun _ => ?_)
      refine lv_iload hx hb dX10_solve_17 (lv_at hl 4 rfl) ?_
      refine call_S (n := 1) (As := [.int v]) (rest := [.ref (a 0)]) hX hB (k_X10_isTable κ l (mw κ a r f q (tb a) w) v) ⟨by decide, by decide, by decide +kernel⟩ wm_5_182 wm_5_183 wm_1_6 wm_5_184 ⟨Nat.le_of_ble_eq_true rfl, Nat.le_of_ble_eq_true rfl⟩ ⟨Nat.le_of_ble_eq_true rfl, Nat.le_of_ble_eq_true rfl⟩ rfl hl.1 rfl (Nat.le_of_ble_eq_true rfl) dX10_solve_19 (fun o w' H locs hp hB => ?_)
      obtain ⟨z19, rfl, hf20, hw9⟩ := hp
      replace hB : Bd κ A s (mw κ a r f q (tb a) w) H locs := by rw [hw9] at hB; exact hB
      rcases hf20 with rfl | ⟨rfl, hz21a, hz21b⟩
      · refine W.eq (g2 := F0 m 22 ls [.int 0, .ref (a 0)]) rfl ?_
        refine lv_if_ne (tgt := 29) hx hb dX10_solve_22 (by decide) (fun c22 => False.elim (by revert c22; decide)) (fun _ => ?_)
        refine lv_iconst (v := 1) hx hb dX10_solve_25 (by decide) ?_
        refine lv_goto (tgt := 30) hx hb dX10_solve_26 (by decide) ?_
        refine call_V (n := 1) (k0 := 0) (As := [.int 1]) (rest := []) hX hB (k_X10_isThrown__ κ l (mw κ a r f q (tb a) w) 0 (a 0) (a 1) (q 0) (q 1) (q 2) (q 3) 1 (mw0x (a := a) (r := r) (f := f) (q := q) (T := tb a) (w := w) rfl)) ⟨rfl, by decide, by decide, by decide +kernel⟩ wm_6_11 wm_6_13 wp_33 wm_1_6 wm_6_14 ⟨Nat.le_of_ble_eq_true rfl, Nat.le_of_ble_eq_true rfl⟩ ⟨Nat.le_of_ble_eq_true rfl, Nat.le_of_ble_eq_true rfl⟩ (mw0x (a := a) (r := r) (f := f) (q := q) (T := tb a) (w := w) rfl) rfl rfl rfl hl.1 rfl (Nat.le_of_ble_eq_true rfl) dX10_solve_30 (fun o w' H locs hp hB => ?_)
        obtain ⟨x23, t24, rfl, hf25, hw9⟩ := hp
        replace hB : Bd κ A s (mw κ a r f (va_up q 3 t24) (tb a) w) H locs := by exact Bd_eq (mwQ3x rfl _) (by rw [hw9] at hB; exact hB)
        obtain rfl : x23 = 1 := hf25.trans (by decide)
        refine W.eq (g2 := F0 m 33 ls [.int 1]) rfl ?_
        refine lv_if_eq (tgt := 38) hx hb dX10_solve_33 (by decide) (fun c26 => False.elim (by revert c26; decide)) (fun _ => ?_)
        refine lv_iconst (v := 0) hx hb dX10_solve_36 (by decide) ?_
        rw [← hQ]
        exact end_i hX hB hA3 rfl rfl ⟨0, a, r, f, (va_up q 3 t24), rfl, rfl, hm, rfl, rfl⟩ (Nat.le_of_ble_eq_true rfl) (Nat.le_of_ble_eq_true rfl) dX10_solve_37
      · refine W.eq (g2 := F0 m 22 ls [.int 1, .ref (a 0)]) rfl ?_
        refine lv_if_ne (tgt := 29) hx hb dX10_solve_22 (by decide) (fun _ => ?_) (fun c27 => False.elim (by revert c27; decide))
        refine lv_iconst (v := 0) hx hb dX10_solve_29 (by decide) ?_
        refine call_V (n := 1) (k0 := 0) (As := [.int 0]) (rest := []) hX hB (k_X10_isThrown__ κ l (mw κ a r f q (tb a) w) 0 (a 0) (a 1) (q 0) (q 1) (q 2) (q 3) 0 (mw0x (a := a) (r := r) (f := f) (q := q) (T := tb a) (w := w) rfl)) ⟨rfl, by decide, by decide, by decide +kernel⟩ wm_6_11 wm_6_13 wp_33 wm_1_6 wm_6_14 ⟨Nat.le_of_ble_eq_true rfl, Nat.le_of_ble_eq_true rfl⟩ ⟨Nat.le_of_ble_eq_true rfl, Nat.le_of_ble_eq_true rfl⟩ (mw0x (a := a) (r := r) (f := f) (q := q) (T := tb a) (w := w) rfl) rfl rfl rfl hl.1 rfl (Nat.le_of_ble_eq_true rfl) dX10_solve_30 (fun o w' H locs hp hB => ?_)
        obtain ⟨x28, t29, rfl, hf30, hw9⟩ := hp
        replace hB : Bd κ A s (mw κ a r f (va_up q 3 t29) (tb a) w) H locs := by exact Bd_eq (mwQ3x rfl _) (by rw [hw9] at hB; exact hB)
        obtain rfl : x28 = 0 := hf30.trans (by decide)
        refine W.eq (g2 := F0 m 33 ls [.int 0]) rfl ?_
        refine lv_if_eq (tgt := 38) hx hb dX10_solve_33 (by decide) (fun _ => ?_) (fun c31 => False.elim (by revert c31; decide))
        refine lv_aload_n hx hb dX10_solve_38 rfl (lv_at hl 0 rfl) ?_
        refine gf (k0 := 0) hX hB (mw0x (a := a) (r := r) (f := f) (q := (va_up q 3 t29)) (T := tb a) (w := w) rfl) rfl in10 0 (by decide) wm_5_162 rfl rfl dX10_solve_39 ?_
        refine lv_iload_n hx hb dX10_solve_42 rfl (lv_at hl 1 rfl) ?_
        refine aaldM (k0 := 1) hX hB (mw1 (a := a) (r := r) (f := f) (q := (va_up q 3 t29)) (T := tb a) (w := w)) (vp_in_mk (by assumption) (by assumption)) rfl dX10_solve_43 ?_
        have hb32 := mok_r hm y.toNatClampNeg (by omega)
        refine lv_astore (lv' := [(5, .ref (a (2 + 2 * y.toNatClampNeg))), (0, .ref (a 0)), (1, .int y), (2, .int z), (3, .int u), (4, .int v)]) hx hb dX10_solve_44 hl (by decide) rfl (fun ls hl => ?_)
        refine lv_aload hx hb dX10_solve_46 (lv_at hl 0 rfl) ?_
        refine gf (k0 := 2 + 2 * y.toNatClampNeg) hX hB (mwG (i := y.toNatClampNeg) (a := a) (r := r) (f := f) (q := (va_up q 3 t29)) (T := tb a) (w := w) (by omega)) rfl in7 0 (by decide) wm_5_148 rfl rfl dX10_solve_48 ?_
        refine lv_aload_n hx hb dX10_solve_51 rfl (lv_at hl 1 rfl) ?_
        refine gf (k0 := 0) hX hB (mw0x (a := a) (r := r) (f := f) (q := (va_up q 3 t29)) (T := tb a) (w := w) rfl) rfl in10 0 (by decide) wm_5_162 rfl rfl dX10_solve_52 ?_
        refine lv_iload_n hx hb dX10_solve_55 rfl (lv_at hl 3 rfl) ?_
        refine aaldM (k0 := 1) hX hB (mw1 (a := a) (r := r) (f := f) (q := (va_up q 3 t29)) (T := tb a) (w := w)) (vp_in_mk (by assumption) (by assumption)) rfl dX10_solve_56 ?_
        have hb33 := mok_r hm z.toNatClampNeg (by omega)
        refine gf (k0 := 2 + 2 * z.toNatClampNeg) hX hB (mwG (i := z.toNatClampNeg) (a := a) (r := r) (f := f) (q := (va_up q 3 t29)) (T := tb a) (w := w) (by omega)) rfl in7 0 (by decide) wm_5_148 rfl rfl dX10_solve_57 ?_
        refine lv_icmp_eq (tgt := 68) hx hb dX10_solve_60 (by decide) (fun c34 => ?_) (fun c34 => ?_)
        · rw [neqP (a := r (2 * y.toNatClampNeg)) (b := r (2 * z.toNatClampNeg)) (by omega) (by omega)] at c34
          refine newO (fs := [.null, .null, .null, .int 0, .int 0, .int 0, .int 0]) hX hB (ci := 10) rfl in9 tyX9_ok wm_6_172 wm_6_173 wm_1_16 df10 (Nat.le_of_ble_eq_true rfl) (Nat.le_of_ble_eq_true rfl) dX10_solve_68 (fun q35 H hB => ?_)
          refine lv_dup hx hb dX10_solve_71 rfl ?_
          refine lv_aload hx hb dX10_solve_72 (lv_at hl 0 rfl) ?_
          refine call_I (n := 1) (As := [.ref (a (2 + 2 * y.toNatClampNeg))]) (rest := [.ref q35]) hX hB (k_X9_init κ l (mw κ a r f (va_up q 3 t29) (tb a) w) q35 (2 + 2 * y.toNatClampNeg) (3 + 2 * y.toNatClampNeg) (a (2 + 2 * y.toNatClampNeg)) (a (3 + 2 * y.toNatClampNeg)) (r (2 * y.toNatClampNeg)) (r (2 * y.toNatClampNeg + 1)) (f y.toNatClampNeg) (mwG (i := y.toNatClampNeg) (a := a) (r := r) (f := f) (q := (va_up q 3 t29)) (T := tb a) (w := w) (by omega)) (mwA (i := y.toNatClampNeg) (a := a) (r := r) (f := f) (q := (va_up q 3 t29)) (T := tb a) (w := w) (by omega)) (mok_shp (i := y.toNatClampNeg) hm (by omega)) (by omega) (fun k hk => sm_ng ((hm _ (by omega)).2 k hk))) ⟨by decide, by decide, by decide +kernel⟩ rfl wm_6_174 wm_6_175 wm_1_16 wm_6_176 ⟨Nat.le_of_ble_eq_true rfl, Nat.le_of_ble_eq_true rfl⟩ ⟨Nat.le_of_ble_eq_true rfl, Nat.le_of_ble_eq_true rfl⟩ rfl hl.1 rfl (Nat.le_of_ble_eq_true rfl) dX10_solve_74 (fun o w' H locs hp hB => ?_)
          obtain ⟨g36, b37, g38, b39, g40, b41, F42, F43, F44, S45, S46, K47, G48, rfl, hf49, hw9⟩ := hp
          replace hB : Bd κ A s (lA κ b37 ((r (2 * y.toNatClampNeg + 1)) * 5) F42 :: gO g36 (r (2 * y.toNatClampNeg + 1)) (r (2 * y.toNatClampNeg + 1)) b37 :: lA κ b39 ((r (2 * y.toNatClampNeg)) * 5) F43 :: gO g38 (r (2 * y.toNatClampNeg)) (r (2 * y.toNatClampNeg)) b39 :: lA κ b41 ((r (2 * y.toNatClampNeg)) * 5) F44 :: gO g40 (r (2 * y.toNatClampNeg)) (r (2 * y.toNatClampNeg + 1)) b41 :: (q35, .inr (10, [.ref g40, .ref g38, .ref g36, .int S45, .int S46, .int (nI K47), .int G48])) :: mw κ a r f (va_up q 3 t29) (tb a) w) H locs := by rw [hw9] at hB; exact hB
          refine W.eq (g2 := F0 m 77 ls [.ref q35]) rfl ?_
          refine lv_astore (lv' := [(6, .ref q35), (5, .ref (a (2 + 2 * y.toNatClampNeg))), (0, .ref (a 0)), (1, .int y), (2, .int z), (3, .int u), (4, .int v)]) hx hb dX10_solve_77 hl (by decide) rfl (fun ls hl => ?_)
          refine lv_aload hx hb dX10_solve_79 (lv_at hl 0 rfl) ?_
          refine gf (k0 := 6) hX hB rfl rfl in9 6 (by decide) wm_6_230 rfl rfl dX10_solve_81 ?_
          refine lv_if_eq (tgt := 92) hx hb dX10_solve_84 (by decide) (fun c50 => ?_) (fun c50 => ?_)
          · refine lv_aload hx hb dX10_solve_92 (lv_at hl 0 rfl) ?_
            refine gf (k0 := 6) hX hB rfl rfl in9 1 (by decide) wm_6_220 rfl rfl dX10_solve_94 ?_
            refine lv_aload_n hx hb dX10_solve_97 rfl (lv_at hl 2 rfl) ?_
            refine lv_iload_n hx hb dX10_solve_98 rfl (lv_at hl 4 rfl) ?_
            refine lv_iload_n hx hb dX10_solve_99 rfl (lv_at hl 5 rfl) ?_
            refine call_V (n := 2) (k0 := 7) (As := [.int z, .int u]) (rest := [.ref g38]) hX hB (k_X10_column κ l (lA κ b37 ((r (2 * y.toNatClampNeg + 1)) * 5) F42 :: gO g36 (r (2 * y.toNatClampNeg + 1)) (r (2 * y.toNatClampNeg + 1)) b37 :: lA κ b39 ((r (2 * y.toNatClampNeg)) * 5) F43 :: gO g38 (r (2 * y.toNatClampNeg)) (r (2 * y.toNatClampNeg)) b39 :: lA κ b41 ((r (2 * y.toNatClampNeg)) * 5) F44 :: gO g40 (r (2 * y.toNatClampNeg)) (r (2 * y.toNatClampNeg + 1)) b41 :: (q35, .inr (10, [.ref g40, .ref g38, .ref g36, .int S45, .int S46, .int (nI K47), .int G48])) :: mw κ a r f (va_up q 3 t29) (tb a) w) 7 (a 0) (a 1) 8 ((va_up q 3 t29) 0) ((va_up q 3 t29) 1) ((va_up q 3 t29) 2) ((va_up q 3 t29) 3) (tb a) (2 + 2 * z.toNatClampNeg + 7) (3 + 2 * z.toNatClampNeg + 7) (a (2 + 2 * z.toNatClampNeg)) (a (3 + 2 * z.toNatClampNeg)) (r (2 * z.toNatClampNeg)) (r (2 * z.toNatClampNeg + 1)) (f z.toNatClampNeg) z u ((u).toNatClampNeg) (mw0x (a := a) (r := r) (f := f) (q := (va_up q 3 t29)) (T := tb a) (w := w) rfl) (mw1 (a := a) (r := r) (f := f) (q := (va_up q 3 t29)) (T := tb a) (w := w)) (mwG (i := z.toNatClampNeg) (a := a) (r := r) (f := f) (q := (va_up q 3 t29)) (T := tb a) (w := w) (by omega)) (mwA (i := z.toNatClampNeg) (a := a) (r := r) (f := f) (q := (va_up q 3 t29)) (T := tb a) (w := w) (by omega)) (mok_shp (i := z.toNatClampNeg) hm (by omega)) (nI_rep (by assumption)) (vp_in_mk (by assumption) (by assumption)) rfl (by omega)) ⟨rfl, by decide, by decide, by decide +kernel⟩ wm_7_10 wm_7_12 wp_48 wm_1_6 wm_7_13 ⟨Nat.le_of_ble_eq_true rfl, Nat.le_of_ble_eq_true rfl⟩ ⟨Nat.le_of_ble_eq_true rfl, Nat.le_of_ble_eq_true rfl⟩ (mw0x (a := a) (r := r) (f := f) (q := (va_up q 3 t29)) (T := tb a) (w := w) rfl) rfl rfl rfl hl.1 rfl (Nat.le_of_ble_eq_true rfl) dX10_solve_100 (fun o w' H locs hp hB => ?_)
            obtain ⟨q51, q52, F53, rfl, hw9⟩ := hp
            replace hB : Bd κ A s (lA κ q52 ((r (2 * z.toNatClampNeg)) * 5) F53 :: gO q51 (r (2 * z.toNatClampNeg)) 1 q52 :: lA κ b37 ((r (2 * y.toNatClampNeg + 1)) * 5) F42 :: gO g36 (r (2 * y.toNatClampNeg + 1)) (r (2 * y.toNatClampNeg + 1)) b37 :: lA κ b39 ((r (2 * y.toNatClampNeg)) * 5) F43 :: gO g38 (r (2 * y.toNatClampNeg)) (r (2 * y.toNatClampNeg)) b39 :: lA κ b41 ((r (2 * y.toNatClampNeg)) * 5) F44 :: gO g40 (r (2 * y.toNatClampNeg)) (r (2 * y.toNatClampNeg + 1)) b41 :: (q35, .inr (10, [.ref g40, .ref g38, .ref g36, .int S45, .int S46, .int (nI K47), .int G48])) :: mw κ a r f (va_up q 3 t29) (tb a) w) H locs := by rw [hw9] at hB; exact hB
            refine W.eq (g2 := F0 m 103 ls [.ref q51, .ref g38]) rfl ?_
            refine call_V (n := 1) (k0 := 5) (As := [.ref q51]) (rest := []) hX hB (k_X7_product κ l (lA κ q52 ((r (2 * z.toNatClampNeg)) * 5) F53 :: gO q51 (r (2 * z.toNatClampNeg)) 1 q52 :: lA κ b37 ((r (2 * y.toNatClampNeg + 1)) * 5) F42 :: gO g36 (r (2 * y.toNatClampNeg + 1)) (r (2 * y.toNatClampNeg + 1)) b37 :: lA κ b39 ((r (2 * y.toNatClampNeg)) * 5) F43 :: gO g38 (r (2 * y.toNatClampNeg)) (r (2 * y.toNatClampNeg)) b39 :: lA κ b41 ((r (2 * y.toNatClampNeg)) * 5) F44 :: gO g40 (r (2 * y.toNatClampNeg)) (r (2 * y.toNatClampNeg + 1)) b41 :: (q35, .inr (10, [.ref g40, .ref g38, .ref g36, .int S45, .int S46, .int (nI K47), .int G48])) :: mw κ a r f (va_up q 3 t29) (tb a) w) 5 4 g38 b39 (r (2 * y.toNatClampNeg)) (r (2 * y.toNatClampNeg)) F43 1 0 q51 q52 (r (2 * z.toNatClampNeg)) 1 F53 rfl rfl ⟨by omega, by omega, by omega, by omega⟩ rfl rfl ⟨by omega, by omega, by omega, by omega⟩ (by omega)) ⟨rfl, by decide, by decide, by decide +kernel⟩ wm_6_112 wm_6_113 wm_6_114 wm_1_7 wm_6_115 ⟨Nat.le_of_ble_eq_true rfl, Nat.le_of_ble_eq_true rfl⟩ ⟨Nat.le_of_ble_eq_true rfl, Nat.le_of_ble_eq_true rfl⟩ rfl rfl rfl rfl hl.1 rfl (Nat.le_of_ble_eq_true rfl) dX10_solve_103 (fun o w' H locs hp hB => ?_)
            obtain ⟨q54, q55, F56, rfl, hw9⟩ := hp
            replace hB : Bd κ A s (lA κ q55 ((r (2 * y.toNatClampNeg)) * 5) F56 :: gO q54 (r (2 * y.toNatClampNeg)) 1 q55 :: lA κ q52 ((r (2 * z.toNatClampNeg)) * 5) F53 :: gO q51 (r (2 * z.toNatClampNeg)) 1 q52 :: lA κ b37 ((r (2 * y.toNatClampNeg + 1)) * 5) F42 :: gO g36 (r (2 * y.toNatClampNeg + 1)) (r (2 * y.toNatClampNeg + 1)) b37 :: lA κ b39 ((r (2 * y.toNatClampNeg)) * 5) F43 :: gO g38 (r (2 * y.toNatClampNeg)) (r (2 * y.toNatClampNeg)) b39 :: lA κ b41 ((r (2 * y.toNatClampNeg)) * 5) F44 :: gO g40 (r (2 * y.toNatClampNeg)) (r (2 * y.toNatClampNeg + 1)) b41 :: (q35, .inr (10, [.ref g40, .ref g38, .ref g36, .int S45, .int S46, .int (nI K47), .int G48])) :: mw κ a r f (va_up q 3 t29) (tb a) w) H locs := by rw [hw9] at hB; exact hB
            refine W.eq (g2 := F0 m 106 ls [.ref q54]) rfl ?_
            refine lv_astore (lv' := [(7, .ref q54), (6, .ref q35), (5, .ref (a (2 + 2 * y.toNatClampNeg))), (0, .ref (a 0)), (1, .int y), (2, .int z), (3, .int u), (4, .int v)]) hx hb dX10_solve_106 hl (by decide) rfl (fun ls hl => ?_)
            refine lv_aload hx hb dX10_solve_108 (lv_at hl 1 rfl) ?_
            refine lv_aload hx hb dX10_solve_110 (lv_at hl 0 rfl) ?_
            refine call_S (n := 2) (As := [.ref q35, .ref q54]) (rest := []) hX hB (k_X10_goes κ l (lA κ q55 ((r (2 * y.toNatClampNeg)) * 5) F56 :: gO q54 (r (2 * y.toNatClampNeg)) 1 q55 :: lA κ q52 ((r (2 * z.toNatClampNeg)) * 5) F53 :: gO q51 (r (2 * z.toNatClampNeg)) 1 q52 :: lA κ b37 ((r (2 * y.toNatClampNeg + 1)) * 5) F42 :: gO g36 (r (2 * y.toNatClampNeg + 1)) (r (2 * y.toNatClampNeg + 1)) b37 :: lA κ b39 ((r (2 * y.toNatClampNeg)) * 5) F43 :: gO g38 (r (2 * y.toNatClampNeg)) (r (2 * y.toNatClampNeg)) b39 :: lA κ b41 ((r (2 * y.toNatClampNeg)) * 5) F44 :: gO g40 (r (2 * y.toNatClampNeg)) (r (2 * y.toNatClampNeg + 1)) b41 :: (q35, .inr (10, [.ref g40, .ref g38, .ref g36, .int S45, .int S46, .int (nI K47), .int G48])) :: mw κ a r f (va_up q 3 t29) (tb a) w) 9 8 g40 b41 (r (2 * y.toNatClampNeg)) (r (2 * y.toNatClampNeg + 1)) F44 10 q35 g38 g36 K47 S45 S46 G48 1 0 q54 q55 (r (2 * y.toNatClampNeg)) 1 F56 rfl rfl (mok_shp (i := y.toNatClampNeg) hm (by omega)) rfl rfl rfl ⟨by omega, by omega, by omega, by omega⟩ hf49) ⟨by decide, by decide, by decide +kernel⟩ wm_7_14 wm_7_15 wm_1_6 wm_7_16 ⟨Nat.le_of_ble_eq_true rfl, Nat.le_of_ble_eq_true rfl⟩ ⟨Nat.le_of_ble_eq_true rfl, Nat.le_of_ble_eq_true rfl⟩ rfl hl.1 rfl (Nat.le_of_ble_eq_true rfl) dX10_solve_112 (fun o w' H locs hp hB => ?_)
            obtain ⟨x57, rfl, hf58, hw9⟩ := hp
            replace hB : Bd κ A s (lA κ q55 ((r (2 * y.toNatClampNeg)) * 5) F56 :: gO q54 (r (2 * y.toNatClampNeg)) 1 q55 :: lA κ q52 ((r (2 * z.toNatClampNeg)) * 5) F53 :: gO q51 (r (2 * z.toNatClampNeg)) 1 q52 :: lA κ b37 ((r (2 * y.toNatClampNeg + 1)) * 5) F42 :: gO g36 (r (2 * y.toNatClampNeg + 1)) (r (2 * y.toNatClampNeg + 1)) b37 :: lA κ b39 ((r (2 * y.toNatClampNeg)) * 5) F43 :: gO g38 (r (2 * y.toNatClampNeg)) (r (2 * y.toNatClampNeg)) b39 :: lA κ b41 ((r (2 * y.toNatClampNeg)) * 5) F44 :: gO g40 (r (2 * y.toNatClampNeg)) (r (2 * y.toNatClampNeg + 1)) b41 :: (q35, .inr (10, [.ref g40, .ref g38, .ref g36, .int S45, .int S46, .int (nI K47), .int G48])) :: mw κ a r f (va_up q 3 t29) (tb a) w) H locs := by rw [hw9] at hB; exact hB
            rcases hf58 with rfl | rfl
            · refine W.eq (g2 := F0 m 115 ls [.int 0]) rfl ?_
              refine lv_if_ne (tgt := 123) hx hb dX10_solve_115 (by decide) (fun c59 => False.elim (by revert c59; decide)) (fun _ => ?_)
              refine lv_aload_n hx hb dX10_solve_118 rfl (lv_at hl 3 rfl) ?_
              refine call_V (n := 0) (k0 := 11) (As := []) (rest := []) hX hB (k_X10_no κ l (lA κ q55 ((r (2 * y.toNatClampNeg)) * 5) F56 :: gO q54 (r (2 * y.toNatClampNeg)) 1 q55 :: lA κ q52 ((r (2 * z.toNatClampNeg)) * 5) F53 :: gO q51 (r (2 * z.toNatClampNeg)) 1 q52 :: lA κ b37 ((r (2 * y.toNatClampNeg + 1)) * 5) F42 :: gO g36 (r (2 * y.toNatClampNeg + 1)) (r (2 * y.toNatClampNeg + 1)) b37 :: lA κ b39 ((r (2 * y.toNatClampNeg)) * 5) F43 :: gO g38 (r (2 * y.toNatClampNeg)) (r (2 * y.toNatClampNeg)) b39 :: lA κ b41 ((r (2 * y.toNatClampNeg)) * 5) F44 :: gO g40 (r (2 * y.toNatClampNeg)) (r (2 * y.toNatClampNeg + 1)) b41 :: (q35, .inr (10, [.ref g40, .ref g38, .ref g36, .int S45, .int S46, .int (nI K47), .int G48])) :: mw κ a r f (va_up q 3 t29) (tb a) w) 11 (a 0) (a 1) ((va_up q 3 t29) 0) ((va_up q 3 t29) 1) ((va_up q 3 t29) 2) ((va_up q 3 t29) 3) (mw0x (a := a) (r := r) (f := f) (q := (va_up q 3 t29)) (T := tb a) (w := w) rfl)) ⟨rfl, by decide, by decide, by decide +kernel⟩ wm_6_85 wm_6_87 wp_36 wm_1_6 wm_6_88 ⟨Nat.le_of_ble_eq_true rfl, Nat.le_of_ble_eq_true rfl⟩ ⟨Nat.le_of_ble_eq_true rfl, Nat.le_of_ble_eq_true rfl⟩ (mw0x (a := a) (r := r) (f := f) (q := (va_up q 3 t29)) (T := tb a) (w := w) rfl) rfl rfl rfl hl.1 rfl (Nat.le_of_ble_eq_true rfl) dX10_solve_119 (fun o w' H locs hp hB => ?_)
              obtain ⟨rfl, hw9⟩ := hp
              replace hB : Bd κ A s (lA κ q55 ((r (2 * y.toNatClampNeg)) * 5) F56 :: gO q54 (r (2 * y.toNatClampNeg)) 1 q55 :: lA κ q52 ((r (2 * z.toNatClampNeg)) * 5) F53 :: gO q51 (r (2 * z.toNatClampNeg)) 1 q52 :: lA κ b37 ((r (2 * y.toNatClampNeg + 1)) * 5) F42 :: gO g36 (r (2 * y.toNatClampNeg + 1)) (r (2 * y.toNatClampNeg + 1)) b37 :: lA κ b39 ((r (2 * y.toNatClampNeg)) * 5) F43 :: gO g38 (r (2 * y.toNatClampNeg)) (r (2 * y.toNatClampNeg)) b39 :: lA κ b41 ((r (2 * y.toNatClampNeg)) * 5) F44 :: gO g40 (r (2 * y.toNatClampNeg)) (r (2 * y.toNatClampNeg + 1)) b41 :: (q35, .inr (10, [.ref g40, .ref g38, .ref g36, .int S45, .int S46, .int (nI K47), .int G48])) :: mw κ a r f (va_up (va_up q 3 t29) 1 (((va_up q 3 t29) 1) + 1)) (tb a) w) H locs := by exact Bd_eq (congrArg (List.cons _) (congrArg (List.cons _) (congrArg (List.cons _) (congrArg (List.cons _) (congrArg (List.cons _) (congrArg (List.cons _) (congrArg (List.cons _) (congrArg (List.cons _) (congrArg (List.cons _) (congrArg (List.cons _) (congrArg (List.cons _) (mwQ1x rfl _)))))))))))) (by rw [hw9] at hB; exact hB)
              refine W.eq (g2 := F0 m 122 ls [.int (-9)]) rfl ?_
              replace hB : Bd κ A s (lA κ q55 ((r (2 * y.toNatClampNeg)) * 5) F56 :: gO q54 (r (2 * y.toNatClampNeg)) 1 q55 :: lA κ q52 ((r (2 * z.toNatClampNeg)) * 5) F53 :: gO q51 (r (2 * z.toNatClampNeg)) 1 q52 :: lA κ b37 ((r (2 * y.toNatClampNeg + 1)) * 5) F42 :: gO g36 (r (2 * y.toNatClampNeg + 1)) (r (2 * y.toNatClampNeg + 1)) b37 :: lA κ b39 ((r (2 * y.toNatClampNeg)) * 5) F43 :: gO g38 (r (2 * y.toNatClampNeg)) (r (2 * y.toNatClampNeg)) b39 :: lA κ b41 ((r (2 * y.toNatClampNeg)) * 5) F44 :: gO g40 (r (2 * y.toNatClampNeg)) (r (2 * y.toNatClampNeg + 1)) b41 :: mw κ a r f (va_up (va_up q 3 t29) 1 (((va_up q 3 t29) 1) + 1)) (tb a) w) H locs := Bd_del 10 hB
              replace hB : Bd κ A s (lA κ q55 ((r (2 * y.toNatClampNeg)) * 5) F56 :: gO q54 (r (2 * y.toNatClampNeg)) 1 q55 :: lA κ q52 ((r (2 * z.toNatClampNeg)) * 5) F53 :: gO q51 (r (2 * z.toNatClampNeg)) 1 q52 :: lA κ b37 ((r (2 * y.toNatClampNeg + 1)) * 5) F42 :: gO g36 (r (2 * y.toNatClampNeg + 1)) (r (2 * y.toNatClampNeg + 1)) b37 :: lA κ b39 ((r (2 * y.toNatClampNeg)) * 5) F43 :: gO g38 (r (2 * y.toNatClampNeg)) (r (2 * y.toNatClampNeg)) b39 :: lA κ b41 ((r (2 * y.toNatClampNeg)) * 5) F44 :: mw κ a r f (va_up (va_up q 3 t29) 1 (((va_up q 3 t29) 1) + 1)) (tb a) w) H locs := Bd_del 9 hB
              replace hB : Bd κ A s (lA κ q55 ((r (2 * y.toNatClampNeg)) * 5) F56 :: gO q54 (r (2 * y.toNatClampNeg)) 1 q55 :: lA κ q52 ((r (2 * z.toNatClampNeg)) * 5) F53 :: gO q51 (r (2 * z.toNatClampNeg)) 1 q52 :: lA κ b37 ((r (2 * y.toNatClampNeg + 1)) * 5) F42 :: gO g36 (r (2 * y.toNatClampNeg + 1)) (r (2 * y.toNatClampNeg + 1)) b37 :: lA κ b39 ((r (2 * y.toNatClampNeg)) * 5) F43 :: gO g38 (r (2 * y.toNatClampNeg)) (r (2 * y.toNatClampNeg)) b39 :: mw κ a r f (va_up (va_up q 3 t29) 1 (((va_up q 3 t29) 1) + 1)) (tb a) w) H locs := Bd_del 8 hB
              replace hB : Bd κ A s (lA κ q55 ((r (2 * y.toNatClampNeg)) * 5) F56 :: gO q54 (r (2 * y.toNatClampNeg)) 1 q55 :: lA κ q52 ((r (2 * z.toNatClampNeg)) * 5) F53 :: gO q51 (r (2 * z.toNatClampNeg)) 1 q52 :: lA κ b37 ((r (2 * y.toNatClampNeg + 1)) * 5) F42 :: gO g36 (r (2 * y.toNatClampNeg + 1)) (r (2 * y.toNatClampNeg + 1)) b37 :: lA κ b39 ((r (2 * y.toNatClampNeg)) * 5) F43 :: mw κ a r f (va_up (va_up q 3 t29) 1 (((va_up q 3 t29) 1) + 1)) (tb a) w) H locs := Bd_del 7 hB
              replace hB : Bd κ A s (lA κ q55 ((r (2 * y.toNatClampNeg)) * 5) F56 :: gO q54 (r (2 * y.toNatClampNeg)) 1 q55 :: lA κ q52 ((r (2 * z.toNatClampNeg)) * 5) F53 :: gO q51 (r (2 * z.toNatClampNeg)) 1 q52 :: lA κ b37 ((r (2 * y.toNatClampNeg + 1)) * 5) F42 :: gO g36 (r (2 * y.toNatClampNeg + 1)) (r (2 * y.toNatClampNeg + 1)) b37 :: mw κ a r f (va_up (va_up q 3 t29) 1 (((va_up q 3 t29) 1) + 1)) (tb a) w) H locs := Bd_del 6 hB
              replace hB : Bd κ A s (lA κ q55 ((r (2 * y.toNatClampNeg)) * 5) F56 :: gO q54 (r (2 * y.toNatClampNeg)) 1 q55 :: lA κ q52 ((r (2 * z.toNatClampNeg)) * 5) F53 :: gO q51 (r (2 * z.toNatClampNeg)) 1 q52 :: lA κ b37 ((r (2 * y.toNatClampNeg + 1)) * 5) F42 :: mw κ a r f (va_up (va_up q 3 t29) 1 (((va_up q 3 t29) 1) + 1)) (tb a) w) H locs := Bd_del 5 hB
              replace hB : Bd κ A s (lA κ q55 ((r (2 * y.toNatClampNeg)) * 5) F56 :: gO q54 (r (2 * y.toNatClampNeg)) 1 q55 :: lA κ q52 ((r (2 * z.toNatClampNeg)) * 5) F53 :: gO q51 (r (2 * z.toNatClampNeg)) 1 q52 :: mw κ a r f (va_up (va_up q 3 t29) 1 (((va_up q 3 t29) 1) + 1)) (tb a) w) H locs := Bd_del 4 hB
              replace hB : Bd κ A s (lA κ q55 ((r (2 * y.toNatClampNeg)) * 5) F56 :: gO q54 (r (2 * y.toNatClampNeg)) 1 q55 :: lA κ q52 ((r (2 * z.toNatClampNeg)) * 5) F53 :: mw κ a r f (va_up (va_up q 3 t29) 1 (((va_up q 3 t29) 1) + 1)) (tb a) w) H locs := Bd_del 3 hB
              replace hB : Bd κ A s (lA κ q55 ((r (2 * y.toNatClampNeg)) * 5) F56 :: gO q54 (r (2 * y.toNatClampNeg)) 1 q55 :: mw κ a r f (va_up (va_up q 3 t29) 1 (((va_up q 3 t29) 1) + 1)) (tb a) w) H locs := Bd_del 2 hB
              replace hB : Bd κ A s (lA κ q55 ((r (2 * y.toNatClampNeg)) * 5) F56 :: mw κ a r f (va_up (va_up q 3 t29) 1 (((va_up q 3 t29) 1) + 1)) (tb a) w) H locs := Bd_del 1 hB
              replace hB : Bd κ A s (mw κ a r f (va_up (va_up q 3 t29) 1 (((va_up q 3 t29) 1) + 1)) (tb a) w) H locs := Bd_del 0 hB
              rw [← hQ]
              exact end_i hX hB hA3 rfl rfl ⟨(-9), a, r, f, (va_up (va_up q 3 t29) 1 (((va_up q 3 t29) 1) + 1)), rfl, rfl, hm, rfl, rfl⟩ (Nat.le_of_ble_eq_true rfl) (Nat.le_of_ble_eq_true rfl) dX10_solve_122
            · refine W.eq (g2 := F0 m 115 ls [.int 1]) rfl ?_
              refine lv_if_ne (tgt := 123) hx hb dX10_solve_115 (by decide) (fun _ => ?_) (fun c60 => False.elim (by revert c60; decide))
              refine newO (fs := [.int 0, .int 0, .null]) hX hB (ci := 8) rfl in7 tyX7_ok wm_5_138 wm_5_140 wm_1_7 df8 (Nat.le_of_ble_eq_true rfl) (Nat.le_of_ble_eq_true rfl) dX10_solve_123 (fun q61 H hB => ?_)
              refine lv_dup hx hb dX10_solve_126 rfl ?_
              refine lv_aload hx hb dX10_solve_127 (lv_at hl 2 rfl) ?_
              refine gf (k0 := 2 + 2 * y.toNatClampNeg + 12) hX hB (mwG (i := y.toNatClampNeg) (a := a) (r := r) (f := f) (q := (va_up q 3 t29)) (T := tb a) (w := w) (by omega)) rfl in7 1 (by decide) wm_5_152 rfl rfl dX10_solve_129 ?_
              refine lv_iconst (v := 1) hx hb dX10_solve_132 (by decide) ?_
              refine call_I (n := 2) (As := [.int (nI (r (2 * y.toNatClampNeg + 1))), .int 1]) (rest := [.ref q61]) hX hB (k_X7_init κ l (lA κ q55 ((r (2 * y.toNatClampNeg)) * 5) F56 :: gO q54 (r (2 * y.toNatClampNeg)) 1 q55 :: lA κ q52 ((r (2 * z.toNatClampNeg)) * 5) F53 :: gO q51 (r (2 * z.toNatClampNeg)) 1 q52 :: lA κ b37 ((r (2 * y.toNatClampNeg + 1)) * 5) F42 :: gO g36 (r (2 * y.toNatClampNeg + 1)) (r (2 * y.toNatClampNeg + 1)) b37 :: lA κ b39 ((r (2 * y.toNatClampNeg)) * 5) F43 :: gO g38 (r (2 * y.toNatClampNeg)) (r (2 * y.toNatClampNeg)) b39 :: lA κ b41 ((r (2 * y.toNatClampNeg)) * 5) F44 :: gO g40 (r (2 * y.toNatClampNeg)) (r (2 * y.toNatClampNeg + 1)) b41 :: (q35, .inr (10, [.ref g40, .ref g38, .ref g36, .int S45, .int S46, .int (nI K47), .int G48])) :: mw κ a r f (va_up q 3 t29) (tb a) w) q61 (nI (r (2 * y.toNatClampNeg + 1))) (r (2 * y.toNatClampNeg + 1)) 1 1 rfl rfl (by omega)) ⟨by decide, by decide, by decide +kernel⟩ rfl wm_5_141 wm_5_142 wm_1_7 wm_5_143 ⟨Nat.le_of_ble_eq_true rfl, Nat.le_of_ble_eq_true rfl⟩ ⟨Nat.le_of_ble_eq_true rfl, Nat.le_of_ble_eq_true rfl⟩ rfl hl.1 rfl (Nat.le_of_ble_eq_true rfl) dX10_solve_133 (fun o w' H locs hp hB => ?_)
              obtain ⟨b62, rfl, hw9⟩ := hp
              replace hB : Bd κ A s (lA κ b62 ((r (2 * y.toNatClampNeg + 1)) * 5) (fun _ => 0) :: gO q61 (r (2 * y.toNatClampNeg + 1)) 1 b62 :: lA κ q55 ((r (2 * y.toNatClampNeg)) * 5) F56 :: gO q54 (r (2 * y.toNatClampNeg)) 1 q55 :: lA κ q52 ((r (2 * z.toNatClampNeg)) * 5) F53 :: gO q51 (r (2 * z.toNatClampNeg)) 1 q52 :: lA κ b37 ((r (2 * y.toNatClampNeg + 1)) * 5) F42 :: gO g36 (r (2 * y.toNatClampNeg + 1)) (r (2 * y.toNatClampNeg + 1)) b37 :: lA κ b39 ((r (2 * y.toNatClampNeg)) * 5) F43 :: gO g38 (r (2 * y.toNatClampNeg)) (r (2 * y.toNatClampNeg)) b39 :: lA κ b41 ((r (2 * y.toNatClampNeg)) * 5) F44 :: gO g40 (r (2 * y.toNatClampNeg)) (r (2 * y.toNatClampNeg + 1)) b41 :: (q35, .inr (10, [.ref g40, .ref g38, .ref g36, .int S45, .int S46, .int (nI K47), .int G48])) :: mw κ a r f (va_up q 3 t29) (tb a) w) H locs := by rw [hw9] at hB; exact hB
              refine W.eq (g2 := F0 m 136 ls [.ref q61]) rfl ?_
              refine lv_astore (lv' := [(8, .ref q61), (7, .ref q54), (6, .ref q35), (5, .ref (a (2 + 2 * y.toNatClampNeg))), (0, .ref (a 0)), (1, .int y), (2, .int z), (3, .int u), (4, .int v)]) hx hb dX10_solve_136 hl (by decide) rfl (fun ls hl => ?_)
              have hK := hf49
              refine lv_iconst (v := 0) hx hb dX10_solve_138 (by decide) ?_
              refine lv_istore (lv' := [(9, .int 0), (8, .ref q61), (7, .ref q54), (6, .ref q35), (5, .ref (a (2 + 2 * y.toNatClampNeg))), (0, .ref (a 0)), (1, .int y), (2, .int z), (3, .int u), (4, .int v)]) hx hb dX10_solve_139 hl (by decide) rfl (fun ls hl => ?_)
              have lp141 : ∀ (nn : Nat) (y9_141 : Nat) (fb62_141 : Nat → Int64) (H : Heap) (locs : List Loc), (y9_141 ≤ K47) → K47 + 1 - y9_141 < nn → Bd κ A s (lA κ b62 ((r (2 * y.toNatClampNeg + 1)) * 5) fb62_141 :: gO q61 (r (2 * y.toNatClampNeg + 1)) 1 b62 :: lA κ q55 ((r (2 * y.toNatClampNeg)) * 5) F56 :: gO q54 (r (2 * y.toNatClampNeg)) 1 q55 :: lA κ q52 ((r (2 * z.toNatClampNeg)) * 5) F53 :: gO q51 (r (2 * z.toNatClampNeg)) 1 q52 :: lA κ b37 ((r (2 * y.toNatClampNeg + 1)) * 5) F42 :: gO g36 (r (2 * y.toNatClampNeg + 1)) (r (2 * y.toNatClampNeg + 1)) b37 :: lA κ b39 ((r (2 * y.toNatClampNeg)) * 5) F43 :: gO g38 (r (2 * y.toNatClampNeg)) (r (2 * y.toNatClampNeg)) b39 :: lA κ b41 ((r (2 * y.toNatClampNeg)) * 5) F44 :: gO g40 (r (2 * y.toNatClampNeg)) (r (2 * y.toNatClampNeg + 1)) b41 :: (q35, .inr (10, [.ref g40, .ref g38, .ref g36, .int S45, .int S46, .int (nI K47), .int G48])) :: mw κ a r f (va_up q 3 t29) (tb a) w) H locs → ∀ ls : Array Slot, lv_has ls 10 [(9, .int (nI y9_141)), (8, .ref q61), (7, .ref q54), (6, .ref q35), (5, .ref (a (2 + 2 * y.toNatClampNeg))), (0, .ref (a 0)), (1, .int y), (2, .int z), (3, .int u), (4, .int v)] → W p l e (Rm 5 121 15 168) s m args below meth c H locs 13 145 Q (F0 m 141 ls []) := by
                intro nn
                induction nn with
                | zero => intro y9_141 fb62_141 H locs hn9_141 hμ; exact absurd hμ (Nat.not_lt_zero _)
                | succ nn ih141 =>
                  intro y9_141 fb62_141 H locs hn9_141 hμ141 hB ls hl
                  refine lv_iload hx hb dX10_solve_141 (lv_at hl 0 rfl) ?_
                  refine lv_aload hx hb dX10_solve_143 (lv_at hl 3 rfl) ?_
                  refine gf (k0 := 12) hX hB rfl rfl in9 5 (by decide) wm_6_228 rfl rfl dX10_solve_145 ?_
                  refine lv_icmp_ge (tgt := 186) hx hb dX10_solve_148 (by decide) (fun c97 => ?_) (fun c97 => ?_)
                  · rw [nleP (a := K47) (b := y9_141) (by omega) (by omega)] at c97
                    refine lv_aload hx hb dX10_solve_186 (lv_at hl 1 rfl) ?_
                    refine call_V (n := 0) (k0 := 1) (As := []) (rest := []) hX hB (k_X7_isGreat κ l (lA κ b62 ((r (2 * y.toNatClampNeg + 1)) * 5) fb62_141 :: gO q61 (r (2 * y.toNatClampNeg + 1)) 1 b62 :: lA κ q55 ((r (2 * y.toNatClampNeg)) * 5) F56 :: gO q54 (r (2 * y.toNatClampNeg)) 1 q55 :: lA κ q52 ((r (2 * z.toNatClampNeg)) * 5) F53 :: gO q51 (r (2 * z.toNatClampNeg)) 1 q52 :: lA κ b37 ((r (2 * y.toNatClampNeg + 1)) * 5) F42 :: gO g36 (r (2 * y.toNatClampNeg + 1)) (r (2 * y.toNatClampNeg + 1)) b37 :: lA κ b39 ((r (2 * y.toNatClampNeg)) * 5) F43 :: gO g38 (r (2 * y.toNatClampNeg)) (r (2 * y.toNatClampNeg)) b39 :: lA κ b41 ((r (2 * y.toNatClampNeg)) * 5) F44 :: gO g40 (r (2 * y.toNatClampNeg)) (r (2 * y.toNatClampNeg + 1)) b41 :: (q35, .inr (10, [.ref g40, .ref g38, .ref g36, .int S45, .int S46, .int (nI K47), .int G48])) :: mw κ a r f (va_up q 3 t29) (tb a) w) 1 0 q61 b62 (r (2 * y.toNatClampNeg + 1)) 1 fb62_141 rfl rfl ⟨by omega, by omega, by omega, by omega⟩) ⟨rfl, by decide, by decide, by decide +kernel⟩ wm_7_17 wm_6_150 wm_6_151 wm_1_7 wm_6_152 ⟨Nat.le_of_ble_eq_true rfl, Nat.le_of_ble_eq_true rfl⟩ ⟨Nat.le_of_ble_eq_true rfl, Nat.le_of_ble_eq_true rfl⟩ rfl rfl rfl rfl hl.1 rfl (Nat.le_of_ble_eq_true rfl) dX10_solve_188 (fun o w' H locs hp hB => ?_)
                    obtain ⟨x98, rfl, hf99, hf100, hw9⟩ := hp
                    replace hB : Bd κ A s (lA κ b62 ((r (2 * y.toNatClampNeg + 1)) * 5) fb62_141 :: gO q61 (r (2 * y.toNatClampNeg + 1)) 1 b62 :: lA κ q55 ((r (2 * y.toNatClampNeg)) * 5) F56 :: gO q54 (r (2 * y.toNatClampNeg)) 1 q55 :: lA κ q52 ((r (2 * z.toNatClampNeg)) * 5) F53 :: gO q51 (r (2 * z.toNatClampNeg)) 1 q52 :: lA κ b37 ((r (2 * y.toNatClampNeg + 1)) * 5) F42 :: gO g36 (r (2 * y.toNatClampNeg + 1)) (r (2 * y.toNatClampNeg + 1)) b37 :: lA κ b39 ((r (2 * y.toNatClampNeg)) * 5) F43 :: gO g38 (r (2 * y.toNatClampNeg)) (r (2 * y.toNatClampNeg)) b39 :: lA κ b41 ((r (2 * y.toNatClampNeg)) * 5) F44 :: gO g40 (r (2 * y.toNatClampNeg)) (r (2 * y.toNatClampNeg + 1)) b41 :: (q35, .inr (10, [.ref g40, .ref g38, .ref g36, .int S45, .int S46, .int (nI K47), .int G48])) :: mw κ a r f (va_up q 3 t29) (tb a) w) H locs := by rw [hw9] at hB; exact hB
                    rcases hf99 with rfl | rfl
                    · refine W.eq (g2 := F0 m 191 ls [.int 0]) rfl ?_
                      refine lv_if_eq (tgt := 199) hx hb dX10_solve_191 (by decide) (fun _ => ?_) (fun c101 => False.elim (by revert c101; decide))
                      refine lv_aload_n hx hb dX10_solve_199 rfl (lv_at hl 5 rfl) ?_
                      refine lv_iload hx hb dX10_solve_200 (lv_at hl 9 rfl) ?_
                      refine lv_aload hx hb dX10_solve_202 (lv_at hl 3 rfl) ?_
                      refine gf (k0 := 12) hX hB rfl rfl in9 2 (by decide) wm_6_222 rfl rfl dX10_solve_204 ?_
                      refine lv_aload hx hb dX10_solve_207 (lv_at hl 1 rfl) ?_
                      refine call_V (n := 1) (k0 := 7) (As := [.ref q61]) (rest := [.int v, .ref (a 0)]) hX hB (k_X7_product κ l (lA κ b62 ((r (2 * y.toNatClampNeg + 1)) * 5) fb62_141 :: gO q61 (r (2 * y.toNatClampNeg + 1)) 1 b62 :: lA κ q55 ((r (2 * y.toNatClampNeg)) * 5) F56 :: gO q54 (r (2 * y.toNatClampNeg)) 1 q55 :: lA κ q52 ((r (2 * z.toNatClampNeg)) * 5) F53 :: gO q51 (r (2 * z.toNatClampNeg)) 1 q52 :: lA κ b37 ((r (2 * y.toNatClampNeg + 1)) * 5) F42 :: gO g36 (r (2 * y.toNatClampNeg + 1)) (r (2 * y.toNatClampNeg + 1)) b37 :: lA κ b39 ((r (2 * y.toNatClampNeg)) * 5) F43 :: gO g38 (r (2 * y.toNatClampNeg)) (r (2 * y.toNatClampNeg)) b39 :: lA κ b41 ((r (2 * y.toNatClampNeg)) * 5) F44 :: gO g40 (r (2 * y.toNatClampNeg)) (r (2 * y.toNatClampNeg + 1)) b41 :: (q35, .inr (10, [.ref g40, .ref g38, .ref g36, .int S45, .int S46, .int (nI K47), .int G48])) :: mw κ a r f (va_up q 3 t29) (tb a) w) 7 6 g36 b37 (r (2 * y.toNatClampNeg + 1)) (r (2 * y.toNatClampNeg + 1)) F42 1 0 q61 b62 (r (2 * y.toNatClampNeg + 1)) 1 fb62_141 rfl rfl ⟨by omega, by omega, by omega, by omega⟩ rfl rfl ⟨by omega, by omega, by omega, by omega⟩ (by omega)) ⟨rfl, by decide, by decide, by decide +kernel⟩ wm_6_112 wm_6_113 wm_6_114 wm_1_7 wm_6_115 ⟨Nat.le_of_ble_eq_true rfl, Nat.le_of_ble_eq_true rfl⟩ ⟨Nat.le_of_ble_eq_true rfl, Nat.le_of_ble_eq_true rfl⟩ rfl rfl rfl rfl hl.1 rfl (Nat.le_of_ble_eq_true rfl) dX10_solve_209 (fun o w' H locs hp hB => ?_)
                      obtain ⟨q102, q103, F104, rfl, hw9⟩ := hp
                      replace hB : Bd κ A s (lA κ q103 ((r (2 * y.toNatClampNeg + 1)) * 5) F104 :: gO q102 (r (2 * y.toNatClampNeg + 1)) 1 q103 :: lA κ b62 ((r (2 * y.toNatClampNeg + 1)) * 5) fb62_141 :: gO q61 (r (2 * y.toNatClampNeg + 1)) 1 b62 :: lA κ q55 ((r (2 * y.toNatClampNeg)) * 5) F56 :: gO q54 (r (2 * y.toNatClampNeg)) 1 q55 :: lA κ q52 ((r (2 * z.toNatClampNeg)) * 5) F53 :: gO q51 (r (2 * z.toNatClampNeg)) 1 q52 :: lA κ b37 ((r (2 * y.toNatClampNeg + 1)) * 5) F42 :: gO g36 (r (2 * y.toNatClampNeg + 1)) (r (2 * y.toNatClampNeg + 1)) b37 :: lA κ b39 ((r (2 * y.toNatClampNeg)) * 5) F43 :: gO g38 (r (2 * y.toNatClampNeg)) (r (2 * y.toNatClampNeg)) b39 :: lA κ b41 ((r (2 * y.toNatClampNeg)) * 5) F44 :: gO g40 (r (2 * y.toNatClampNeg)) (r (2 * y.toNatClampNeg + 1)) b41 :: (q35, .inr (10, [.ref g40, .ref g38, .ref g36, .int S45, .int S46, .int (nI K47), .int G48])) :: mw κ a r f (va_up q 3 t29) (tb a) w) H locs := by rw [hw9] at hB; exact hB
                      refine W.eq (g2 := F0 m 212 ls [.ref q102, .int v, .ref (a 0)]) rfl ?_
                      replace hB : Bd κ A s (lA κ q103 ((r (2 * y.toNatClampNeg + 1)) * 5) F104 :: gO q102 (r (2 * y.toNatClampNeg + 1)) 1 q103 :: lA κ b62 ((r (2 * y.toNatClampNeg + 1)) * 5) fb62_141 :: gO q61 (r (2 * y.toNatClampNeg + 1)) 1 b62 :: lA κ q55 ((r (2 * y.toNatClampNeg)) * 5) F56 :: gO q54 (r (2 * y.toNatClampNeg)) 1 q55 :: lA κ q52 ((r (2 * z.toNatClampNeg)) * 5) F53 :: gO q51 (r (2 * z.toNatClampNeg)) 1 q52 :: lA κ b37 ((r (2 * y.toNatClampNeg + 1)) * 5) F42 :: gO g36 (r (2 * y.toNatClampNeg + 1)) (r (2 * y.toNatClampNeg + 1)) b37 :: lA κ b39 ((r (2 * y.toNatClampNeg)) * 5) F43 :: gO g38 (r (2 * y.toNatClampNeg)) (r (2 * y.toNatClampNeg)) b39 :: lA κ b41 ((r (2 * y.toNatClampNeg)) * 5) F44 :: gO g40 (r (2 * y.toNatClampNeg)) (r (2 * y.toNatClampNeg + 1)) b41 :: mw κ a r f (va_up q 3 t29) (tb a) w) H locs := Bd_del 14 hB
                      replace hB : Bd κ A s (lA κ q103 ((r (2 * y.toNatClampNeg + 1)) * 5) F104 :: gO q102 (r (2 * y.toNatClampNeg + 1)) 1 q103 :: lA κ b62 ((r (2 * y.toNatClampNeg + 1)) * 5) fb62_141 :: gO q61 (r (2 * y.toNatClampNeg + 1)) 1 b62 :: lA κ q55 ((r (2 * y.toNatClampNeg)) * 5) F56 :: gO q54 (r (2 * y.toNatClampNeg)) 1 q55 :: lA κ q52 ((r (2 * z.toNatClampNeg)) * 5) F53 :: gO q51 (r (2 * z.toNatClampNeg)) 1 q52 :: lA κ b37 ((r (2 * y.toNatClampNeg + 1)) * 5) F42 :: gO g36 (r (2 * y.toNatClampNeg + 1)) (r (2 * y.toNatClampNeg + 1)) b37 :: lA κ b39 ((r (2 * y.toNatClampNeg)) * 5) F43 :: gO g38 (r (2 * y.toNatClampNeg)) (r (2 * y.toNatClampNeg)) b39 :: lA κ b41 ((r (2 * y.toNatClampNeg)) * 5) F44 :: mw κ a r f (va_up q 3 t29) (tb a) w) H locs := Bd_del 13 hB
                      replace hB : Bd κ A s (lA κ q103 ((r (2 * y.toNatClampNeg + 1)) * 5) F104 :: gO q102 (r (2 * y.toNatClampNeg + 1)) 1 q103 :: lA κ b62 ((r (2 * y.toNatClampNeg + 1)) * 5) fb62_141 :: gO q61 (r (2 * y.toNatClampNeg + 1)) 1 b62 :: lA κ q55 ((r (2 * y.toNatClampNeg)) * 5) F56 :: gO q54 (r (2 * y.toNatClampNeg)) 1 q55 :: lA κ q52 ((r (2 * z.toNatClampNeg)) * 5) F53 :: gO q51 (r (2 * z.toNatClampNeg)) 1 q52 :: lA κ b37 ((r (2 * y.toNatClampNeg + 1)) * 5) F42 :: gO g36 (r (2 * y.toNatClampNeg + 1)) (r (2 * y.toNatClampNeg + 1)) b37 :: lA κ b39 ((r (2 * y.toNatClampNeg)) * 5) F43 :: gO g38 (r (2 * y.toNatClampNeg)) (r (2 * y.toNatClampNeg)) b39 :: mw κ a r f (va_up q 3 t29) (tb a) w) H locs := Bd_del 12 hB
                      replace hB : Bd κ A s (lA κ q103 ((r (2 * y.toNatClampNeg + 1)) * 5) F104 :: gO q102 (r (2 * y.toNatClampNeg + 1)) 1 q103 :: lA κ b62 ((r (2 * y.toNatClampNeg + 1)) * 5) fb62_141 :: gO q61 (r (2 * y.toNatClampNeg + 1)) 1 b62 :: lA κ q55 ((r (2 * y.toNatClampNeg)) * 5) F56 :: gO q54 (r (2 * y.toNatClampNeg)) 1 q55 :: lA κ q52 ((r (2 * z.toNatClampNeg)) * 5) F53 :: gO q51 (r (2 * z.toNatClampNeg)) 1 q52 :: lA κ b37 ((r (2 * y.toNatClampNeg + 1)) * 5) F42 :: gO g36 (r (2 * y.toNatClampNeg + 1)) (r (2 * y.toNatClampNeg + 1)) b37 :: lA κ b39 ((r (2 * y.toNatClampNeg)) * 5) F43 :: mw κ a r f (va_up q 3 t29) (tb a) w) H locs := Bd_del 11 hB
                      replace hB : Bd κ A s (lA κ q103 ((r (2 * y.toNatClampNeg + 1)) * 5) F104 :: gO q102 (r (2 * y.toNatClampNeg + 1)) 1 q103 :: lA κ b62 ((r (2 * y.toNatClampNeg + 1)) * 5) fb62_141 :: gO q61 (r (2 * y.toNatClampNeg + 1)) 1 b62 :: lA κ q55 ((r (2 * y.toNatClampNeg)) * 5) F56 :: gO q54 (r (2 * y.toNatClampNeg)) 1 q55 :: lA κ q52 ((r (2 * z.toNatClampNeg)) * 5) F53 :: gO q51 (r (2 * z.toNatClampNeg)) 1 q52 :: lA κ b37 ((r (2 * y.toNatClampNeg + 1)) * 5) F42 :: gO g36 (r (2 * y.toNatClampNeg + 1)) (r (2 * y.toNatClampNeg + 1)) b37 :: mw κ a r f (va_up q 3 t29) (tb a) w) H locs := Bd_del 10 hB
                      replace hB : Bd κ A s (lA κ q103 ((r (2 * y.toNatClampNeg + 1)) * 5) F104 :: gO q102 (r (2 * y.toNatClampNeg + 1)) 1 q103 :: lA κ b62 ((r (2 * y.toNatClampNeg + 1)) * 5) fb62_141 :: gO q61 (r (2 * y.toNatClampNeg + 1)) 1 b62 :: lA κ q55 ((r (2 * y.toNatClampNeg)) * 5) F56 :: gO q54 (r (2 * y.toNatClampNeg)) 1 q55 :: lA κ q52 ((r (2 * z.toNatClampNeg)) * 5) F53 :: gO q51 (r (2 * z.toNatClampNeg)) 1 q52 :: lA κ b37 ((r (2 * y.toNatClampNeg + 1)) * 5) F42 :: mw κ a r f (va_up q 3 t29) (tb a) w) H locs := Bd_del 9 hB
                      replace hB : Bd κ A s (lA κ q103 ((r (2 * y.toNatClampNeg + 1)) * 5) F104 :: gO q102 (r (2 * y.toNatClampNeg + 1)) 1 q103 :: lA κ b62 ((r (2 * y.toNatClampNeg + 1)) * 5) fb62_141 :: gO q61 (r (2 * y.toNatClampNeg + 1)) 1 b62 :: lA κ q55 ((r (2 * y.toNatClampNeg)) * 5) F56 :: gO q54 (r (2 * y.toNatClampNeg)) 1 q55 :: lA κ q52 ((r (2 * z.toNatClampNeg)) * 5) F53 :: gO q51 (r (2 * z.toNatClampNeg)) 1 q52 :: mw κ a r f (va_up q 3 t29) (tb a) w) H locs := Bd_del 8 hB
                      replace hB : Bd κ A s (lA κ q103 ((r (2 * y.toNatClampNeg + 1)) * 5) F104 :: gO q102 (r (2 * y.toNatClampNeg + 1)) 1 q103 :: lA κ b62 ((r (2 * y.toNatClampNeg + 1)) * 5) fb62_141 :: gO q61 (r (2 * y.toNatClampNeg + 1)) 1 b62 :: lA κ q55 ((r (2 * y.toNatClampNeg)) * 5) F56 :: gO q54 (r (2 * y.toNatClampNeg)) 1 q55 :: lA κ q52 ((r (2 * z.toNatClampNeg)) * 5) F53 :: mw κ a r f (va_up q 3 t29) (tb a) w) H locs := Bd_del 7 hB
                      replace hB : Bd κ A s (lA κ q103 ((r (2 * y.toNatClampNeg + 1)) * 5) F104 :: gO q102 (r (2 * y.toNatClampNeg + 1)) 1 q103 :: lA κ b62 ((r (2 * y.toNatClampNeg + 1)) * 5) fb62_141 :: gO q61 (r (2 * y.toNatClampNeg + 1)) 1 b62 :: lA κ q55 ((r (2 * y.toNatClampNeg)) * 5) F56 :: gO q54 (r (2 * y.toNatClampNeg)) 1 q55 :: mw κ a r f (va_up q 3 t29) (tb a) w) H locs := Bd_del 6 hB
                      replace hB : Bd κ A s (lA κ q103 ((r (2 * y.toNatClampNeg + 1)) * 5) F104 :: gO q102 (r (2 * y.toNatClampNeg + 1)) 1 q103 :: lA κ b62 ((r (2 * y.toNatClampNeg + 1)) * 5) fb62_141 :: gO q61 (r (2 * y.toNatClampNeg + 1)) 1 b62 :: lA κ q55 ((r (2 * y.toNatClampNeg)) * 5) F56 :: mw κ a r f (va_up q 3 t29) (tb a) w) H locs := Bd_del 5 hB
                      replace hB : Bd κ A s (lA κ q103 ((r (2 * y.toNatClampNeg + 1)) * 5) F104 :: gO q102 (r (2 * y.toNatClampNeg + 1)) 1 q103 :: lA κ b62 ((r (2 * y.toNatClampNeg + 1)) * 5) fb62_141 :: gO q61 (r (2 * y.toNatClampNeg + 1)) 1 b62 :: mw κ a r f (va_up q 3 t29) (tb a) w) H locs := Bd_del 4 hB
                      replace hB : Bd κ A s (lA κ q103 ((r (2 * y.toNatClampNeg + 1)) * 5) F104 :: gO q102 (r (2 * y.toNatClampNeg + 1)) 1 q103 :: lA κ b62 ((r (2 * y.toNatClampNeg + 1)) * 5) fb62_141 :: mw κ a r f (va_up q 3 t29) (tb a) w) H locs := Bd_del 3 hB
                      replace hB : Bd κ A s (lA κ q103 ((r (2 * y.toNatClampNeg + 1)) * 5) F104 :: gO q102 (r (2 * y.toNatClampNeg + 1)) 1 q103 :: mw κ a r f (va_up q 3 t29) (tb a) w) H locs := Bd_del 2 hB
                      refine call_V (n := 2) (k0 := 2) (As := [.int v, .ref q102]) (rest := []) hX hB (k_X10_become κ l w a r f (va_up q 3 t29) v q102 q103 (r (2 * y.toNatClampNeg + 1)) 1 F104 hm ⟨by omega, by omega, by omega, by omega⟩ (by assumption) (by assumption)) ⟨rfl, by decide, by decide, by decide +kernel⟩ wm_6_104 wm_6_106 wp_37 wm_1_6 wm_6_107 ⟨Nat.le_of_ble_eq_true rfl, Nat.le_of_ble_eq_true rfl⟩ ⟨Nat.le_of_ble_eq_true rfl, Nat.le_of_ble_eq_true rfl⟩ (mw0x (a := a) (r := r) (f := f) (q := (va_up q 3 t29)) (T := tb a) (w := w) rfl) rfl rfl rfl hl.1 rfl (Nat.le_of_ble_eq_true rfl) dX10_solve_212 (fun o w' H locs hp hB => ?_)
                      obtain ⟨x105, an106, rn107, fn108, qn109, rfl, hf110, hf111, hf112, hw9⟩ := hp
                      replace hB : Bd κ A s (mw κ an106 rn107 fn108 qn109 (tb an106) w) H locs := by rw [hw9] at hB; exact hB
                      refine W.eq (g2 := F0 m 215 ls [.int x105]) rfl ?_
                      rw [← hQ]
                      exact end_i hX hB hA3 rfl rfl ⟨x105, an106, rn107, fn108, qn109, rfl, (hf110.trans rfl), hf111, (hf112.trans rfl), rfl⟩ (Nat.le_of_ble_eq_true rfl) (Nat.le_of_ble_eq_true rfl) dX10_solve_215
                    · refine W.eq (g2 := F0 m 191 ls [.int 1]) rfl ?_
                      refine lv_if_eq (tgt := 199) hx hb dX10_solve_191 (by decide) (fun c113 => False.elim (by revert c113; decide)) (fun _ => ?_)
                      refine lv_aload_n hx hb dX10_solve_194 rfl (lv_at hl 5 rfl) ?_
                      refine call_V (n := 0) (k0 := 13) (As := []) (rest := []) hX hB (k_X10_no κ l (lA κ b62 ((r (2 * y.toNatClampNeg + 1)) * 5) fb62_141 :: gO q61 (r (2 * y.toNatClampNeg + 1)) 1 b62 :: lA κ q55 ((r (2 * y.toNatClampNeg)) * 5) F56 :: gO q54 (r (2 * y.toNatClampNeg)) 1 q55 :: lA κ q52 ((r (2 * z.toNatClampNeg)) * 5) F53 :: gO q51 (r (2 * z.toNatClampNeg)) 1 q52 :: lA κ b37 ((r (2 * y.toNatClampNeg + 1)) * 5) F42 :: gO g36 (r (2 * y.toNatClampNeg + 1)) (r (2 * y.toNatClampNeg + 1)) b37 :: lA κ b39 ((r (2 * y.toNatClampNeg)) * 5) F43 :: gO g38 (r (2 * y.toNatClampNeg)) (r (2 * y.toNatClampNeg)) b39 :: lA κ b41 ((r (2 * y.toNatClampNeg)) * 5) F44 :: gO g40 (r (2 * y.toNatClampNeg)) (r (2 * y.toNatClampNeg + 1)) b41 :: (q35, .inr (10, [.ref g40, .ref g38, .ref g36, .int S45, .int S46, .int (nI K47), .int G48])) :: mw κ a r f (va_up q 3 t29) (tb a) w) 13 (a 0) (a 1) ((va_up q 3 t29) 0) ((va_up q 3 t29) 1) ((va_up q 3 t29) 2) ((va_up q 3 t29) 3) (mw0x (a := a) (r := r) (f := f) (q := (va_up q 3 t29)) (T := tb a) (w := w) rfl)) ⟨rfl, by decide, by decide, by decide +kernel⟩ wm_6_85 wm_6_87 wp_36 wm_1_6 wm_6_88 ⟨Nat.le_of_ble_eq_true rfl, Nat.le_of_ble_eq_true rfl⟩ ⟨Nat.le_of_ble_eq_true rfl, Nat.le_of_ble_eq_true rfl⟩ (mw0x (a := a) (r := r) (f := f) (q := (va_up q 3 t29)) (T := tb a) (w := w) rfl) rfl rfl rfl hl.1 rfl (Nat.le_of_ble_eq_true rfl) dX10_solve_195 (fun o w' H locs hp hB => ?_)
                      obtain ⟨rfl, hw9⟩ := hp
                      replace hB : Bd κ A s (lA κ b62 ((r (2 * y.toNatClampNeg + 1)) * 5) fb62_141 :: gO q61 (r (2 * y.toNatClampNeg + 1)) 1 b62 :: lA κ q55 ((r (2 * y.toNatClampNeg)) * 5) F56 :: gO q54 (r (2 * y.toNatClampNeg)) 1 q55 :: lA κ q52 ((r (2 * z.toNatClampNeg)) * 5) F53 :: gO q51 (r (2 * z.toNatClampNeg)) 1 q52 :: lA κ b37 ((r (2 * y.toNatClampNeg + 1)) * 5) F42 :: gO g36 (r (2 * y.toNatClampNeg + 1)) (r (2 * y.toNatClampNeg + 1)) b37 :: lA κ b39 ((r (2 * y.toNatClampNeg)) * 5) F43 :: gO g38 (r (2 * y.toNatClampNeg)) (r (2 * y.toNatClampNeg)) b39 :: lA κ b41 ((r (2 * y.toNatClampNeg)) * 5) F44 :: gO g40 (r (2 * y.toNatClampNeg)) (r (2 * y.toNatClampNeg + 1)) b41 :: (q35, .inr (10, [.ref g40, .ref g38, .ref g36, .int S45, .int S46, .int (nI K47), .int G48])) :: mw κ a r f (va_up (va_up q 3 t29) 1 (((va_up q 3 t29) 1) + 1)) (tb a) w) H locs := by exact Bd_eq (congrArg (List.cons _) (congrArg (List.cons _) (congrArg (List.cons _) (congrArg (List.cons _) (congrArg (List.cons _) (congrArg (List.cons _) (congrArg (List.cons _) (congrArg (List.cons _) (congrArg (List.cons _) (congrArg (List.cons _) (congrArg (List.cons _) (congrArg (List.cons _) (congrArg (List.cons _) (mwQ1x rfl _)))))))))))))) (by rw [hw9] at hB; exact hB)
                      refine W.eq (g2 := F0 m 198 ls [.int (-9)]) rfl ?_
                      replace hB : Bd κ A s (lA κ b62 ((r (2 * y.toNatClampNeg + 1)) * 5) fb62_141 :: gO q61 (r (2 * y.toNatClampNeg + 1)) 1 b62 :: lA κ q55 ((r (2 * y.toNatClampNeg)) * 5) F56 :: gO q54 (r (2 * y.toNatClampNeg)) 1 q55 :: lA κ q52 ((r (2 * z.toNatClampNeg)) * 5) F53 :: gO q51 (r (2 * z.toNatClampNeg)) 1 q52 :: lA κ b37 ((r (2 * y.toNatClampNeg + 1)) * 5) F42 :: gO g36 (r (2 * y.toNatClampNeg + 1)) (r (2 * y.toNatClampNeg + 1)) b37 :: lA κ b39 ((r (2 * y.toNatClampNeg)) * 5) F43 :: gO g38 (r (2 * y.toNatClampNeg)) (r (2 * y.toNatClampNeg)) b39 :: lA κ b41 ((r (2 * y.toNatClampNeg)) * 5) F44 :: gO g40 (r (2 * y.toNatClampNeg)) (r (2 * y.toNatClampNeg + 1)) b41 :: mw κ a r f (va_up (va_up q 3 t29) 1 (((va_up q 3 t29) 1) + 1)) (tb a) w) H locs := Bd_del 12 hB
                      replace hB : Bd κ A s (lA κ b62 ((r (2 * y.toNatClampNeg + 1)) * 5) fb62_141 :: gO q61 (r (2 * y.toNatClampNeg + 1)) 1 b62 :: lA κ q55 ((r (2 * y.toNatClampNeg)) * 5) F56 :: gO q54 (r (2 * y.toNatClampNeg)) 1 q55 :: lA κ q52 ((r (2 * z.toNatClampNeg)) * 5) F53 :: gO q51 (r (2 * z.toNatClampNeg)) 1 q52 :: lA κ b37 ((r (2 * y.toNatClampNeg + 1)) * 5) F42 :: gO g36 (r (2 * y.toNatClampNeg + 1)) (r (2 * y.toNatClampNeg + 1)) b37 :: lA κ b39 ((r (2 * y.toNatClampNeg)) * 5) F43 :: gO g38 (r (2 * y.toNatClampNeg)) (r (2 * y.toNatClampNeg)) b39 :: lA κ b41 ((r (2 * y.toNatClampNeg)) * 5) F44 :: mw κ a r f (va_up (va_up q 3 t29) 1 (((va_up q 3 t29) 1) + 1)) (tb a) w) H locs := Bd_del 11 hB
                      replace hB : Bd κ A s (lA κ b62 ((r (2 * y.toNatClampNeg + 1)) * 5) fb62_141 :: gO q61 (r (2 * y.toNatClampNeg + 1)) 1 b62 :: lA κ q55 ((r (2 * y.toNatClampNeg)) * 5) F56 :: gO q54 (r (2 * y.toNatClampNeg)) 1 q55 :: lA κ q52 ((r (2 * z.toNatClampNeg)) * 5) F53 :: gO q51 (r (2 * z.toNatClampNeg)) 1 q52 :: lA κ b37 ((r (2 * y.toNatClampNeg + 1)) * 5) F42 :: gO g36 (r (2 * y.toNatClampNeg + 1)) (r (2 * y.toNatClampNeg + 1)) b37 :: lA κ b39 ((r (2 * y.toNatClampNeg)) * 5) F43 :: gO g38 (r (2 * y.toNatClampNeg)) (r (2 * y.toNatClampNeg)) b39 :: mw κ a r f (va_up (va_up q 3 t29) 1 (((va_up q 3 t29) 1) + 1)) (tb a) w) H locs := Bd_del 10 hB
                      replace hB : Bd κ A s (lA κ b62 ((r (2 * y.toNatClampNeg + 1)) * 5) fb62_141 :: gO q61 (r (2 * y.toNatClampNeg + 1)) 1 b62 :: lA κ q55 ((r (2 * y.toNatClampNeg)) * 5) F56 :: gO q54 (r (2 * y.toNatClampNeg)) 1 q55 :: lA κ q52 ((r (2 * z.toNatClampNeg)) * 5) F53 :: gO q51 (r (2 * z.toNatClampNeg)) 1 q52 :: lA κ b37 ((r (2 * y.toNatClampNeg + 1)) * 5) F42 :: gO g36 (r (2 * y.toNatClampNeg + 1)) (r (2 * y.toNatClampNeg + 1)) b37 :: lA κ b39 ((r (2 * y.toNatClampNeg)) * 5) F43 :: mw κ a r f (va_up (va_up q 3 t29) 1 (((va_up q 3 t29) 1) + 1)) (tb a) w) H locs := Bd_del 9 hB
                      replace hB : Bd κ A s (lA κ b62 ((r (2 * y.toNatClampNeg + 1)) * 5) fb62_141 :: gO q61 (r (2 * y.toNatClampNeg + 1)) 1 b62 :: lA κ q55 ((r (2 * y.toNatClampNeg)) * 5) F56 :: gO q54 (r (2 * y.toNatClampNeg)) 1 q55 :: lA κ q52 ((r (2 * z.toNatClampNeg)) * 5) F53 :: gO q51 (r (2 * z.toNatClampNeg)) 1 q52 :: lA κ b37 ((r (2 * y.toNatClampNeg + 1)) * 5) F42 :: gO g36 (r (2 * y.toNatClampNeg + 1)) (r (2 * y.toNatClampNeg + 1)) b37 :: mw κ a r f (va_up (va_up q 3 t29) 1 (((va_up q 3 t29) 1) + 1)) (tb a) w) H locs := Bd_del 8 hB
                      replace hB : Bd κ A s (lA κ b62 ((r (2 * y.toNatClampNeg + 1)) * 5) fb62_141 :: gO q61 (r (2 * y.toNatClampNeg + 1)) 1 b62 :: lA κ q55 ((r (2 * y.toNatClampNeg)) * 5) F56 :: gO q54 (r (2 * y.toNatClampNeg)) 1 q55 :: lA κ q52 ((r (2 * z.toNatClampNeg)) * 5) F53 :: gO q51 (r (2 * z.toNatClampNeg)) 1 q52 :: lA κ b37 ((r (2 * y.toNatClampNeg + 1)) * 5) F42 :: mw κ a r f (va_up (va_up q 3 t29) 1 (((va_up q 3 t29) 1) + 1)) (tb a) w) H locs := Bd_del 7 hB
                      replace hB : Bd κ A s (lA κ b62 ((r (2 * y.toNatClampNeg + 1)) * 5) fb62_141 :: gO q61 (r (2 * y.toNatClampNeg + 1)) 1 b62 :: lA κ q55 ((r (2 * y.toNatClampNeg)) * 5) F56 :: gO q54 (r (2 * y.toNatClampNeg)) 1 q55 :: lA κ q52 ((r (2 * z.toNatClampNeg)) * 5) F53 :: gO q51 (r (2 * z.toNatClampNeg)) 1 q52 :: mw κ a r f (va_up (va_up q 3 t29) 1 (((va_up q 3 t29) 1) + 1)) (tb a) w) H locs := Bd_del 6 hB
                      replace hB : Bd κ A s (lA κ b62 ((r (2 * y.toNatClampNeg + 1)) * 5) fb62_141 :: gO q61 (r (2 * y.toNatClampNeg + 1)) 1 b62 :: lA κ q55 ((r (2 * y.toNatClampNeg)) * 5) F56 :: gO q54 (r (2 * y.toNatClampNeg)) 1 q55 :: lA κ q52 ((r (2 * z.toNatClampNeg)) * 5) F53 :: mw κ a r f (va_up (va_up q 3 t29) 1 (((va_up q 3 t29) 1) + 1)) (tb a) w) H locs := Bd_del 5 hB
                      replace hB : Bd κ A s (lA κ b62 ((r (2 * y.toNatClampNeg + 1)) * 5) fb62_141 :: gO q61 (r (2 * y.toNatClampNeg + 1)) 1 b62 :: lA κ q55 ((r (2 * y.toNatClampNeg)) * 5) F56 :: gO q54 (r (2 * y.toNatClampNeg)) 1 q55 :: mw κ a r f (va_up (va_up q 3 t29) 1 (((va_up q 3 t29) 1) + 1)) (tb a) w) H locs := Bd_del 4 hB
                      replace hB : Bd κ A s (lA κ b62 ((r (2 * y.toNatClampNeg + 1)) * 5) fb62_141 :: gO q61 (r (2 * y.toNatClampNeg + 1)) 1 b62 :: lA κ q55 ((r (2 * y.toNatClampNeg)) * 5) F56 :: mw κ a r f (va_up (va_up q 3 t29) 1 (((va_up q 3 t29) 1) + 1)) (tb a) w) H locs := Bd_del 3 hB
                      replace hB : Bd κ A s (lA κ b62 ((r (2 * y.toNatClampNeg + 1)) * 5) fb62_141 :: gO q61 (r (2 * y.toNatClampNeg + 1)) 1 b62 :: mw κ a r f (va_up (va_up q 3 t29) 1 (((va_up q 3 t29) 1) + 1)) (tb a) w) H locs := Bd_del 2 hB
                      replace hB : Bd κ A s (lA κ b62 ((r (2 * y.toNatClampNeg + 1)) * 5) fb62_141 :: mw κ a r f (va_up (va_up q 3 t29) 1 (((va_up q 3 t29) 1) + 1)) (tb a) w) H locs := Bd_del 1 hB
                      replace hB : Bd κ A s (mw κ a r f (va_up (va_up q 3 t29) 1 (((va_up q 3 t29) 1) + 1)) (tb a) w) H locs := Bd_del 0 hB
                      rw [← hQ]
                      exact end_i hX hB hA3 rfl rfl ⟨(-9), a, r, f, (va_up (va_up q 3 t29) 1 (((va_up q 3 t29) 1) + 1)), rfl, rfl, hm, rfl, rfl⟩ (Nat.le_of_ble_eq_true rfl) (Nat.le_of_ble_eq_true rfl) dX10_solve_198
                  · rw [nleP (a := K47) (b := y9_141) (by omega) (by omega)] at c97
                    refine lv_aload hx hb dX10_solve_151 (lv_at hl 1 rfl) ?_
                    refine lv_iload hx hb dX10_solve_153 (lv_at hl 0 rfl) ?_
                    refine lv_iconst (v := 0) hx hb dX10_solve_155 (by decide) ?_
                    refine lv_aload hx hb dX10_solve_156 (lv_at hl 2 rfl) ?_
                    refine lv_iload hx hb dX10_solve_158 (lv_at hl 0 rfl) ?_
                    refine lv_iconst (v := 0) hx hb dX10_solve_160 (by decide) ?_
                    refine call_V (n := 2) (k0 := 3) (As := [.int (nI y9_141), .int 0]) (rest := [.int 0, .int (nI y9_141), .ref q61]) hX hB (k_X7_at κ l (lA κ b62 ((r (2 * y.toNatClampNeg + 1)) * 5) fb62_141 :: gO q61 (r (2 * y.toNatClampNeg + 1)) 1 b62 :: lA κ q55 ((r (2 * y.toNatClampNeg)) * 5) F56 :: gO q54 (r (2 * y.toNatClampNeg)) 1 q55 :: lA κ q52 ((r (2 * z.toNatClampNeg)) * 5) F53 :: gO q51 (r (2 * z.toNatClampNeg)) 1 q52 :: lA κ b37 ((r (2 * y.toNatClampNeg + 1)) * 5) F42 :: gO g36 (r (2 * y.toNatClampNeg + 1)) (r (2 * y.toNatClampNeg + 1)) b37 :: lA κ b39 ((r (2 * y.toNatClampNeg)) * 5) F43 :: gO g38 (r (2 * y.toNatClampNeg)) (r (2 * y.toNatClampNeg)) b39 :: lA κ b41 ((r (2 * y.toNatClampNeg)) * 5) F44 :: gO g40 (r (2 * y.toNatClampNeg)) (r (2 * y.toNatClampNeg + 1)) b41 :: (q35, .inr (10, [.ref g40, .ref g38, .ref g36, .int S45, .int S46, .int (nI K47), .int G48])) :: mw κ a r f (va_up q 3 t29) (tb a) w) 3 2 q54 q55 (r (2 * y.toNatClampNeg)) 1 F56 (nI y9_141) y9_141 0 0 rfl rfl ⟨by omega, by omega, by omega, by omega⟩ rfl rfl (by omega)) ⟨rfl, by decide, by decide, by decide +kernel⟩ wm_5_233 wm_5_234 wm_5_235 wm_1_7 wm_5_236 ⟨Nat.le_of_ble_eq_true rfl, Nat.le_of_ble_eq_true rfl⟩ ⟨Nat.le_of_ble_eq_true rfl, Nat.le_of_ble_eq_true rfl⟩ rfl rfl rfl rfl hl.1 rfl (Nat.le_of_ble_eq_true rfl) dX10_solve_161 (fun o w' H locs hp hB => ?_)
                    obtain ⟨rfl, hw9⟩ := hp
                    replace hB : Bd κ A s (lA κ b62 ((r (2 * y.toNatClampNeg + 1)) * 5) fb62_141 :: gO q61 (r (2 * y.toNatClampNeg + 1)) 1 b62 :: lA κ q55 ((r (2 * y.toNatClampNeg)) * 5) F56 :: gO q54 (r (2 * y.toNatClampNeg)) 1 q55 :: lA κ q52 ((r (2 * z.toNatClampNeg)) * 5) F53 :: gO q51 (r (2 * z.toNatClampNeg)) 1 q52 :: lA κ b37 ((r (2 * y.toNatClampNeg + 1)) * 5) F42 :: gO g36 (r (2 * y.toNatClampNeg + 1)) (r (2 * y.toNatClampNeg + 1)) b37 :: lA κ b39 ((r (2 * y.toNatClampNeg)) * 5) F43 :: gO g38 (r (2 * y.toNatClampNeg)) (r (2 * y.toNatClampNeg)) b39 :: lA κ b41 ((r (2 * y.toNatClampNeg)) * 5) F44 :: gO g40 (r (2 * y.toNatClampNeg)) (r (2 * y.toNatClampNeg + 1)) b41 :: (q35, .inr (10, [.ref g40, .ref g38, .ref g36, .int S45, .int S46, .int (nI K47), .int G48])) :: mw κ a r f (va_up q 3 t29) (tb a) w) H locs := by rw [hw9] at hB; exact hB
                    refine W.eq (g2 := F0 m 164 ls [.long (F56 (y9_141 * 5 + 0)), .int 0, .int (nI y9_141), .ref q61]) rfl ?_
                    refine lv_aload hx hb dX10_solve_164 (lv_at hl 3 rfl) ?_
                    refine gf (k0 := 12) hX hB rfl rfl in9 0 (by decide) wm_6_218 rfl rfl dX10_solve_166 ?_
                    refine lv_iload hx hb dX10_solve_169 (lv_at hl 0 rfl) ?_
                    refine lv_iload hx hb dX10_solve_171 (lv_at hl 0 rfl) ?_
                    refine call_V (n := 2) (k0 := 11) (As := [.int (nI y9_141), .int (nI y9_141)]) (rest := [.long (F56 (y9_141 * 5 + 0)), .int 0, .int (nI y9_141), .ref q61]) hX hB (k_X7_at κ l (lA κ b62 ((r (2 * y.toNatClampNeg + 1)) * 5) fb62_141 :: gO q61 (r (2 * y.toNatClampNeg + 1)) 1 b62 :: lA κ q55 ((r (2 * y.toNatClampNeg)) * 5) F56 :: gO q54 (r (2 * y.toNatClampNeg)) 1 q55 :: lA κ q52 ((r (2 * z.toNatClampNeg)) * 5) F53 :: gO q51 (r (2 * z.toNatClampNeg)) 1 q52 :: lA κ b37 ((r (2 * y.toNatClampNeg + 1)) * 5) F42 :: gO g36 (r (2 * y.toNatClampNeg + 1)) (r (2 * y.toNatClampNeg + 1)) b37 :: lA κ b39 ((r (2 * y.toNatClampNeg)) * 5) F43 :: gO g38 (r (2 * y.toNatClampNeg)) (r (2 * y.toNatClampNeg)) b39 :: lA κ b41 ((r (2 * y.toNatClampNeg)) * 5) F44 :: gO g40 (r (2 * y.toNatClampNeg)) (r (2 * y.toNatClampNeg + 1)) b41 :: (q35, .inr (10, [.ref g40, .ref g38, .ref g36, .int S45, .int S46, .int (nI K47), .int G48])) :: mw κ a r f (va_up q 3 t29) (tb a) w) 11 10 g40 b41 (r (2 * y.toNatClampNeg)) (r (2 * y.toNatClampNeg + 1)) F44 (nI y9_141) y9_141 (nI y9_141) y9_141 rfl rfl (mok_shp (i := y.toNatClampNeg) hm (by omega)) rfl rfl (by omega)) ⟨rfl, by decide, by decide, by decide +kernel⟩ wm_5_233 wm_5_234 wm_5_235 wm_1_7 wm_5_236 ⟨Nat.le_of_ble_eq_true rfl, Nat.le_of_ble_eq_true rfl⟩ ⟨Nat.le_of_ble_eq_true rfl, Nat.le_of_ble_eq_true rfl⟩ rfl rfl rfl rfl hl.1 rfl (Nat.le_of_ble_eq_true rfl) dX10_solve_173 (fun o w' H locs hp hB => ?_)
                    obtain ⟨rfl, hw9⟩ := hp
                    replace hB : Bd κ A s (lA κ b62 ((r (2 * y.toNatClampNeg + 1)) * 5) fb62_141 :: gO q61 (r (2 * y.toNatClampNeg + 1)) 1 b62 :: lA κ q55 ((r (2 * y.toNatClampNeg)) * 5) F56 :: gO q54 (r (2 * y.toNatClampNeg)) 1 q55 :: lA κ q52 ((r (2 * z.toNatClampNeg)) * 5) F53 :: gO q51 (r (2 * z.toNatClampNeg)) 1 q52 :: lA κ b37 ((r (2 * y.toNatClampNeg + 1)) * 5) F42 :: gO g36 (r (2 * y.toNatClampNeg + 1)) (r (2 * y.toNatClampNeg + 1)) b37 :: lA κ b39 ((r (2 * y.toNatClampNeg)) * 5) F43 :: gO g38 (r (2 * y.toNatClampNeg)) (r (2 * y.toNatClampNeg)) b39 :: lA κ b41 ((r (2 * y.toNatClampNeg)) * 5) F44 :: gO g40 (r (2 * y.toNatClampNeg)) (r (2 * y.toNatClampNeg + 1)) b41 :: (q35, .inr (10, [.ref g40, .ref g38, .ref g36, .int S45, .int S46, .int (nI K47), .int G48])) :: mw κ a r f (va_up q 3 t29) (tb a) w) H locs := by rw [hw9] at hB; exact hB
                    refine W.eq (g2 := F0 m 176 ls [.long (F44 (y9_141 * 5 + y9_141)), .long (F56 (y9_141 * 5 + 0)), .int 0, .int (nI y9_141), .ref q61]) rfl ?_
                    refine lv_ldiv hx hb dX10_solve_176 (hf49.2.2 _ (by omega)) ?_
                    refine call_V (n := 3) (k0 := 1) (As := [.int (nI y9_141), .int 0, .long ((F56 (y9_141 * 5 + 0)) / (F44 (y9_141 * 5 + y9_141)))]) (rest := []) hX hB (k_X7_put κ l (lA κ b62 ((r (2 * y.toNatClampNeg + 1)) * 5) fb62_141 :: gO q61 (r (2 * y.toNatClampNeg + 1)) 1 b62 :: lA κ q55 ((r (2 * y.toNatClampNeg)) * 5) F56 :: gO q54 (r (2 * y.toNatClampNeg)) 1 q55 :: lA κ q52 ((r (2 * z.toNatClampNeg)) * 5) F53 :: gO q51 (r (2 * z.toNatClampNeg)) 1 q52 :: lA κ b37 ((r (2 * y.toNatClampNeg + 1)) * 5) F42 :: gO g36 (r (2 * y.toNatClampNeg + 1)) (r (2 * y.toNatClampNeg + 1)) b37 :: lA κ b39 ((r (2 * y.toNatClampNeg)) * 5) F43 :: gO g38 (r (2 * y.toNatClampNeg)) (r (2 * y.toNatClampNeg)) b39 :: lA κ b41 ((r (2 * y.toNatClampNeg)) * 5) F44 :: gO g40 (r (2 * y.toNatClampNeg)) (r (2 * y.toNatClampNeg + 1)) b41 :: (q35, .inr (10, [.ref g40, .ref g38, .ref g36, .int S45, .int S46, .int (nI K47), .int G48])) :: mw κ a r f (va_up q 3 t29) (tb a) w) 1 0 q61 b62 (r (2 * y.toNatClampNeg + 1)) 1 fb62_141 (nI y9_141) y9_141 0 0 ((F56 (y9_141 * 5 + 0)) / (F44 (y9_141 * 5 + y9_141))) rfl rfl ⟨by omega, by omega, by omega, by omega⟩ rfl rfl (by omega)) ⟨rfl, by decide, by decide, by decide +kernel⟩ wm_5_237 wm_5_218 wm_5_219 wm_1_7 wm_5_220 ⟨Nat.le_of_ble_eq_true rfl, Nat.le_of_ble_eq_true rfl⟩ ⟨Nat.le_of_ble_eq_true rfl, Nat.le_of_ble_eq_true rfl⟩ rfl rfl rfl rfl hl.1 rfl (Nat.le_of_ble_eq_true rfl) dX10_solve_177 (fun o w' H locs hp hB => ?_)
                    obtain ⟨rfl, hw9⟩ := hp
                    replace hB : Bd κ A s (lA κ b62 ((r (2 * y.toNatClampNeg + 1)) * 5) (vp_updL fb62_141 (y9_141 * 5 + 0) ((F56 (y9_141 * 5 + 0)) / (F44 (y9_141 * 5 + y9_141)))) :: gO q61 (r (2 * y.toNatClampNeg + 1)) 1 b62 :: lA κ q55 ((r (2 * y.toNatClampNeg)) * 5) F56 :: gO q54 (r (2 * y.toNatClampNeg)) 1 q55 :: lA κ q52 ((r (2 * z.toNatClampNeg)) * 5) F53 :: gO q51 (r (2 * z.toNatClampNeg)) 1 q52 :: lA κ b37 ((r (2 * y.toNatClampNeg + 1)) * 5) F42 :: gO g36 (r (2 * y.toNatClampNeg + 1)) (r (2 * y.toNatClampNeg + 1)) b37 :: lA κ b39 ((r (2 * y.toNatClampNeg)) * 5) F43 :: gO g38 (r (2 * y.toNatClampNeg)) (r (2 * y.toNatClampNeg)) b39 :: lA κ b41 ((r (2 * y.toNatClampNeg)) * 5) F44 :: gO g40 (r (2 * y.toNatClampNeg)) (r (2 * y.toNatClampNeg + 1)) b41 :: (q35, .inr (10, [.ref g40, .ref g38, .ref g36, .int S45, .int S46, .int (nI K47), .int G48])) :: mw κ a r f (va_up q 3 t29) (tb a) w) H locs := by rw [hw9] at hB; exact hB
                    refine W.eq (g2 := F0 m 180 ls []) rfl ?_
                    refine lv_iinc (v := nI (y9_141 + 1)) (lv' := [(9, .int (nI (y9_141 + 1))), (8, .ref q61), (7, .ref q54), (6, .ref q35), (5, .ref (a (2 + 2 * y.toNatClampNeg))), (0, .ref (a 0)), (1, .int y), (2, .int z), (3, .int u), (4, .int v)]) hx hb dX10_solve_180 hl (k := 0) rfl (nI_add y9_141 1) (by decide) rfl (fun ls hl => ?_)
                    refine lv_goto (tgt := 141) hx hb dX10_solve_183 (by decide) ?_
                    exact ih141 (y9_141 + 1) (vp_updL fb62_141 (y9_141 * 5 + 0) ((F56 (y9_141 * 5 + 0)) / (F44 (y9_141 * 5 + y9_141)))) _ _ (by omega) (by omega) hB _ hl
              exact lp141 _ 0 (fun _ => 0) _ _ (by omega) (Nat.lt_succ_self _) hB _ hl
          · refine lv_aload_n hx hb dX10_solve_87 rfl (lv_at hl 2 rfl) ?_
            refine call_V (n := 0) (k0 := 7) (As := []) (rest := []) hX hB (k_X10_no κ l (lA κ b37 ((r (2 * y.toNatClampNeg + 1)) * 5) F42 :: gO g36 (r (2 * y.toNatClampNeg + 1)) (r (2 * y.toNatClampNeg + 1)) b37 :: lA κ b39 ((r (2 * y.toNatClampNeg)) * 5) F43 :: gO g38 (r (2 * y.toNatClampNeg)) (r (2 * y.toNatClampNeg)) b39 :: lA κ b41 ((r (2 * y.toNatClampNeg)) * 5) F44 :: gO g40 (r (2 * y.toNatClampNeg)) (r (2 * y.toNatClampNeg + 1)) b41 :: (q35, .inr (10, [.ref g40, .ref g38, .ref g36, .int S45, .int S46, .int (nI K47), .int G48])) :: mw κ a r f (va_up q 3 t29) (tb a) w) 7 (a 0) (a 1) ((va_up q 3 t29) 0) ((va_up q 3 t29) 1) ((va_up q 3 t29) 2) ((va_up q 3 t29) 3) (mw0x (a := a) (r := r) (f := f) (q := (va_up q 3 t29)) (T := tb a) (w := w) rfl)) ⟨rfl, by decide, by decide, by decide +kernel⟩ wm_6_85 wm_6_87 wp_36 wm_1_6 wm_6_88 ⟨Nat.le_of_ble_eq_true rfl, Nat.le_of_ble_eq_true rfl⟩ ⟨Nat.le_of_ble_eq_true rfl, Nat.le_of_ble_eq_true rfl⟩ (mw0x (a := a) (r := r) (f := f) (q := (va_up q 3 t29)) (T := tb a) (w := w) rfl) rfl rfl rfl hl.1 rfl (Nat.le_of_ble_eq_true rfl) dX10_solve_88 (fun o w' H locs hp hB => ?_)
            obtain ⟨rfl, hw9⟩ := hp
            replace hB : Bd κ A s (lA κ b37 ((r (2 * y.toNatClampNeg + 1)) * 5) F42 :: gO g36 (r (2 * y.toNatClampNeg + 1)) (r (2 * y.toNatClampNeg + 1)) b37 :: lA κ b39 ((r (2 * y.toNatClampNeg)) * 5) F43 :: gO g38 (r (2 * y.toNatClampNeg)) (r (2 * y.toNatClampNeg)) b39 :: lA κ b41 ((r (2 * y.toNatClampNeg)) * 5) F44 :: gO g40 (r (2 * y.toNatClampNeg)) (r (2 * y.toNatClampNeg + 1)) b41 :: (q35, .inr (10, [.ref g40, .ref g38, .ref g36, .int S45, .int S46, .int (nI K47), .int G48])) :: mw κ a r f (va_up (va_up q 3 t29) 1 (((va_up q 3 t29) 1) + 1)) (tb a) w) H locs := by exact Bd_eq (congrArg (List.cons _) (congrArg (List.cons _) (congrArg (List.cons _) (congrArg (List.cons _) (congrArg (List.cons _) (congrArg (List.cons _) (congrArg (List.cons _) (mwQ1x rfl _)))))))) (by rw [hw9] at hB; exact hB)
            refine W.eq (g2 := F0 m 91 ls [.int (-9)]) rfl ?_
            replace hB : Bd κ A s (lA κ b37 ((r (2 * y.toNatClampNeg + 1)) * 5) F42 :: gO g36 (r (2 * y.toNatClampNeg + 1)) (r (2 * y.toNatClampNeg + 1)) b37 :: lA κ b39 ((r (2 * y.toNatClampNeg)) * 5) F43 :: gO g38 (r (2 * y.toNatClampNeg)) (r (2 * y.toNatClampNeg)) b39 :: lA κ b41 ((r (2 * y.toNatClampNeg)) * 5) F44 :: gO g40 (r (2 * y.toNatClampNeg)) (r (2 * y.toNatClampNeg + 1)) b41 :: mw κ a r f (va_up (va_up q 3 t29) 1 (((va_up q 3 t29) 1) + 1)) (tb a) w) H locs := Bd_del 6 hB
            replace hB : Bd κ A s (lA κ b37 ((r (2 * y.toNatClampNeg + 1)) * 5) F42 :: gO g36 (r (2 * y.toNatClampNeg + 1)) (r (2 * y.toNatClampNeg + 1)) b37 :: lA κ b39 ((r (2 * y.toNatClampNeg)) * 5) F43 :: gO g38 (r (2 * y.toNatClampNeg)) (r (2 * y.toNatClampNeg)) b39 :: lA κ b41 ((r (2 * y.toNatClampNeg)) * 5) F44 :: mw κ a r f (va_up (va_up q 3 t29) 1 (((va_up q 3 t29) 1) + 1)) (tb a) w) H locs := Bd_del 5 hB
            replace hB : Bd κ A s (lA κ b37 ((r (2 * y.toNatClampNeg + 1)) * 5) F42 :: gO g36 (r (2 * y.toNatClampNeg + 1)) (r (2 * y.toNatClampNeg + 1)) b37 :: lA κ b39 ((r (2 * y.toNatClampNeg)) * 5) F43 :: gO g38 (r (2 * y.toNatClampNeg)) (r (2 * y.toNatClampNeg)) b39 :: mw κ a r f (va_up (va_up q 3 t29) 1 (((va_up q 3 t29) 1) + 1)) (tb a) w) H locs := Bd_del 4 hB
            replace hB : Bd κ A s (lA κ b37 ((r (2 * y.toNatClampNeg + 1)) * 5) F42 :: gO g36 (r (2 * y.toNatClampNeg + 1)) (r (2 * y.toNatClampNeg + 1)) b37 :: lA κ b39 ((r (2 * y.toNatClampNeg)) * 5) F43 :: mw κ a r f (va_up (va_up q 3 t29) 1 (((va_up q 3 t29) 1) + 1)) (tb a) w) H locs := Bd_del 3 hB
            replace hB : Bd κ A s (lA κ b37 ((r (2 * y.toNatClampNeg + 1)) * 5) F42 :: gO g36 (r (2 * y.toNatClampNeg + 1)) (r (2 * y.toNatClampNeg + 1)) b37 :: mw κ a r f (va_up (va_up q 3 t29) 1 (((va_up q 3 t29) 1) + 1)) (tb a) w) H locs := Bd_del 2 hB
            replace hB : Bd κ A s (lA κ b37 ((r (2 * y.toNatClampNeg + 1)) * 5) F42 :: mw κ a r f (va_up (va_up q 3 t29) 1 (((va_up q 3 t29) 1) + 1)) (tb a) w) H locs := Bd_del 1 hB
            replace hB : Bd κ A s (mw κ a r f (va_up (va_up q 3 t29) 1 (((va_up q 3 t29) 1) + 1)) (tb a) w) H locs := Bd_del 0 hB
            rw [← hQ]
            exact end_i hX hB hA3 rfl rfl ⟨(-9), a, r, f, (va_up (va_up q 3 t29) 1 (((va_up q 3 t29) 1) + 1)), rfl, rfl, hm, rfl, rfl⟩ (Nat.le_of_ble_eq_true rfl) (Nat.le_of_ble_eq_true rfl) dX10_solve_91
        · rw [neqP (a := r (2 * y.toNatClampNeg)) (b := r (2 * z.toNatClampNeg)) (by omega) (by omega)] at c34
          refine lv_aload_n hx hb dX10_solve_63 rfl (lv_at hl 1 rfl) ?_
          refine call_V (n := 0) (k0 := 0) (As := []) (rest := []) hX hB (k_X10_no κ l (mw κ a r f (va_up q 3 t29) (tb a) w) 0 (a 0) (a 1) ((va_up q 3 t29) 0) ((va_up q 3 t29) 1) ((va_up q 3 t29) 2) ((va_up q 3 t29) 3) (mw0x (a := a) (r := r) (f := f) (q := (va_up q 3 t29)) (T := tb a) (w := w) rfl)) ⟨rfl, by decide, by decide, by decide +kernel⟩ wm_6_85 wm_6_87 wp_36 wm_1_6 wm_6_88 ⟨Nat.le_of_ble_eq_true rfl, Nat.le_of_ble_eq_true rfl⟩ ⟨Nat.le_of_ble_eq_true rfl, Nat.le_of_ble_eq_true rfl⟩ (mw0x (a := a) (r := r) (f := f) (q := (va_up q 3 t29)) (T := tb a) (w := w) rfl) rfl rfl rfl hl.1 rfl (Nat.le_of_ble_eq_true rfl) dX10_solve_64 (fun o w' H locs hp hB => ?_)
          obtain ⟨rfl, hw9⟩ := hp
          replace hB : Bd κ A s (mw κ a r f (va_up (va_up q 3 t29) 1 (((va_up q 3 t29) 1) + 1)) (tb a) w) H locs := by exact Bd_eq (mwQ1x rfl _) (by rw [hw9] at hB; exact hB)
          refine W.eq (g2 := F0 m 67 ls [.int (-9)]) rfl ?_
          rw [← hQ]
          exact end_i hX hB hA3 rfl rfl ⟨(-9), a, r, f, (va_up (va_up q 3 t29) 1 (((va_up q 3 t29) 1) + 1)), rfl, rfl, hm, rfl, rfl⟩ (Nat.le_of_ble_eq_true rfl) (Nat.le_of_ble_eq_true rfl) dX10_solve_67
