theorem sm_01 {x : Int64} (h : x = 0 ∨ x = 1) : sm x := by rcases h with rfl | rfl <;> constructor <;> decide
theorem sm_i {v : Int32} (h1 : ¬ v < -20) (h2 : ¬ 20 < v) : sm v.toInt64 := by
  rw [i32_lt] at h1 h2
  rw [show (-20 : Int32).toInt = -20 from rfl] at h1
  rw [show (20 : Int32).toInt = 20 from rfl] at h2
  constructor
  · rw [Int64.le_iff_toInt_le, Int32.toInt_toInt64]
    show (-20 : Int) ≤ _
    omega
  · rw [Int64.le_iff_toInt_le, Int32.toInt_toInt64]
    show _ ≤ (20 : Int)
    omega
theorem sm_neg {x : Int64} (h : sm x) : sm (-x) := by
  have h1 := neg_int (sm_ng h)
  have h2 := Int64.le_iff_toInt_le.mp h.1
  have h3 := Int64.le_iff_toInt_le.mp h.2
  constructor
  · rw [Int64.le_iff_toInt_le, h1]
    rw [show (20 : Int64).toInt = 20 from rfl] at h3
    show (-20 : Int) ≤ _
    omega
  · rw [Int64.le_iff_toInt_le, h1]
    rw [show (-20 : Int64).toInt = -20 from rfl] at h2
    show _ ≤ (20 : Int)
    omega
theorem sm_xr {R C i j : Nat} {f : Nat → Int64} (hi : i < R) (hj : j < R) (h : ∀ k, k < R * 5 → sm (f k)) : ∀ k, k < R * 5 → sm (xr C i j f k) := by
  intro k hk
  unfold xr
  split
  · exact h _ (by omega)
  · split
    · exact h _ (by omega)
    · exact h k hk
theorem sm_xc {R i j : Nat} {f : Nat → Int64} (hi : i < 5) (hj : j < 5) (h : ∀ k, k < R * 5 → sm (f k)) : ∀ k, k < R * 5 → sm (xc R i j f k) := by
  intro k hk
  unfold xc
  split
  · exact h _ (by omega)
  · split
    · exact h _ (by omega)
    · exact h k hk
theorem sm_tr {R C i : Nat} {f : Nat → Int64} (h : ∀ k, k < R * 5 → sm (f k)) : ∀ k, k < R * 5 → sm (tr C i f k) := by
  intro k hk
  unfold tr
  split
  · exact sm_neg (h _ hk)
  · exact h k hk
theorem ne_nat {x y : Int32} (hx : 0 ≤ x) (hy : 0 ≤ y) (h : ¬ x = y) : x.toNatClampNeg ≠ y.toNatClampNeg := fun e => h (by rw [nI_rep hx, nI_rep hy, e])

set_option maxHeartbeats 4000000 in
set_option maxRecDepth 100000 in
theorem k_X10_isLine (κ : Kt) (l : Launch) (w : va_W) (a r : Nat → Nat) (f : Nat → Nat → Int64) (q : Nat → Int32) (y : Int32) (c0 : Int32) (z : Int32) (hm : mok r f) : CM κ l yX10_isLine cX10_isLine 4 (some .boolean) 2 42 0 0 [.ref (a 0), .int y, .int c0, .int z] (mw κ a r f q (tb a) w) (fun o w' => ∃ (x : Int32), o = some (.int x) ∧ (x = 0 ∨ x = 1 ∧ 0 ≤ y ∧ y.toNatClampNeg < 4 ∧ 0 ≤ z ∧ (c0 = 0 → z.toNatClampNeg < r (2 * y.toNatClampNeg)) ∧ (¬ c0 = 0 → z.toNatClampNeg < r (2 * y.toNatClampNeg + 1))) ∧ w' = mw κ a r f q (tb a) w) := by
  refine CM_begin (plainFor_of_name (by decide)) (Nat.le_of_ble_eq_true rfl) ?_
  intro p e s m args below meth c A Q hX hnm hA3 hQ hB ls hl
  have hx := hX.1.1
  have hb := hX.1.2.1
  have hl : lv_has ls 4 [(0, .ref (a 0)), (1, .int y), (2, .int c0), (3, .int z)] := hl
  refine lv_iload_n hx hb dX10_isLine_0 rfl (lv_at hl 2 rfl) ?_
  refine lv_if_eq (tgt := 13) hx hb dX10_isLine_1 (by decide) (fun c1 => ?_) (fun c1 => ?_)
  · refine lv_aload_n hx hb dX10_isLine_13 rfl (lv_at hl 0 rfl) ?_
    refine lv_iload_n hx hb dX10_isLine_14 rfl (lv_at hl 1 rfl) ?_
    refine lv_iload_n hx hb dX10_isLine_15 rfl (lv_at hl 3 rfl) ?_
    refine call_V (n := 2) (k0 := 0) (As := [.int y, .int z]) (rest := []) hX hB (k_X10_isRow κ l w a r f q y z hm) ⟨rfl, by decide, by decide, by decide +kernel⟩ wm_5_225 wm_5_227 wp_31 wm_1_6 wm_5_228 ⟨Nat.le_of_ble_eq_true rfl, Nat.le_of_ble_eq_true rfl⟩ ⟨Nat.le_of_ble_eq_true rfl, Nat.le_of_ble_eq_true rfl⟩ (mw0x (a := a) (r := r) (f := f) (q := q) (T := tb a) (w := w) rfl) rfl rfl rfl hl.1 rfl (Nat.le_of_ble_eq_true rfl) dX10_isLine_16 (fun o w' H locs hp hB => ?_)
    obtain ⟨x2, rfl, hf3, hw9⟩ := hp
    replace hB : Bd κ A s (mw κ a r f q (tb a) w) H locs := by rw [hw9] at hB; exact hB
    rcases hf3 with rfl | ⟨rfl, hz4a, hz4b, hz4c, hz4d⟩
    · refine W.eq (g2 := F0 m 19 ls [.int 0]) rfl ?_
      rw [← hQ]
      exact end_i hX hB hA3 rfl rfl ⟨0, rfl, (Or.inl rfl), rfl⟩ (Nat.le_of_ble_eq_true rfl) (Nat.le_of_ble_eq_true rfl) dX10_isLine_19
    · refine W.eq (g2 := F0 m 19 ls [.int 1]) rfl ?_
      rw [← hQ]
      exact end_i hX hB hA3 rfl rfl ⟨1, rfl, (Or.inr ⟨rfl, by assumption, by assumption, by assumption, (by first | exact fun _ => by assumption | exact fun h => absurd h (by assumption)), (by first | exact fun _ => by assumption | exact fun h => absurd (by assumption) h)⟩), rfl⟩ (Nat.le_of_ble_eq_true rfl) (Nat.le_of_ble_eq_true rfl) dX10_isLine_19
  · refine lv_aload_n hx hb dX10_isLine_4 rfl (lv_at hl 0 rfl) ?_
    refine lv_iload_n hx hb dX10_isLine_5 rfl (lv_at hl 1 rfl) ?_
    refine lv_iload_n hx hb dX10_isLine_6 rfl (lv_at hl 3 rfl) ?_
    refine call_V (n := 2) (k0 := 0) (As := [.int y, .int z]) (rest := []) hX hB (k_X10_isColumn κ l w a r f q y z hm) ⟨rfl, by decide, by decide, by decide +kernel⟩ wm_5_229 wm_5_231 wp_32 wm_1_6 wm_5_232 ⟨Nat.le_of_ble_eq_true rfl, Nat.le_of_ble_eq_true rfl⟩ ⟨Nat.le_of_ble_eq_true rfl, Nat.le_of_ble_eq_true rfl⟩ (mw0x (a := a) (r := r) (f := f) (q := q) (T := tb a) (w := w) rfl) rfl rfl rfl hl.1 rfl (Nat.le_of_ble_eq_true rfl) dX10_isLine_7 (fun o w' H locs hp hB => ?_)
    obtain ⟨x5, rfl, hf6, hw9⟩ := hp
    replace hB : Bd κ A s (mw κ a r f q (tb a) w) H locs := by rw [hw9] at hB; exact hB
    rcases hf6 with rfl | ⟨rfl, hz7a, hz7b, hz7c, hz7d⟩
    · refine W.eq (g2 := F0 m 10 ls [.int 0]) rfl ?_
      refine lv_goto (tgt := 19) hx hb dX10_isLine_10 (by decide) ?_
      rw [← hQ]
      exact end_i hX hB hA3 rfl rfl ⟨0, rfl, (Or.inl rfl), rfl⟩ (Nat.le_of_ble_eq_true rfl) (Nat.le_of_ble_eq_true rfl) dX10_isLine_19
    · refine W.eq (g2 := F0 m 10 ls [.int 1]) rfl ?_
      refine lv_goto (tgt := 19) hx hb dX10_isLine_10 (by decide) ?_
      rw [← hQ]
      exact end_i hX hB hA3 rfl rfl ⟨1, rfl, (Or.inr ⟨rfl, by assumption, by assumption, by assumption, (by first | exact fun _ => by assumption | exact fun h => absurd h (by assumption)), (by first | exact fun _ => by assumption | exact fun h => absurd (by assumption) h)⟩), rfl⟩ (Nat.le_of_ble_eq_true rfl) (Nat.le_of_ble_eq_true rfl) dX10_isLine_19
set_option maxHeartbeats 4000000 in
set_option maxRecDepth 100000 in
theorem k_X10_become (κ : Kt) (l : Launch) (w : va_W) (a r : Nat → Nat) (f : Nat → Nat → Int64) (q : Nat → Int32) (y : Int32) (g_o b_o R_o C_o : Nat) (f_o : Nat → Int64) (hm : mok r f) (ho : 1 ≤ R_o ∧ R_o ≤ 4 ∧ 1 ≤ C_o ∧ C_o ≤ 4) (hy0 : 0 ≤ y) (hy4 : y.toNatClampNeg < 4) : CM κ l yX10_become cX10_become 3 (some .int) 1 26 0 0 [.ref (a 0), .int y, .ref g_o] (lA κ b_o (R_o * 5) f_o :: gO g_o R_o C_o b_o :: mw κ a r f q (tb a) w) (fun o w' => ∃ (x : Int32) (a' : Nat → Nat) (r' : Nat → Nat) (f' : Nat → Nat → Int64) (q' : Nat → Int32), o = some (.int x) ∧ (a' 0 = a 0) ∧ (mok r' f') ∧ (q' 2 = q 2) ∧ w' = mw κ a' r' f' q' (tb a') w) := by
  refine CM_begin (plainFor_of_name (by decide)) (Nat.le_of_ble_eq_true rfl) ?_
  intro p e s m args below meth c A Q hX hnm hA3 hQ hB ls hl
  have hx := hX.1.1
  have hb := hX.1.2.1
  have hl : lv_has ls 3 [(0, .ref (a 0)), (1, .int y), (2, .ref g_o)] := hl
  obtain ⟨ho1, ho2, ho3, ho4⟩ := ho
  refine lv_aload_n hx hb dX10_become_0 rfl (lv_at hl 2 rfl) ?_
  refine call_V (n := 0) (k0 := 1) (As := []) (rest := []) hX hB (k_X7_isLet κ l (lA κ b_o (R_o * 5) f_o :: gO g_o R_o C_o b_o :: mw κ a r f q (tb a) w) 1 0 g_o b_o R_o C_o f_o rfl rfl ⟨by omega, by omega, by omega, by omega⟩) ⟨rfl, by decide, by decide, by decide +kernel⟩ wm_6_79 wm_6_80 wm_6_81 wm_1_7 wm_6_82 ⟨Nat.le_of_ble_eq_true rfl, Nat.le_of_ble_eq_true rfl⟩ ⟨Nat.le_of_ble_eq_true rfl, Nat.le_of_ble_eq_true rfl⟩ rfl rfl rfl rfl hl.1 rfl (Nat.le_of_ble_eq_true rfl) dX10_become_1 (fun o w' H locs hp hB => ?_)
  obtain ⟨x1, rfl, hf2, hf3, hw9⟩ := hp
  replace hB : Bd κ A s (lA κ b_o (R_o * 5) f_o :: gO g_o R_o C_o b_o :: mw κ a r f q (tb a) w) H locs := by rw [hw9] at hB; exact hB
  rcases hf2 with rfl | rfl
  · refine W.eq (g2 := F0 m 4 ls [.int 0]) rfl ?_
    refine lv_if_ne (tgt := 12) hx hb dX10_become_4 (by decide) (fun c4 => False.elim (by revert c4; decide)) (fun _ => ?_)
    refine lv_aload_n hx hb dX10_become_7 rfl (lv_at hl 0 rfl) ?_
    refine call_V (n := 0) (k0 := 2) (As := []) (rest := []) hX hB (k_X10_no κ l (lA κ b_o (R_o * 5) f_o :: gO g_o R_o C_o b_o :: mw κ a r f q (tb a) w) 2 (a 0) (a 1) (q 0) (q 1) (q 2) (q 3) (mw0x (a := a) (r := r) (f := f) (q := q) (T := tb a) (w := w) rfl)) ⟨rfl, by decide, by decide, by decide +kernel⟩ wm_6_85 wm_6_87 wp_36 wm_1_6 wm_6_88 ⟨Nat.le_of_ble_eq_true rfl, Nat.le_of_ble_eq_true rfl⟩ ⟨Nat.le_of_ble_eq_true rfl, Nat.le_of_ble_eq_true rfl⟩ (mw0x (a := a) (r := r) (f := f) (q := q) (T := tb a) (w := w) rfl) rfl rfl rfl hl.1 rfl (Nat.le_of_ble_eq_true rfl) dX10_become_8 (fun o w' H locs hp hB => ?_)
    obtain ⟨rfl, hw9⟩ := hp
    replace hB : Bd κ A s (lA κ b_o (R_o * 5) f_o :: gO g_o R_o C_o b_o :: mw κ a r f (va_up q 1 ((q 1) + 1)) (tb a) w) H locs := by exact Bd_eq (congrArg (List.cons _) (congrArg (List.cons _) (mwQ1x rfl _))) (by rw [hw9] at hB; exact hB)
    refine W.eq (g2 := F0 m 11 ls [.int (-9)]) rfl ?_
    replace hB : Bd κ A s (lA κ b_o (R_o * 5) f_o :: mw κ a r f (va_up q 1 ((q 1) + 1)) (tb a) w) H locs := Bd_del 1 hB
    replace hB : Bd κ A s (mw κ a r f (va_up q 1 ((q 1) + 1)) (tb a) w) H locs := Bd_del 0 hB
    rw [← hQ]
    exact end_i hX hB hA3 rfl rfl ⟨(-9), a, r, f, (va_up q 1 ((q 1) + 1)), rfl, rfl, hm, rfl, rfl⟩ (Nat.le_of_ble_eq_true rfl) (Nat.le_of_ble_eq_true rfl) dX10_become_11
  · refine W.eq (g2 := F0 m 4 ls [.int 1]) rfl ?_
    refine lv_if_ne (tgt := 12) hx hb dX10_become_4 (by decide) (fun _ => ?_) (fun c5 => False.elim (by revert c5; decide))
    refine lv_aload_n hx hb dX10_become_12 rfl (lv_at hl 0 rfl) ?_
    refine gf (k0 := 2) hX hB (mw0x (a := a) (r := r) (f := f) (q := q) (T := tb a) (w := w) rfl) rfl in10 0 (by decide) wm_5_162 rfl rfl dX10_become_13 ?_
    refine lv_iload_n hx hb dX10_become_16 rfl (lv_at hl 1 rfl) ?_
    refine lv_aload_n hx hb dX10_become_17 rfl (lv_at hl 2 rfl) ?_
    refine astM (f := tb a) (k0 := 3) (k1 := 1) hX hB (mw1 (a := a) (r := r) (f := f) (q := q) (T := tb a) (w := w)) rfl (vp_in_mk (by assumption) (by assumption)) (w1 := lA κ b_o (R_o * 5) f_o :: gO g_o R_o C_o b_o :: mw κ a r f q (va_up (tb a) y.toNatClampNeg (some g_o)) w) (congrArg (List.cons _) (congrArg (List.cons _) (mwST _))) dX10_become_18 (fun H locs hB => ?_)
    obtain ⟨a6, ha7, hg8, hB⟩ := Bd_repl2 (t := y.toNatClampNeg) (by omega) hB
    have hba6 := mok_r hm y.toNatClampNeg (by omega)
    refine lv_aload_n hx hb dX10_become_19 rfl (lv_at hl 0 rfl) ?_
    refine lv_aload_n hx hb dX10_become_20 rfl (lv_at hl 2 rfl) ?_
    refine call_V (n := 0) (k0 := (2 + 2 * y.toNatClampNeg)) (As := []) (rest := [.ref (a 0)]) hX hB (k_X7_others κ l (mw κ a6 (va_up (va_up r (2 * y.toNatClampNeg) R_o) (2 * y.toNatClampNeg + 1) C_o) (va_up f y.toNatClampNeg f_o) q (tb a6) w) (2 + 2 * y.toNatClampNeg) (3 + 2 * y.toNatClampNeg) g_o (a6 (3 + 2 * y.toNatClampNeg)) ((va_up (va_up r (2 * y.toNatClampNeg) R_o) (2 * y.toNatClampNeg + 1) C_o) (2 * y.toNatClampNeg)) ((va_up (va_up r (2 * y.toNatClampNeg) R_o) (2 * y.toNatClampNeg + 1) C_o) (2 * y.toNatClampNeg + 1)) ((va_up f y.toNatClampNeg f_o) y.toNatClampNeg) (mwGx (i := y.toNatClampNeg) (a := a6) (r := (va_up (va_up r (2 * y.toNatClampNeg) R_o) (2 * y.toNatClampNeg + 1) C_o)) (f := (va_up f y.toNatClampNeg f_o)) (q := q) (T := tb a6) (w := w) (by omega) hg8) (mwA (i := y.toNatClampNeg) (a := a6) (r := (va_up (va_up r (2 * y.toNatClampNeg) R_o) (2 * y.toNatClampNeg + 1) C_o)) (f := (va_up f y.toNatClampNeg f_o)) (q := q) (T := tb a6) (w := w) (by omega)) (mok_shp (i := y.toNatClampNeg) (mok_repl (t := y.toNatClampNeg) (R := R_o) (C := C_o) (F := f_o) hm ⟨by omega, by omega, by omega, by omega⟩ (hf3 rfl)) (by omega))) ⟨rfl, by decide, by decide, by decide +kernel⟩ wm_5_200 wm_5_201 wm_5_202 wm_1_7 wm_5_203 ⟨Nat.le_of_ble_eq_true rfl, Nat.le_of_ble_eq_true rfl⟩ ⟨Nat.le_of_ble_eq_true rfl, Nat.le_of_ble_eq_true rfl⟩ (mwGx (i := y.toNatClampNeg) (a := a6) (r := (va_up (va_up r (2 * y.toNatClampNeg) R_o) (2 * y.toNatClampNeg + 1) C_o)) (f := (va_up f y.toNatClampNeg f_o)) (q := q) (T := tb a6) (w := w) (by omega) hg8) rfl rfl rfl hl.1 rfl (Nat.le_of_ble_eq_true rfl) dX10_become_21 (fun o w' H locs hp hB => ?_)
    obtain ⟨x9, rfl, hw9⟩ := hp
    replace hB : Bd κ A s (mw κ a6 (va_up (va_up r (2 * y.toNatClampNeg) R_o) (2 * y.toNatClampNeg + 1) C_o) (va_up f y.toNatClampNeg f_o) q (tb a6) w) H locs := by rw [hw9] at hB; exact hB
    refine W.eq (g2 := F0 m 24 ls [.int x9, .ref (a 0)]) rfl ?_
    refine call_V (n := 1) (k0 := 0) (As := [.int x9]) (rest := []) hX hB (k_X10_told κ l (mw κ a6 (va_up (va_up r (2 * y.toNatClampNeg) R_o) (2 * y.toNatClampNeg + 1) C_o) (va_up f y.toNatClampNeg f_o) q (tb a6) w) 0 (a 0) (a6 1) (q 0) (q 1) (q 2) (q 3) x9 (mw0x (a := a6) (r := (va_up (va_up r (2 * y.toNatClampNeg) R_o) (2 * y.toNatClampNeg + 1) C_o)) (f := (va_up f y.toNatClampNeg f_o)) (q := q) (T := tb a6) (w := w) (ha7.trans rfl))) ⟨rfl, by decide, by decide, by decide +kernel⟩ wm_5_204 wm_5_206 wp_30 wm_1_6 wm_5_207 ⟨Nat.le_of_ble_eq_true rfl, Nat.le_of_ble_eq_true rfl⟩ ⟨Nat.le_of_ble_eq_true rfl, Nat.le_of_ble_eq_true rfl⟩ (mw0x (a := a6) (r := (va_up (va_up r (2 * y.toNatClampNeg) R_o) (2 * y.toNatClampNeg + 1) C_o)) (f := (va_up f y.toNatClampNeg f_o)) (q := q) (T := tb a6) (w := w) (ha7.trans rfl)) rfl rfl rfl hl.1 rfl (Nat.le_of_ble_eq_true rfl) dX10_become_24 (fun o w' H locs hp hB => ?_)
    obtain ⟨rfl, hw9⟩ := hp
    replace hB : Bd κ A s (mw κ a6 (va_up (va_up r (2 * y.toNatClampNeg) R_o) (2 * y.toNatClampNeg + 1) C_o) (va_up f y.toNatClampNeg f_o) (va_up q 0 ((q 0) + 1)) (tb a6) w) H locs := by exact Bd_eq (mwQ0x (ha7.trans rfl) _) (by rw [hw9] at hB; exact hB)
    refine W.eq (g2 := F0 m 27 ls [.int x9]) rfl ?_
    rw [← hQ]
    exact end_i hX hB hA3 rfl rfl ⟨x9, a6, (va_up (va_up r (2 * y.toNatClampNeg) R_o) (2 * y.toNatClampNeg + 1) C_o), (va_up f y.toNatClampNeg f_o), (va_up q 0 ((q 0) + 1)), rfl, (ha7.trans rfl), (mok_repl (t := y.toNatClampNeg) (R := R_o) (C := C_o) (F := f_o) hm ⟨by omega, by omega, by omega, by omega⟩ (hf3 rfl)), rfl, rfl⟩ (Nat.le_of_ble_eq_true rfl) (Nat.le_of_ble_eq_true rfl) dX10_become_27
set_option maxHeartbeats 4000000 in
set_option maxRecDepth 100000 in
theorem k_X10_lay (κ : Kt) (l : Launch) (w : va_W) (a r : Nat → Nat) (f : Nat → Nat → Int64) (q : Nat → Int32) (y : Int32) (g_o b_o R_o C_o : Nat) (f_o : Nat → Int64) (hm : mok r f) (ho : 1 ≤ R_o ∧ R_o ≤ 4 ∧ 1 ≤ C_o ∧ C_o ≤ 4) (hy0 : 0 ≤ y) (hy4 : y.toNatClampNeg < 4) (hso : ∀ k, k < R_o * 5 → sm (f_o k)) : CM κ l yX10_lay cX10_lay 4 (some .int) 1 26 0 0 [.ref (a 0), .int y, .ref g_o] (lA κ b_o (R_o * 5) f_o :: gO g_o R_o C_o b_o :: mw κ a r f q (tb a) w) (fun o w' => ∃ (x : Int32) (a' : Nat → Nat) (r' : Nat → Nat) (f' : Nat → Nat → Int64) (q' : Nat → Int32), o = some (.int x) ∧ (a' 0 = a 0) ∧ (mok r' f') ∧ (q' 2 = q 2) ∧ w' = mw κ a' r' f' q' (tb a') w) := by
  refine CM_begin (plainFor_of_name (by decide)) (Nat.le_of_ble_eq_true rfl) ?_
  intro p e s m args below meth c A Q hX hnm hA3 hQ hB ls hl
  have hx := hX.1.1
  have hb := hX.1.2.1
  have hl : lv_has ls 4 [(0, .ref (a 0)), (1, .int y), (2, .ref g_o)] := hl
  obtain ⟨ho1, ho2, ho3, ho4⟩ := ho
  refine lv_aload_n hx hb dX10_lay_0 rfl (lv_at hl 0 rfl) ?_
  refine gf (k0 := 2) hX hB (mw0x (a := a) (r := r) (f := f) (q := q) (T := tb a) (w := w) rfl) rfl in10 0 (by decide) wm_5_162 rfl rfl dX10_lay_1 ?_
  refine lv_iload_n hx hb dX10_lay_4 rfl (lv_at hl 1 rfl) ?_
  refine aaldM (k0 := 3) hX hB (mw1 (a := a) (r := r) (f := f) (q := q) (T := tb a) (w := w)) (vp_in_mk (by assumption) (by assumption)) rfl dX10_lay_5 ?_
  have hb1 := mok_r hm y.toNatClampNeg (by omega)
  refine call_V (n := 0) (k0 := (2 + 2 * y.toNatClampNeg + 2)) (As := []) (rest := []) hX hB (k_X7_others κ l (lA κ b_o (R_o * 5) f_o :: gO g_o R_o C_o b_o :: mw κ a r f q (tb a) w) (2 + 2 * y.toNatClampNeg + 2) (3 + 2 * y.toNatClampNeg + 2) (a (2 + 2 * y.toNatClampNeg)) (a (3 + 2 * y.toNatClampNeg)) (r (2 * y.toNatClampNeg)) (r (2 * y.toNatClampNeg + 1)) (f y.toNatClampNeg) (mwG (i := y.toNatClampNeg) (a := a) (r := r) (f := f) (q := q) (T := tb a) (w := w) (by omega)) (mwA (i := y.toNatClampNeg) (a := a) (r := r) (f := f) (q := q) (T := tb a) (w := w) (by omega)) (mok_shp (i := y.toNatClampNeg) hm (by omega))) ⟨rfl, by decide, by decide, by decide +kernel⟩ wm_5_200 wm_5_201 wm_5_202 wm_1_7 wm_5_203 ⟨Nat.le_of_ble_eq_true rfl, Nat.le_of_ble_eq_true rfl⟩ ⟨Nat.le_of_ble_eq_true rfl, Nat.le_of_ble_eq_true rfl⟩ (mwG (i := y.toNatClampNeg) (a := a) (r := r) (f := f) (q := q) (T := tb a) (w := w) (by omega)) rfl rfl rfl hl.1 rfl (Nat.le_of_ble_eq_true rfl) dX10_lay_6 (fun o w' H locs hp hB => ?_)
  obtain ⟨x2, rfl, hw9⟩ := hp
  replace hB : Bd κ A s (lA κ b_o (R_o * 5) f_o :: gO g_o R_o C_o b_o :: mw κ a r f q (tb a) w) H locs := by rw [hw9] at hB; exact hB
  refine W.eq (g2 := F0 m 9 ls [.int x2]) rfl ?_
  refine lv_istore_n (lv' := [(3, .int x2), (0, .ref (a 0)), (1, .int y), (2, .ref g_o)]) hx hb dX10_lay_9 rfl hl (by decide) rfl (fun ls hl => ?_)
  refine lv_aload_n hx hb dX10_lay_10 rfl (lv_at hl 1 rfl) ?_
  refine gf (k0 := 2) hX hB (mw0x (a := a) (r := r) (f := f) (q := q) (T := tb a) (w := w) rfl) rfl in10 0 (by decide) wm_5_162 rfl rfl dX10_lay_11 ?_
  refine lv_iload_n hx hb dX10_lay_14 rfl (lv_at hl 2 rfl) ?_
  refine lv_aload_n hx hb dX10_lay_15 rfl (lv_at hl 3 rfl) ?_
  refine astM (f := tb a) (k0 := 3) (k1 := 1) hX hB (mw1 (a := a) (r := r) (f := f) (q := q) (T := tb a) (w := w)) rfl (vp_in_mk (by assumption) (by assumption)) (w1 := lA κ b_o (R_o * 5) f_o :: gO g_o R_o C_o b_o :: mw κ a r f q (va_up (tb a) y.toNatClampNeg (some g_o)) w) (congrArg (List.cons _) (congrArg (List.cons _) (mwST _))) dX10_lay_16 (fun H locs hB => ?_)
  obtain ⟨a3, ha4, hg5, hB⟩ := Bd_repl2 (t := y.toNatClampNeg) (by omega) hB
  have hba3 := mok_r hm y.toNatClampNeg (by omega)
  refine lv_aload_n hx hb dX10_lay_17 rfl (lv_at hl 1 rfl) ?_
  refine lv_iload_n hx hb dX10_lay_18 rfl (lv_at hl 0 rfl) ?_
  refine call_V (n := 1) (k0 := 0) (As := [.int x2]) (rest := []) hX hB (k_X10_told κ l (mw κ a3 (va_up (va_up r (2 * y.toNatClampNeg) R_o) (2 * y.toNatClampNeg + 1) C_o) (va_up f y.toNatClampNeg f_o) q (tb a3) w) 0 (a 0) (a3 1) (q 0) (q 1) (q 2) (q 3) x2 (mw0x (a := a3) (r := (va_up (va_up r (2 * y.toNatClampNeg) R_o) (2 * y.toNatClampNeg + 1) C_o)) (f := (va_up f y.toNatClampNeg f_o)) (q := q) (T := tb a3) (w := w) (ha4.trans rfl))) ⟨rfl, by decide, by decide, by decide +kernel⟩ wm_5_204 wm_5_206 wp_30 wm_1_6 wm_5_207 ⟨Nat.le_of_ble_eq_true rfl, Nat.le_of_ble_eq_true rfl⟩ ⟨Nat.le_of_ble_eq_true rfl, Nat.le_of_ble_eq_true rfl⟩ (mw0x (a := a3) (r := (va_up (va_up r (2 * y.toNatClampNeg) R_o) (2 * y.toNatClampNeg + 1) C_o)) (f := (va_up f y.toNatClampNeg f_o)) (q := q) (T := tb a3) (w := w) (ha4.trans rfl)) rfl rfl rfl hl.1 rfl (Nat.le_of_ble_eq_true rfl) dX10_lay_19 (fun o w' H locs hp hB => ?_)
  obtain ⟨rfl, hw9⟩ := hp
  replace hB : Bd κ A s (mw κ a3 (va_up (va_up r (2 * y.toNatClampNeg) R_o) (2 * y.toNatClampNeg + 1) C_o) (va_up f y.toNatClampNeg f_o) (va_up q 0 ((q 0) + 1)) (tb a3) w) H locs := by exact Bd_eq (mwQ0x (ha4.trans rfl) _) (by rw [hw9] at hB; exact hB)
  refine W.eq (g2 := F0 m 22 ls [.int x2]) rfl ?_
  rw [← hQ]
  exact end_i hX hB hA3 rfl rfl ⟨x2, a3, (va_up (va_up r (2 * y.toNatClampNeg) R_o) (2 * y.toNatClampNeg + 1) C_o), (va_up f y.toNatClampNeg f_o), (va_up q 0 ((q 0) + 1)), rfl, (ha4.trans rfl), (mok_repl (t := y.toNatClampNeg) (R := R_o) (C := C_o) (F := f_o) hm ⟨by omega, by omega, by omega, by omega⟩ hso), rfl, rfl⟩ (Nat.le_of_ble_eq_true rfl) (Nat.le_of_ble_eq_true rfl) dX10_lay_22
set_option maxHeartbeats 4000000 in
set_option maxRecDepth 100000 in
theorem k_X10_changed (κ : Kt) (l : Launch) (w : va_W) (a r : Nat → Nat) (f : Nat → Nat → Int64) (q : Nat → Int32) (y : Int32) (g_o b_o R_o C_o : Nat) (f_o : Nat → Int64) (hm : mok r f) (ho : 1 ≤ R_o ∧ R_o ≤ 4 ∧ 1 ≤ C_o ∧ C_o ≤ 4) (hy0 : 0 ≤ y) (hy4 : y.toNatClampNeg < 4) (hrr : R_o = r (2 * y.toNatClampNeg)) (hso : ∀ k, k < R_o * 5 → sm (f_o k)) : CM κ l yX10_changed cX10_changed 4 (some .int) 1 23 0 0 [.ref (a 0), .int y, .ref g_o] (lA κ b_o (R_o * 5) f_o :: gO g_o R_o C_o b_o :: mw κ a r f q (tb a) w) (fun o w' => ∃ (x : Int32) (a' : Nat → Nat) (r' : Nat → Nat) (f' : Nat → Nat → Int64) (q' : Nat → Int32), o = some (.int x) ∧ (a' 0 = a 0) ∧ (mok r' f') ∧ (q' 2 = q 2) ∧ w' = mw κ a' r' f' q' (tb a') w) := by
  refine CM_begin (plainFor_of_name (by decide)) (Nat.le_of_ble_eq_true rfl) ?_
  intro p e s m args below meth c A Q hX hnm hA3 hQ hB ls hl
  have hx := hX.1.1
  have hb := hX.1.2.1
  have hl : lv_has ls 4 [(0, .ref (a 0)), (1, .int y), (2, .ref g_o)] := hl
  obtain ⟨ho1, ho2, ho3, ho4⟩ := ho
  refine lv_aload_n hx hb dX10_changed_0 rfl (lv_at hl 2 rfl) ?_
  refine lv_aload_n hx hb dX10_changed_1 rfl (lv_at hl 0 rfl) ?_
  refine gf (k0 := 2) hX hB (mw0x (a := a) (r := r) (f := f) (q := q) (T := tb a) (w := w) rfl) rfl in10 0 (by decide) wm_5_162 rfl rfl dX10_changed_2 ?_
  refine lv_iload_n hx hb dX10_changed_5 rfl (lv_at hl 1 rfl) ?_
  refine aaldM (k0 := 3) hX hB (mw1 (a := a) (r := r) (f := f) (q := q) (T := tb a) (w := w)) (vp_in_mk (by assumption) (by assumption)) rfl dX10_changed_6 ?_
  have hb1 := mok_r hm y.toNatClampNeg (by omega)
  refine call_V (n := 1) (k0 := 1) (As := [.ref (a (2 + 2 * y.toNatClampNeg))]) (rest := []) hX hB (k_X7_unlike κ l (lA κ b_o (R_o * 5) f_o :: gO g_o R_o C_o b_o :: mw κ a r f q (tb a) w) 1 0 g_o b_o R_o C_o f_o (2 + 2 * y.toNatClampNeg + 2) (3 + 2 * y.toNatClampNeg + 2) (a (2 + 2 * y.toNatClampNeg)) (a (3 + 2 * y.toNatClampNeg)) (r (2 * y.toNatClampNeg)) (r (2 * y.toNatClampNeg + 1)) (f y.toNatClampNeg) rfl rfl ⟨by omega, by omega, by omega, by omega⟩ (mwG (i := y.toNatClampNeg) (a := a) (r := r) (f := f) (q := q) (T := tb a) (w := w) (by omega)) (mwA (i := y.toNatClampNeg) (a := a) (r := r) (f := f) (q := q) (T := tb a) (w := w) (by omega)) (mok_shp (i := y.toNatClampNeg) hm (by omega)) (by omega)) ⟨rfl, by decide, by decide, by decide +kernel⟩ wm_6_55 wm_6_56 wm_6_57 wm_1_7 wm_6_58 ⟨Nat.le_of_ble_eq_true rfl, Nat.le_of_ble_eq_true rfl⟩ ⟨Nat.le_of_ble_eq_true rfl, Nat.le_of_ble_eq_true rfl⟩ rfl rfl rfl rfl hl.1 rfl (Nat.le_of_ble_eq_true rfl) dX10_changed_7 (fun o w' H locs hp hB => ?_)
  obtain ⟨x2, rfl, hw9⟩ := hp
  replace hB : Bd κ A s (lA κ b_o (R_o * 5) f_o :: gO g_o R_o C_o b_o :: mw κ a r f q (tb a) w) H locs := by rw [hw9] at hB; exact hB
  refine W.eq (g2 := F0 m 10 ls [.int x2]) rfl ?_
  refine lv_istore_n (lv' := [(3, .int x2), (0, .ref (a 0)), (1, .int y), (2, .ref g_o)]) hx hb dX10_changed_10 rfl hl (by decide) rfl (fun ls hl => ?_)
  refine lv_aload_n hx hb dX10_changed_11 rfl (lv_at hl 1 rfl) ?_
  refine gf (k0 := 2) hX hB (mw0x (a := a) (r := r) (f := f) (q := q) (T := tb a) (w := w) rfl) rfl in10 0 (by decide) wm_5_162 rfl rfl dX10_changed_12 ?_
  refine lv_iload_n hx hb dX10_changed_15 rfl (lv_at hl 2 rfl) ?_
  refine lv_aload_n hx hb dX10_changed_16 rfl (lv_at hl 3 rfl) ?_
  refine astM (f := tb a) (k0 := 3) (k1 := 1) hX hB (mw1 (a := a) (r := r) (f := f) (q := q) (T := tb a) (w := w)) rfl (vp_in_mk (by assumption) (by assumption)) (w1 := lA κ b_o (R_o * 5) f_o :: gO g_o R_o C_o b_o :: mw κ a r f q (va_up (tb a) y.toNatClampNeg (some g_o)) w) (congrArg (List.cons _) (congrArg (List.cons _) (mwST _))) dX10_changed_17 (fun H locs hB => ?_)
  obtain ⟨a3, ha4, hg5, hB⟩ := Bd_repl2 (t := y.toNatClampNeg) (by omega) hB
  have hba3 := mok_r hm y.toNatClampNeg (by omega)
  refine lv_aload_n hx hb dX10_changed_18 rfl (lv_at hl 1 rfl) ?_
  refine lv_iload_n hx hb dX10_changed_19 rfl (lv_at hl 0 rfl) ?_
  refine call_V (n := 1) (k0 := 0) (As := [.int x2]) (rest := []) hX hB (k_X10_told κ l (mw κ a3 (va_up (va_up r (2 * y.toNatClampNeg) R_o) (2 * y.toNatClampNeg + 1) C_o) (va_up f y.toNatClampNeg f_o) q (tb a3) w) 0 (a 0) (a3 1) (q 0) (q 1) (q 2) (q 3) x2 (mw0x (a := a3) (r := (va_up (va_up r (2 * y.toNatClampNeg) R_o) (2 * y.toNatClampNeg + 1) C_o)) (f := (va_up f y.toNatClampNeg f_o)) (q := q) (T := tb a3) (w := w) (ha4.trans rfl))) ⟨rfl, by decide, by decide, by decide +kernel⟩ wm_5_204 wm_5_206 wp_30 wm_1_6 wm_5_207 ⟨Nat.le_of_ble_eq_true rfl, Nat.le_of_ble_eq_true rfl⟩ ⟨Nat.le_of_ble_eq_true rfl, Nat.le_of_ble_eq_true rfl⟩ (mw0x (a := a3) (r := (va_up (va_up r (2 * y.toNatClampNeg) R_o) (2 * y.toNatClampNeg + 1) C_o)) (f := (va_up f y.toNatClampNeg f_o)) (q := q) (T := tb a3) (w := w) (ha4.trans rfl)) rfl rfl rfl hl.1 rfl (Nat.le_of_ble_eq_true rfl) dX10_changed_20 (fun o w' H locs hp hB => ?_)
  obtain ⟨rfl, hw9⟩ := hp
  replace hB : Bd κ A s (mw κ a3 (va_up (va_up r (2 * y.toNatClampNeg) R_o) (2 * y.toNatClampNeg + 1) C_o) (va_up f y.toNatClampNeg f_o) (va_up q 0 ((q 0) + 1)) (tb a3) w) H locs := by exact Bd_eq (mwQ0x (ha4.trans rfl) _) (by rw [hw9] at hB; exact hB)
  refine W.eq (g2 := F0 m 23 ls [.int x2]) rfl ?_
  rw [← hQ]
  exact end_i hX hB hA3 rfl rfl ⟨x2, a3, (va_up (va_up r (2 * y.toNatClampNeg) R_o) (2 * y.toNatClampNeg + 1) C_o), (va_up f y.toNatClampNeg f_o), (va_up q 0 ((q 0) + 1)), rfl, (ha4.trans rfl), (mok_repl (t := y.toNatClampNeg) (R := R_o) (C := C_o) (F := f_o) hm ⟨by omega, by omega, by omega, by omega⟩ hso), rfl, rfl⟩ (Nat.le_of_ble_eq_true rfl) (Nat.le_of_ble_eq_true rfl) dX10_changed_23
set_option maxHeartbeats 4000000 in
set_option maxRecDepth 100000 in
theorem k_X10_make (κ : Kt) (l : Launch) (w : va_W) (a r : Nat → Nat) (f : Nat → Nat → Int64) (q : Nat → Int32) (y : Int32) (z : Int32) (u : Int32) (hm : mok r f) : CM κ l yX10_make cX10_make 4 (some .int) 2 49 2 23 [.ref (a 0), .int y, .int z, .int u] (mw κ a r f q (tb a) w) (fun o w' => ∃ (x : Int32) (a' : Nat → Nat) (r' : Nat → Nat) (f' : Nat → Nat → Int64) (q' : Nat → Int32), o = some (.int x) ∧ (a' 0 = a 0) ∧ (mok r' f') ∧ (q' 2 = q 2) ∧ w' = mw κ a' r' f' q' (tb a') w) := by
  refine CM_begin (plainFor_of_name (by decide)) (Nat.le_of_ble_eq_true rfl) ?_
  intro p e s m args below meth c A Q hX hnm hA3 hQ hB ls hl
  have hx := hX.1.1
  have hb := hX.1.2.1
  have hl : lv_has ls 4 [(0, .ref (a 0)), (1, .int y), (2, .int z), (3, .int u)] := hl
  refine lv_aload_n hx hb dX10_make_0 rfl (lv_at hl 0 rfl) ?_
  refine lv_iload_n hx hb dX10_make_1 rfl (lv_at hl 1 rfl) ?_
  refine call_S (n := 1) (As := [.int y]) (rest := [.ref (a 0)]) hX hB (k_X10_isTable κ l (mw κ a r f q (tb a) w) y) ⟨by decide, by decide, by decide +kernel⟩ wm_5_182 wm_5_183 wm_1_6 wm_5_184 ⟨Nat.le_of_ble_eq_true rfl, Nat.le_of_ble_eq_true rfl⟩ ⟨Nat.le_of_ble_eq_true rfl, Nat.le_of_ble_eq_true rfl⟩ rfl hl.1 rfl (Nat.le_of_ble_eq_true rfl) dX10_make_2 (fun o w' H locs hp hB => ?_)
  obtain ⟨z1, rfl, hf2, hw9⟩ := hp
  replace hB : Bd κ A s (mw κ a r f q (tb a) w) H locs := by rw [hw9] at hB; exact hB
  rcases hf2 with rfl | ⟨rfl, hz3a, hz3b⟩
  · refine W.eq (g2 := F0 m 5 ls [.int 0, .ref (a 0)]) rfl ?_
    refine lv_if_ne (tgt := 12) hx hb dX10_make_5 (by decide) (fun c4 => False.elim (by revert c4; decide)) (fun _ => ?_)
    refine lv_iconst (v := 1) hx hb dX10_make_8 (by decide) ?_
    refine lv_goto (tgt := 13) hx hb dX10_make_9 (by decide) ?_
    refine lv_iload_n hx hb dX10_make_13 rfl (lv_at hl 2 rfl) ?_
    refine call_S (n := 1) (As := [.int z]) (rest := [.int 1, .ref (a 0)]) hX hB (k_X10_isShort κ l (mw κ a r f q (tb a) w) z) ⟨by decide, by decide, by decide +kernel⟩ wm_5_185 wm_5_186 wm_1_6 wm_5_187 ⟨Nat.le_of_ble_eq_true rfl, Nat.le_of_ble_eq_true rfl⟩ ⟨Nat.le_of_ble_eq_true rfl, Nat.le_of_ble_eq_true rfl⟩ rfl hl.1 rfl (Nat.le_of_ble_eq_true rfl) dX10_make_14 (fun o w' H locs hp hB => ?_)
    obtain ⟨z5, rfl, hf6, hw9⟩ := hp
    replace hB : Bd κ A s (mw κ a r f q (tb a) w) H locs := by rw [hw9] at hB; exact hB
    rcases hf6 with rfl | ⟨rfl, hz7a, hz7b, hz7c⟩
    · refine W.eq (g2 := F0 m 17 ls [.int 0, .int 1, .ref (a 0)]) rfl ?_
      refine lv_if_eq (tgt := 27) hx hb dX10_make_17 (by decide) (fun _ => ?_) (fun c8 => False.elim (by revert c8; decide))
      refine lv_iconst (v := 1) hx hb dX10_make_27 (by decide) ?_
      refine lv_goto (tgt := 32) hx hb dX10_make_28 (by decide) ?_
      refine call_V (n := 2) (k0 := 0) (As := [.int 1, .int 1]) (rest := []) hX hB (k_X10_isThrown_ κ l (mw κ a r f q (tb a) w) 0 (a 0) (a 1) (q 0) (q 1) (q 2) (q 3) 1 1 (mw0x (a := a) (r := r) (f := f) (q := q) (T := tb a) (w := w) rfl)) ⟨rfl, by decide, by decide, by decide +kernel⟩ wm_5_188 wm_5_190 wp_27 wm_1_6 wm_5_191 ⟨Nat.le_of_ble_eq_true rfl, Nat.le_of_ble_eq_true rfl⟩ ⟨Nat.le_of_ble_eq_true rfl, Nat.le_of_ble_eq_true rfl⟩ (mw0x (a := a) (r := r) (f := f) (q := q) (T := tb a) (w := w) rfl) rfl rfl rfl hl.1 rfl (Nat.le_of_ble_eq_true rfl) dX10_make_32 (fun o w' H locs hp hB => ?_)
      obtain ⟨x9, t10, rfl, hf11, hw9⟩ := hp
      replace hB : Bd κ A s (mw κ a r f (va_up q 3 t10) (tb a) w) H locs := by exact Bd_eq (mwQ3x rfl _) (by rw [hw9] at hB; exact hB)
      obtain rfl : x9 = 1 := hf11.trans (by decide)
      refine W.eq (g2 := F0 m 35 ls [.int 1]) rfl ?_
      refine lv_if_eq (tgt := 42) hx hb dX10_make_35 (by decide) (fun c12 => False.elim (by revert c12; decide)) (fun _ => ?_)
      refine lv_iconst (v := 0) hx hb dX10_make_38 (by decide) ?_
      refine lv_goto (tgt := 56) hx hb dX10_make_39 (by decide) ?_
      rw [← hQ]
      exact end_i hX hB hA3 rfl rfl ⟨0, a, r, f, (va_up q 3 t10), rfl, rfl, hm, rfl, rfl⟩ (Nat.le_of_ble_eq_true rfl) (Nat.le_of_ble_eq_true rfl) dX10_make_56
    · refine W.eq (g2 := F0 m 17 ls [.int 1, .int 1, .ref (a 0)]) rfl ?_
      refine lv_if_eq (tgt := 27) hx hb dX10_make_17 (by decide) (fun c13 => False.elim (by revert c13; decide)) (fun _ => ?_)
      refine lv_iload_n hx hb dX10_make_20 rfl (lv_at hl 3 rfl) ?_
      refine call_S (n := 1) (As := [.int u]) (rest := [.int 1, .ref (a 0)]) hX hB (k_X10_isShort κ l (mw κ a r f q (tb a) w) u) ⟨by decide, by decide, by decide +kernel⟩ wm_5_185 wm_5_186 wm_1_6 wm_5_187 ⟨Nat.le_of_ble_eq_true rfl, Nat.le_of_ble_eq_true rfl⟩ ⟨Nat.le_of_ble_eq_true rfl, Nat.le_of_ble_eq_true rfl⟩ rfl hl.1 rfl (Nat.le_of_ble_eq_true rfl) dX10_make_21 (fun o w' H locs hp hB => ?_)
      obtain ⟨z14, rfl, hf15, hw9⟩ := hp
      replace hB : Bd κ A s (mw κ a r f q (tb a) w) H locs := by rw [hw9] at hB; exact hB
      rcases hf15 with rfl | ⟨rfl, hz16a, hz16b, hz16c⟩
      · refine W.eq (g2 := F0 m 24 ls [.int 0, .int 1, .ref (a 0)]) rfl ?_
        refine lv_if_ne (tgt := 31) hx hb dX10_make_24 (by decide) (fun c17 => False.elim (by revert c17; decide)) (fun _ => ?_)
        refine lv_iconst (v := 1) hx hb dX10_make_27 (by decide) ?_
        refine lv_goto (tgt := 32) hx hb dX10_make_28 (by decide) ?_
        refine call_V (n := 2) (k0 := 0) (As := [.int 1, .int 1]) (rest := []) hX hB (k_X10_isThrown_ κ l (mw κ a r f q (tb a) w) 0 (a 0) (a 1) (q 0) (q 1) (q 2) (q 3) 1 1 (mw0x (a := a) (r := r) (f := f) (q := q) (T := tb a) (w := w) rfl)) ⟨rfl, by decide, by decide, by decide +kernel⟩ wm_5_188 wm_5_190 wp_27 wm_1_6 wm_5_191 ⟨Nat.le_of_ble_eq_true rfl, Nat.le_of_ble_eq_true rfl⟩ ⟨Nat.le_of_ble_eq_true rfl, Nat.le_of_ble_eq_true rfl⟩ (mw0x (a := a) (r := r) (f := f) (q := q) (T := tb a) (w := w) rfl) rfl rfl rfl hl.1 rfl (Nat.le_of_ble_eq_true rfl) dX10_make_32 (fun o w' H locs hp hB => ?_)
        obtain ⟨x18, t19, rfl, hf20, hw9⟩ := hp
        replace hB : Bd κ A s (mw κ a r f (va_up q 3 t19) (tb a) w) H locs := by exact Bd_eq (mwQ3x rfl _) (by rw [hw9] at hB; exact hB)
        obtain rfl : x18 = 1 := hf20.trans (by decide)
        refine W.eq (g2 := F0 m 35 ls [.int 1]) rfl ?_
        refine lv_if_eq (tgt := 42) hx hb dX10_make_35 (by decide) (fun c21 => False.elim (by revert c21; decide)) (fun _ => ?_)
        refine lv_iconst (v := 0) hx hb dX10_make_38 (by decide) ?_
        refine lv_goto (tgt := 56) hx hb dX10_make_39 (by decide) ?_
        rw [← hQ]
        exact end_i hX hB hA3 rfl rfl ⟨0, a, r, f, (va_up q 3 t19), rfl, rfl, hm, rfl, rfl⟩ (Nat.le_of_ble_eq_true rfl) (Nat.le_of_ble_eq_true rfl) dX10_make_56
      · refine W.eq (g2 := F0 m 24 ls [.int 1, .int 1, .ref (a 0)]) rfl ?_
        refine lv_if_ne (tgt := 31) hx hb dX10_make_24 (by decide) (fun _ => ?_) (fun c22 => False.elim (by revert c22; decide))
        refine lv_iconst (v := 0) hx hb dX10_make_31 (by decide) ?_
        refine call_V (n := 2) (k0 := 0) (As := [.int 1, .int 0]) (rest := []) hX hB (k_X10_isThrown_ κ l (mw κ a r f q (tb a) w) 0 (a 0) (a 1) (q 0) (q 1) (q 2) (q 3) 1 0 (mw0x (a := a) (r := r) (f := f) (q := q) (T := tb a) (w := w) rfl)) ⟨rfl, by decide, by decide, by decide +kernel⟩ wm_5_188 wm_5_190 wp_27 wm_1_6 wm_5_191 ⟨Nat.le_of_ble_eq_true rfl, Nat.le_of_ble_eq_true rfl⟩ ⟨Nat.le_of_ble_eq_true rfl, Nat.le_of_ble_eq_true rfl⟩ (mw0x (a := a) (r := r) (f := f) (q := q) (T := tb a) (w := w) rfl) rfl rfl rfl hl.1 rfl (Nat.le_of_ble_eq_true rfl) dX10_make_32 (fun o w' H locs hp hB => ?_)
        obtain ⟨x23, t24, rfl, hf25, hw9⟩ := hp
        replace hB : Bd κ A s (mw κ a r f (va_up q 3 t24) (tb a) w) H locs := by exact Bd_eq (mwQ3x rfl _) (by rw [hw9] at hB; exact hB)
        obtain rfl : x23 = 1 := hf25.trans (by decide)
        refine W.eq (g2 := F0 m 35 ls [.int 1]) rfl ?_
        refine lv_if_eq (tgt := 42) hx hb dX10_make_35 (by decide) (fun c26 => False.elim (by revert c26; decide)) (fun _ => ?_)
        refine lv_iconst (v := 0) hx hb dX10_make_38 (by decide) ?_
        refine lv_goto (tgt := 56) hx hb dX10_make_39 (by decide) ?_
        rw [← hQ]
        exact end_i hX hB hA3 rfl rfl ⟨0, a, r, f, (va_up q 3 t24), rfl, rfl, hm, rfl, rfl⟩ (Nat.le_of_ble_eq_true rfl) (Nat.le_of_ble_eq_true rfl) dX10_make_56
  · refine W.eq (g2 := F0 m 5 ls [.int 1, .ref (a 0)]) rfl ?_
    refine lv_if_ne (tgt := 12) hx hb dX10_make_5 (by decide) (fun _ => ?_) (fun c27 => False.elim (by revert c27; decide))
    refine lv_iconst (v := 0) hx hb dX10_make_12 (by decide) ?_
    refine lv_iload_n hx hb dX10_make_13 rfl (lv_at hl 2 rfl) ?_
    refine call_S (n := 1) (As := [.int z]) (rest := [.int 0, .ref (a 0)]) hX hB (k_X10_isShort κ l (mw κ a r f q (tb a) w) z) ⟨by decide, by decide, by decide +kernel⟩ wm_5_185 wm_5_186 wm_1_6 wm_5_187 ⟨Nat.le_of_ble_eq_true rfl, Nat.le_of_ble_eq_true rfl⟩ ⟨Nat.le_of_ble_eq_true rfl, Nat.le_of_ble_eq_true rfl⟩ rfl hl.1 rfl (Nat.le_of_ble_eq_true rfl) dX10_make_14 (fun o w' H locs hp hB => ?_)
    obtain ⟨z28, rfl, hf29, hw9⟩ := hp
    replace hB : Bd κ A s (mw κ a r f q (tb a) w) H locs := by rw [hw9] at hB; exact hB
    rcases hf29 with rfl | ⟨rfl, hz30a, hz30b, hz30c⟩
    · refine W.eq (g2 := F0 m 17 ls [.int 0, .int 0, .ref (a 0)]) rfl ?_
      refine lv_if_eq (tgt := 27) hx hb dX10_make_17 (by decide) (fun _ => ?_) (fun c31 => False.elim (by revert c31; decide))
      refine lv_iconst (v := 1) hx hb dX10_make_27 (by decide) ?_
      refine lv_goto (tgt := 32) hx hb dX10_make_28 (by decide) ?_
      refine call_V (n := 2) (k0 := 0) (As := [.int 0, .int 1]) (rest := []) hX hB (k_X10_isThrown_ κ l (mw κ a r f q (tb a) w) 0 (a 0) (a 1) (q 0) (q 1) (q 2) (q 3) 0 1 (mw0x (a := a) (r := r) (f := f) (q := q) (T := tb a) (w := w) rfl)) ⟨rfl, by decide, by decide, by decide +kernel⟩ wm_5_188 wm_5_190 wp_27 wm_1_6 wm_5_191 ⟨Nat.le_of_ble_eq_true rfl, Nat.le_of_ble_eq_true rfl⟩ ⟨Nat.le_of_ble_eq_true rfl, Nat.le_of_ble_eq_true rfl⟩ (mw0x (a := a) (r := r) (f := f) (q := q) (T := tb a) (w := w) rfl) rfl rfl rfl hl.1 rfl (Nat.le_of_ble_eq_true rfl) dX10_make_32 (fun o w' H locs hp hB => ?_)
      obtain ⟨x32, t33, rfl, hf34, hw9⟩ := hp
      replace hB : Bd κ A s (mw κ a r f (va_up q 3 t33) (tb a) w) H locs := by exact Bd_eq (mwQ3x rfl _) (by rw [hw9] at hB; exact hB)
      obtain rfl : x32 = 1 := hf34.trans (by decide)
      refine W.eq (g2 := F0 m 35 ls [.int 1]) rfl ?_
      refine lv_if_eq (tgt := 42) hx hb dX10_make_35 (by decide) (fun c35 => False.elim (by revert c35; decide)) (fun _ => ?_)
      refine lv_iconst (v := 0) hx hb dX10_make_38 (by decide) ?_
      refine lv_goto (tgt := 56) hx hb dX10_make_39 (by decide) ?_
      rw [← hQ]
      exact end_i hX hB hA3 rfl rfl ⟨0, a, r, f, (va_up q 3 t33), rfl, rfl, hm, rfl, rfl⟩ (Nat.le_of_ble_eq_true rfl) (Nat.le_of_ble_eq_true rfl) dX10_make_56
    · refine W.eq (g2 := F0 m 17 ls [.int 1, .int 0, .ref (a 0)]) rfl ?_
      refine lv_if_eq (tgt := 27) hx hb dX10_make_17 (by decide) (fun c36 => False.elim (by revert c36; decide)) (fun _ => ?_)
      refine lv_iload_n hx hb dX10_make_20 rfl (lv_at hl 3 rfl) ?_
      refine call_S (n := 1) (As := [.int u]) (rest := [.int 0, .ref (a 0)]) hX hB (k_X10_isShort κ l (mw κ a r f q (tb a) w) u) ⟨by decide, by decide, by decide +kernel⟩ wm_5_185 wm_5_186 wm_1_6 wm_5_187 ⟨Nat.le_of_ble_eq_true rfl, Nat.le_of_ble_eq_true rfl⟩ ⟨Nat.le_of_ble_eq_true rfl, Nat.le_of_ble_eq_true rfl⟩ rfl hl.1 rfl (Nat.le_of_ble_eq_true rfl) dX10_make_21 (fun o w' H locs hp hB => ?_)
      obtain ⟨z37, rfl, hf38, hw9⟩ := hp
      replace hB : Bd κ A s (mw κ a r f q (tb a) w) H locs := by rw [hw9] at hB; exact hB
      rcases hf38 with rfl | ⟨rfl, hz39a, hz39b, hz39c⟩
      · refine W.eq (g2 := F0 m 24 ls [.int 0, .int 0, .ref (a 0)]) rfl ?_
        refine lv_if_ne (tgt := 31) hx hb dX10_make_24 (by decide) (fun c40 => False.elim (by revert c40; decide)) (fun _ => ?_)
        refine lv_iconst (v := 1) hx hb dX10_make_27 (by decide) ?_
        refine lv_goto (tgt := 32) hx hb dX10_make_28 (by decide) ?_
        refine call_V (n := 2) (k0 := 0) (As := [.int 0, .int 1]) (rest := []) hX hB (k_X10_isThrown_ κ l (mw κ a r f q (tb a) w) 0 (a 0) (a 1) (q 0) (q 1) (q 2) (q 3) 0 1 (mw0x (a := a) (r := r) (f := f) (q := q) (T := tb a) (w := w) rfl)) ⟨rfl, by decide, by decide, by decide +kernel⟩ wm_5_188 wm_5_190 wp_27 wm_1_6 wm_5_191 ⟨Nat.le_of_ble_eq_true rfl, Nat.le_of_ble_eq_true rfl⟩ ⟨Nat.le_of_ble_eq_true rfl, Nat.le_of_ble_eq_true rfl⟩ (mw0x (a := a) (r := r) (f := f) (q := q) (T := tb a) (w := w) rfl) rfl rfl rfl hl.1 rfl (Nat.le_of_ble_eq_true rfl) dX10_make_32 (fun o w' H locs hp hB => ?_)
        obtain ⟨x41, t42, rfl, hf43, hw9⟩ := hp
        replace hB : Bd κ A s (mw κ a r f (va_up q 3 t42) (tb a) w) H locs := by exact Bd_eq (mwQ3x rfl _) (by rw [hw9] at hB; exact hB)
        obtain rfl : x41 = 1 := hf43.trans (by decide)
        refine W.eq (g2 := F0 m 35 ls [.int 1]) rfl ?_
        refine lv_if_eq (tgt := 42) hx hb dX10_make_35 (by decide) (fun c44 => False.elim (by revert c44; decide)) (fun _ => ?_)
        refine lv_iconst (v := 0) hx hb dX10_make_38 (by decide) ?_
        refine lv_goto (tgt := 56) hx hb dX10_make_39 (by decide) ?_
        rw [← hQ]
        exact end_i hX hB hA3 rfl rfl ⟨0, a, r, f, (va_up q 3 t42), rfl, rfl, hm, rfl, rfl⟩ (Nat.le_of_ble_eq_true rfl) (Nat.le_of_ble_eq_true rfl) dX10_make_56
      · refine W.eq (g2 := F0 m 24 ls [.int 1, .int 0, .ref (a 0)]) rfl ?_
        refine lv_if_ne (tgt := 31) hx hb dX10_make_24 (by decide) (fun _ => ?_) (fun c45 => False.elim (by revert c45; decide))
        refine lv_iconst (v := 0) hx hb dX10_make_31 (by decide) ?_
        refine call_V (n := 2) (k0 := 0) (As := [.int 0, .int 0]) (rest := []) hX hB (k_X10_isThrown_ κ l (mw κ a r f q (tb a) w) 0 (a 0) (a 1) (q 0) (q 1) (q 2) (q 3) 0 0 (mw0x (a := a) (r := r) (f := f) (q := q) (T := tb a) (w := w) rfl)) ⟨rfl, by decide, by decide, by decide +kernel⟩ wm_5_188 wm_5_190 wp_27 wm_1_6 wm_5_191 ⟨Nat.le_of_ble_eq_true rfl, Nat.le_of_ble_eq_true rfl⟩ ⟨Nat.le_of_ble_eq_true rfl, Nat.le_of_ble_eq_true rfl⟩ (mw0x (a := a) (r := r) (f := f) (q := q) (T := tb a) (w := w) rfl) rfl rfl rfl hl.1 rfl (Nat.le_of_ble_eq_true rfl) dX10_make_32 (fun o w' H locs hp hB => ?_)
        obtain ⟨x46, t47, rfl, hf48, hw9⟩ := hp
        replace hB : Bd κ A s (mw κ a r f (va_up q 3 t47) (tb a) w) H locs := by exact Bd_eq (mwQ3x rfl _) (by rw [hw9] at hB; exact hB)
        obtain rfl : x46 = 0 := hf48.trans (by decide)
        refine W.eq (g2 := F0 m 35 ls [.int 0]) rfl ?_
        refine lv_if_eq (tgt := 42) hx hb dX10_make_35 (by decide) (fun _ => ?_) (fun c49 => False.elim (by revert c49; decide))
        refine lv_aload_n hx hb dX10_make_42 rfl (lv_at hl 0 rfl) ?_
        refine lv_iload_n hx hb dX10_make_43 rfl (lv_at hl 1 rfl) ?_
        refine newO (fs := [.int 0, .int 0, .null]) hX hB (ci := 8) rfl in7 tyX7_ok wm_5_138 wm_5_140 wm_1_7 df8 (Nat.le_of_ble_eq_true rfl) (Nat.le_of_ble_eq_true rfl) dX10_make_44 (fun q50 H hB => ?_)
        refine lv_dup hx hb dX10_make_47 rfl ?_
        refine lv_iload_n hx hb dX10_make_48 rfl (lv_at hl 2 rfl) ?_
        refine lv_iload_n hx hb dX10_make_49 rfl (lv_at hl 3 rfl) ?_
        refine call_I (n := 2) (As := [.int z, .int u]) (rest := [.ref q50, .int y, .ref (a 0)]) hX hB (k_X7_init κ l (mw κ a r f (va_up q 3 t47) (tb a) w) q50 z ((z).toNatClampNeg) u ((u).toNatClampNeg) (nI_rep (by assumption)) (nI_rep (by assumption)) (by omega)) ⟨by decide, by decide, by decide +kernel⟩ rfl wm_5_141 wm_5_142 wm_1_7 wm_5_143 ⟨Nat.le_of_ble_eq_true rfl, Nat.le_of_ble_eq_true rfl⟩ ⟨Nat.le_of_ble_eq_true rfl, Nat.le_of_ble_eq_true rfl⟩ rfl hl.1 rfl (Nat.le_of_ble_eq_true rfl) dX10_make_50 (fun o w' H locs hp hB => ?_)
        obtain ⟨b51, rfl, hw9⟩ := hp
        replace hB : Bd κ A s (lA κ b51 (((z).toNatClampNeg) * 5) (fun _ => 0) :: gO q50 ((z).toNatClampNeg) ((u).toNatClampNeg) b51 :: mw κ a r f (va_up q 3 t47) (tb a) w) H locs := by rw [hw9] at hB; exact hB
        refine W.eq (g2 := F0 m 53 ls [.ref q50, .int y, .ref (a 0)]) rfl ?_
        refine call_V (n := 2) (k0 := 2) (As := [.int y, .ref q50]) (rest := []) hX hB (k_X10_lay κ l w a r f (va_up q 3 t47) y q50 b51 ((z).toNatClampNeg) ((u).toNatClampNeg) (fun _ => 0) hm ⟨by omega, by omega, by omega, by omega⟩ (by assumption) (by assumption) (fun _ _ => sm_0)) ⟨rfl, by decide, by decide, by decide +kernel⟩ wm_5_196 wm_5_198 wp_29 wm_1_6 wm_5_199 ⟨Nat.le_of_ble_eq_true rfl, Nat.le_of_ble_eq_true rfl⟩ ⟨Nat.le_of_ble_eq_true rfl, Nat.le_of_ble_eq_true rfl⟩ (mw0x (a := a) (r := r) (f := f) (q := (va_up q 3 t47)) (T := tb a) (w := w) rfl) rfl rfl rfl hl.1 rfl (Nat.le_of_ble_eq_true rfl) dX10_make_53 (fun o w' H locs hp hB => ?_)
        obtain ⟨x52, an53, rn54, fn55, qn56, rfl, hf57, hf58, hf59, hw9⟩ := hp
        replace hB : Bd κ A s (mw κ an53 rn54 fn55 qn56 (tb an53) w) H locs := by rw [hw9] at hB; exact hB
        refine W.eq (g2 := F0 m 56 ls [.int x52]) rfl ?_
        rw [← hQ]
        exact end_i hX hB hA3 rfl rfl ⟨x52, an53, rn54, fn55, qn56, rfl, (hf57.trans rfl), hf58, (hf59.trans rfl), rfl⟩ (Nat.le_of_ble_eq_true rfl) (Nat.le_of_ble_eq_true rfl) dX10_make_56
set_option maxHeartbeats 4000000 in
set_option maxRecDepth 100000 in
theorem k_X10_unit (κ : Kt) (l : Launch) (w : va_W) (a r : Nat → Nat) (f : Nat → Nat → Int64) (q : Nat → Int32) (y : Int32) (z : Int32) (hm : mok r f) : CM κ l yX10_unit cX10_unit 3 (some .int) 3 64 2 23 [.ref (a 0), .int y, .int z] (mw κ a r f q (tb a) w) (fun o w' => ∃ (x : Int32) (a' : Nat → Nat) (r' : Nat → Nat) (f' : Nat → Nat → Int64) (q' : Nat → Int32), o = some (.int x) ∧ (a' 0 = a 0) ∧ (mok r' f') ∧ (q' 2 = q 2) ∧ w' = mw κ a' r' f' q' (tb a') w) := by
  refine CM_begin (plainFor_of_name (by decide)) (Nat.le_of_ble_eq_true rfl) ?_
  intro p e s m args below meth c A Q hX hnm hA3 hQ hB ls hl
  have hx := hX.1.1
  have hb := hX.1.2.1
  have hl : lv_has ls 3 [(0, .ref (a 0)), (1, .int y), (2, .int z)] := hl
  refine lv_aload_n hx hb dX10_unit_0 rfl (lv_at hl 0 rfl) ?_
  refine lv_iload_n hx hb dX10_unit_1 rfl (lv_at hl 1 rfl) ?_
  refine call_S (n := 1) (As := [.int y]) (rest := [.ref (a 0)]) hX hB (k_X10_isTable κ l (mw κ a r f q (tb a) w) y) ⟨by decide, by decide, by decide +kernel⟩ wm_5_182 wm_5_183 wm_1_6 wm_5_184 ⟨Nat.le_of_ble_eq_true rfl, Nat.le_of_ble_eq_true rfl⟩ ⟨Nat.le_of_ble_eq_true rfl, Nat.le_of_ble_eq_true rfl⟩ rfl hl.1 rfl (Nat.le_of_ble_eq_true rfl) dX10_unit_2 (fun o w' H locs hp hB => ?_)
  obtain ⟨z1, rfl, hf2, hw9⟩ := hp
  replace hB : Bd κ A s (mw κ a r f q (tb a) w) H locs := by rw [hw9] at hB; exact hB
  rcases hf2 with rfl | ⟨rfl, hz3a, hz3b⟩
  · refine W.eq (g2 := F0 m 5 ls [.int 0, .ref (a 0)]) rfl ?_
    refine lv_if_ne (tgt := 12) hx hb dX10_unit_5 (by decide) (fun c4 => False.elim (by revert c4; decide)) (fun _ => ?_)
    refine lv_iconst (v := 1) hx hb dX10_unit_8 (by decide) ?_
    refine lv_goto (tgt := 13) hx hb dX10_unit_9 (by decide) ?_
    refine lv_iload_n hx hb dX10_unit_13 rfl (lv_at hl 2 rfl) ?_
    refine call_S (n := 1) (As := [.int z]) (rest := [.int 1, .ref (a 0)]) hX hB (k_X10_isShort κ l (mw κ a r f q (tb a) w) z) ⟨by decide, by decide, by decide +kernel⟩ wm_5_185 wm_5_186 wm_1_6 wm_5_187 ⟨Nat.le_of_ble_eq_true rfl, Nat.le_of_ble_eq_true rfl⟩ ⟨Nat.le_of_ble_eq_true rfl, Nat.le_of_ble_eq_true rfl⟩ rfl hl.1 rfl (Nat.le_of_ble_eq_true rfl) dX10_unit_14 (fun o w' H locs hp hB => ?_)
    obtain ⟨z5, rfl, hf6, hw9⟩ := hp
    replace hB : Bd κ A s (mw κ a r f q (tb a) w) H locs := by rw [hw9] at hB; exact hB
    rcases hf6 with rfl | ⟨rfl, hz7a, hz7b, hz7c⟩
    · refine W.eq (g2 := F0 m 17 ls [.int 0, .int 1, .ref (a 0)]) rfl ?_
      refine lv_if_ne (tgt := 24) hx hb dX10_unit_17 (by decide) (fun c8 => False.elim (by revert c8; decide)) (fun _ => ?_)
      refine lv_iconst (v := 1) hx hb dX10_unit_20 (by decide) ?_
      refine lv_goto (tgt := 25) hx hb dX10_unit_21 (by decide) ?_
      refine call_V (n := 2) (k0 := 0) (As := [.int 1, .int 1]) (rest := []) hX hB (k_X10_isThrown_ κ l (mw κ a r f q (tb a) w) 0 (a 0) (a 1) (q 0) (q 1) (q 2) (q 3) 1 1 (mw0x (a := a) (r := r) (f := f) (q := q) (T := tb a) (w := w) rfl)) ⟨rfl, by decide, by decide, by decide +kernel⟩ wm_5_188 wm_5_190 wp_27 wm_1_6 wm_5_191 ⟨Nat.le_of_ble_eq_true rfl, Nat.le_of_ble_eq_true rfl⟩ ⟨Nat.le_of_ble_eq_true rfl, Nat.le_of_ble_eq_true rfl⟩ (mw0x (a := a) (r := r) (f := f) (q := q) (T := tb a) (w := w) rfl) rfl rfl rfl hl.1 rfl (Nat.le_of_ble_eq_true rfl) dX10_unit_25 (fun o w' H locs hp hB => ?_)
      obtain ⟨x9, t10, rfl, hf11, hw9⟩ := hp
      replace hB : Bd κ A s (mw κ a r f (va_up q 3 t10) (tb a) w) H locs := by exact Bd_eq (mwQ3x rfl _) (by rw [hw9] at hB; exact hB)
      obtain rfl : x9 = 1 := hf11.trans (by decide)
      refine W.eq (g2 := F0 m 28 ls [.int 1]) rfl ?_
      refine lv_if_eq (tgt := 35) hx hb dX10_unit_28 (by decide) (fun c12 => False.elim (by revert c12; decide)) (fun _ => ?_)
      refine lv_iconst (v := 0) hx hb dX10_unit_31 (by decide) ?_
      refine lv_goto (tgt := 44) hx hb dX10_unit_32 (by decide) ?_
      rw [← hQ]
      exact end_i hX hB hA3 rfl rfl ⟨0, a, r, f, (va_up q 3 t10), rfl, rfl, hm, rfl, rfl⟩ (Nat.le_of_ble_eq_true rfl) (Nat.le_of_ble_eq_true rfl) dX10_unit_44
    · refine W.eq (g2 := F0 m 17 ls [.int 1, .int 1, .ref (a 0)]) rfl ?_
      refine lv_if_ne (tgt := 24) hx hb dX10_unit_17 (by decide) (fun _ => ?_) (fun c13 => False.elim (by revert c13; decide))
      refine lv_iconst (v := 0) hx hb dX10_unit_24 (by decide) ?_
      refine call_V (n := 2) (k0 := 0) (As := [.int 1, .int 0]) (rest := []) hX hB (k_X10_isThrown_ κ l (mw κ a r f q (tb a) w) 0 (a 0) (a 1) (q 0) (q 1) (q 2) (q 3) 1 0 (mw0x (a := a) (r := r) (f := f) (q := q) (T := tb a) (w := w) rfl)) ⟨rfl, by decide, by decide, by decide +kernel⟩ wm_5_188 wm_5_190 wp_27 wm_1_6 wm_5_191 ⟨Nat.le_of_ble_eq_true rfl, Nat.le_of_ble_eq_true rfl⟩ ⟨Nat.le_of_ble_eq_true rfl, Nat.le_of_ble_eq_true rfl⟩ (mw0x (a := a) (r := r) (f := f) (q := q) (T := tb a) (w := w) rfl) rfl rfl rfl hl.1 rfl (Nat.le_of_ble_eq_true rfl) dX10_unit_25 (fun o w' H locs hp hB => ?_)
      obtain ⟨x14, t15, rfl, hf16, hw9⟩ := hp
      replace hB : Bd κ A s (mw κ a r f (va_up q 3 t15) (tb a) w) H locs := by exact Bd_eq (mwQ3x rfl _) (by rw [hw9] at hB; exact hB)
      obtain rfl : x14 = 1 := hf16.trans (by decide)
      refine W.eq (g2 := F0 m 28 ls [.int 1]) rfl ?_
      refine lv_if_eq (tgt := 35) hx hb dX10_unit_28 (by decide) (fun c17 => False.elim (by revert c17; decide)) (fun _ => ?_)
      refine lv_iconst (v := 0) hx hb dX10_unit_31 (by decide) ?_
      refine lv_goto (tgt := 44) hx hb dX10_unit_32 (by decide) ?_
      rw [← hQ]
      exact end_i hX hB hA3 rfl rfl ⟨0, a, r, f, (va_up q 3 t15), rfl, rfl, hm, rfl, rfl⟩ (Nat.le_of_ble_eq_true rfl) (Nat.le_of_ble_eq_true rfl) dX10_unit_44
  · refine W.eq (g2 := F0 m 5 ls [.int 1, .ref (a 0)]) rfl ?_
    refine lv_if_ne (tgt := 12) hx hb dX10_unit_5 (by decide) (fun _ => ?_) (fun c18 => False.elim (by revert c18; decide))
    refine lv_iconst (v := 0) hx hb dX10_unit_12 (by decide) ?_
    refine lv_iload_n hx hb dX10_unit_13 rfl (lv_at hl 2 rfl) ?_
    refine call_S (n := 1) (As := [.int z]) (rest := [.int 0, .ref (a 0)]) hX hB (k_X10_isShort κ l (mw κ a r f q (tb a) w) z) ⟨by decide, by decide, by decide +kernel⟩ wm_5_185 wm_5_186 wm_1_6 wm_5_187 ⟨Nat.le_of_ble_eq_true rfl, Nat.le_of_ble_eq_true rfl⟩ ⟨Nat.le_of_ble_eq_true rfl, Nat.le_of_ble_eq_true rfl⟩ rfl hl.1 rfl (Nat.le_of_ble_eq_true rfl) dX10_unit_14 (fun o w' H locs hp hB => ?_)
    obtain ⟨z19, rfl, hf20, hw9⟩ := hp
    replace hB : Bd κ A s (mw κ a r f q (tb a) w) H locs := by rw [hw9] at hB; exact hB
    rcases hf20 with rfl | ⟨rfl, hz21a, hz21b, hz21c⟩
    · refine W.eq (g2 := F0 m 17 ls [.int 0, .int 0, .ref (a 0)]) rfl ?_
      refine lv_if_ne (tgt := 24) hx hb dX10_unit_17 (by decide) (fun c22 => False.elim (by revert c22; decide)) (fun _ => ?_)
      refine lv_iconst (v := 1) hx hb dX10_unit_20 (by decide) ?_
      refine lv_goto (tgt := 25) hx hb dX10_unit_21 (by decide) ?_
      refine call_V (n := 2) (k0 := 0) (As := [.int 0, .int 1]) (rest := []) hX hB (k_X10_isThrown_ κ l (mw κ a r f q (tb a) w) 0 (a 0) (a 1) (q 0) (q 1) (q 2) (q 3) 0 1 (mw0x (a := a) (r := r) (f := f) (q := q) (T := tb a) (w := w) rfl)) ⟨rfl, by decide, by decide, by decide +kernel⟩ wm_5_188 wm_5_190 wp_27 wm_1_6 wm_5_191 ⟨Nat.le_of_ble_eq_true rfl, Nat.le_of_ble_eq_true rfl⟩ ⟨Nat.le_of_ble_eq_true rfl, Nat.le_of_ble_eq_true rfl⟩ (mw0x (a := a) (r := r) (f := f) (q := q) (T := tb a) (w := w) rfl) rfl rfl rfl hl.1 rfl (Nat.le_of_ble_eq_true rfl) dX10_unit_25 (fun o w' H locs hp hB => ?_)
      obtain ⟨x23, t24, rfl, hf25, hw9⟩ := hp
      replace hB : Bd κ A s (mw κ a r f (va_up q 3 t24) (tb a) w) H locs := by exact Bd_eq (mwQ3x rfl _) (by rw [hw9] at hB; exact hB)
      obtain rfl : x23 = 1 := hf25.trans (by decide)
      refine W.eq (g2 := F0 m 28 ls [.int 1]) rfl ?_
      refine lv_if_eq (tgt := 35) hx hb dX10_unit_28 (by decide) (fun c26 => False.elim (by revert c26; decide)) (fun _ => ?_)
      refine lv_iconst (v := 0) hx hb dX10_unit_31 (by decide) ?_
      refine lv_goto (tgt := 44) hx hb dX10_unit_32 (by decide) ?_
      rw [← hQ]
      exact end_i hX hB hA3 rfl rfl ⟨0, a, r, f, (va_up q 3 t24), rfl, rfl, hm, rfl, rfl⟩ (Nat.le_of_ble_eq_true rfl) (Nat.le_of_ble_eq_true rfl) dX10_unit_44
    · refine W.eq (g2 := F0 m 17 ls [.int 1, .int 0, .ref (a 0)]) rfl ?_
      refine lv_if_ne (tgt := 24) hx hb dX10_unit_17 (by decide) (fun _ => ?_) (fun c27 => False.elim (by revert c27; decide))
      refine lv_iconst (v := 0) hx hb dX10_unit_24 (by decide) ?_
      refine call_V (n := 2) (k0 := 0) (As := [.int 0, .int 0]) (rest := []) hX hB (k_X10_isThrown_ κ l (mw κ a r f q (tb a) w) 0 (a 0) (a 1) (q 0) (q 1) (q 2) (q 3) 0 0 (mw0x (a := a) (r := r) (f := f) (q := q) (T := tb a) (w := w) rfl)) ⟨rfl, by decide, by decide, by decide +kernel⟩ wm_5_188 wm_5_190 wp_27 wm_1_6 wm_5_191 ⟨Nat.le_of_ble_eq_true rfl, Nat.le_of_ble_eq_true rfl⟩ ⟨Nat.le_of_ble_eq_true rfl, Nat.le_of_ble_eq_true rfl⟩ (mw0x (a := a) (r := r) (f := f) (q := q) (T := tb a) (w := w) rfl) rfl rfl rfl hl.1 rfl (Nat.le_of_ble_eq_true rfl) dX10_unit_25 (fun o w' H locs hp hB => ?_)
      obtain ⟨x28, t29, rfl, hf30, hw9⟩ := hp
      replace hB : Bd κ A s (mw κ a r f (va_up q 3 t29) (tb a) w) H locs := by exact Bd_eq (mwQ3x rfl _) (by rw [hw9] at hB; exact hB)
      obtain rfl : x28 = 0 := hf30.trans (by decide)
      refine W.eq (g2 := F0 m 28 ls [.int 0]) rfl ?_
      refine lv_if_eq (tgt := 35) hx hb dX10_unit_28 (by decide) (fun _ => ?_) (fun c31 => False.elim (by revert c31; decide))
      refine lv_aload_n hx hb dX10_unit_35 rfl (lv_at hl 0 rfl) ?_
      refine lv_iload_n hx hb dX10_unit_36 rfl (lv_at hl 1 rfl) ?_
      refine lv_iload_n hx hb dX10_unit_37 rfl (lv_at hl 2 rfl) ?_
      refine call_S (n := 1) (As := [.int z]) (rest := [.int y, .ref (a 0)]) hX hB (k_X7_unit κ l (mw κ a r f (va_up q 3 t29) (tb a) w) z ((z).toNatClampNeg) (nI_rep (by assumption)) (by omega) (by omega)) ⟨by decide, by decide, by decide +kernel⟩ wm_5_212 wm_5_213 wm_1_7 wm_5_214 ⟨Nat.le_of_ble_eq_true rfl, Nat.le_of_ble_eq_true rfl⟩ ⟨Nat.le_of_ble_eq_true rfl, Nat.le_of_ble_eq_true rfl⟩ rfl hl.1 rfl (Nat.le_of_ble_eq_true rfl) dX10_unit_38 (fun o w' H locs hp hB => ?_)
      obtain ⟨q32, q33, F34, rfl, hf35, hw9⟩ := hp
      replace hB : Bd κ A s (lA κ q33 (((z).toNatClampNeg) * 5) F34 :: gO q32 ((z).toNatClampNeg) ((z).toNatClampNeg) q33 :: mw κ a r f (va_up q 3 t29) (tb a) w) H locs := by rw [hw9] at hB; exact hB
      refine W.eq (g2 := F0 m 41 ls [.ref q32, .int y, .ref (a 0)]) rfl ?_
      refine call_V (n := 2) (k0 := 2) (As := [.int y, .ref q32]) (rest := []) hX hB (k_X10_lay κ l w a r f (va_up q 3 t29) y q32 q33 ((z).toNatClampNeg) ((z).toNatClampNeg) F34 hm ⟨by omega, by omega, by omega, by omega⟩ (by assumption) (by assumption) (fun k _ => sm_01 (hf35 k))) ⟨rfl, by decide, by decide, by decide +kernel⟩ wm_5_196 wm_5_198 wp_29 wm_1_6 wm_5_199 ⟨Nat.le_of_ble_eq_true rfl, Nat.le_of_ble_eq_true rfl⟩ ⟨Nat.le_of_ble_eq_true rfl, Nat.le_of_ble_eq_true rfl⟩ (mw0x (a := a) (r := r) (f := f) (q := (va_up q 3 t29)) (T := tb a) (w := w) rfl) rfl rfl rfl hl.1 rfl (Nat.le_of_ble_eq_true rfl) dX10_unit_41 (fun o w' H locs hp hB => ?_)
      obtain ⟨x36, an37, rn38, fn39, qn40, rfl, hf41, hf42, hf43, hw9⟩ := hp
      replace hB : Bd κ A s (mw κ an37 rn38 fn39 qn40 (tb an37) w) H locs := by rw [hw9] at hB; exact hB
      refine W.eq (g2 := F0 m 44 ls [.int x36]) rfl ?_
      rw [← hQ]
      exact end_i hX hB hA3 rfl rfl ⟨x36, an37, rn38, fn39, qn40, rfl, (hf41.trans rfl), hf42, (hf43.trans rfl), rfl⟩ (Nat.le_of_ble_eq_true rfl) (Nat.le_of_ble_eq_true rfl) dX10_unit_44
set_option maxHeartbeats 4000000 in
set_option maxRecDepth 100000 in
theorem k_X10_put (κ : Kt) (l : Launch) (w : va_W) (a r : Nat → Nat) (f : Nat → Nat → Int64) (q : Nat → Int32) (y : Int32) (z : Int32) (u : Int32) (v : Int32) (hm : mok r f) : CM κ l yX10_put cX10_put 6 (some .int) 2 45 0 0 [.ref (a 0), .int y, .int z, .int u, .int v] (mw κ a r f q (tb a) w) (fun o w' => ∃ (x : Int32) (a' : Nat → Nat) (r' : Nat → Nat) (f' : Nat → Nat → Int64) (q' : Nat → Int32), o = some (.int x) ∧ (a' 0 = a 0) ∧ (mok r' f') ∧ (q' 2 = q 2) ∧ w' = mw κ a' r' f' q' (tb a') w) := by
  refine CM_begin (plainFor_of_name (by decide)) (Nat.le_of_ble_eq_true rfl) ?_
  intro p e s m args below meth c A Q hX hnm hA3 hQ hB ls hl
  have hx := hX.1.1
  have hb := hX.1.2.1
  have hl : lv_has ls 6 [(0, .ref (a 0)), (1, .int y), (2, .int z), (3, .int u), (4, .int v)] := hl
  refine lv_aload_n hx hb dX10_put_0 rfl (lv_at hl 0 rfl) ?_
  refine lv_aload_n hx hb dX10_put_1 rfl (lv_at hl 0 rfl) ?_
  refine lv_iload_n hx hb dX10_put_2 rfl (lv_at hl 1 rfl) ?_
  refine lv_iload_n hx hb dX10_put_3 rfl (lv_at hl 2 rfl) ?_
  refine call_V (n := 2) (k0 := 0) (As := [.int y, .int z]) (rest := [.ref (a 0)]) hX hB (k_X10_isRow κ l w a r f q y z hm) ⟨rfl, by decide, by decide, by decide +kernel⟩ wm_5_225 wm_5_227 wp_31 wm_1_6 wm_5_228 ⟨Nat.le_of_ble_eq_true rfl, Nat.le_of_ble_eq_true rfl⟩ ⟨Nat.le_of_ble_eq_true rfl, Nat.le_of_ble_eq_true rfl⟩ (mw0x (a := a) (r := r) (f := f) (q := q) (T := tb a) (w := w) rfl) rfl rfl rfl hl.1 rfl (Nat.le_of_ble_eq_true rfl) dX10_put_4 (fun o w' H locs hp hB => ?_)
  obtain ⟨x1, rfl, hf2, hw9⟩ := hp
  replace hB : Bd κ A s (mw κ a r f q (tb a) w) H locs := by rw [hw9] at hB; exact hB
  rcases hf2 with rfl | ⟨rfl, hz3a, hz3b, hz3c, hz3d⟩
  · refine W.eq (g2 := F0 m 7 ls [.int 0, .ref (a 0)]) rfl ?_
    refine lv_if_eq (tgt := 19) hx hb dX10_put_7 (by decide) (fun _ => ?_) (fun c4 => False.elim (by revert c4; decide))
    refine lv_iconst (v := 1) hx hb dX10_put_19 (by decide) ?_
    refine lv_goto (tgt := 24) hx hb dX10_put_20 (by decide) ?_
    refine lv_iload hx hb dX10_put_24 (lv_at hl 4 rfl) ?_
    refine lv_bipush (v := (-20)) hx hb dX10_put_26 (by decide) ?_
    refine lv_icmp_lt (tgt := 38) hx hb dX10_put_28 (by decide) (fun c5 => ?_) (fun c5 => ?_)
    · refine lv_iconst (v := 1) hx hb dX10_put_38 (by decide) ?_
      refine lv_goto (tgt := 43) hx hb dX10_put_39 (by decide) ?_
      refine call_V (n := 2) (k0 := 0) (As := [.int 1, .int 1]) (rest := []) hX hB (k_X10_isThrown_ κ l (mw κ a r f q (tb a) w) 0 (a 0) (a 1) (q 0) (q 1) (q 2) (q 3) 1 1 (mw0x (a := a) (r := r) (f := f) (q := q) (T := tb a) (w := w) rfl)) ⟨rfl, by decide, by decide, by decide +kernel⟩ wm_5_188 wm_5_190 wp_27 wm_1_6 wm_5_191 ⟨Nat.le_of_ble_eq_true rfl, Nat.le_of_ble_eq_true rfl⟩ ⟨Nat.le_of_ble_eq_true rfl, Nat.le_of_ble_eq_true rfl⟩ (mw0x (a := a) (r := r) (f := f) (q := q) (T := tb a) (w := w) rfl) rfl rfl rfl hl.1 rfl (Nat.le_of_ble_eq_true rfl) dX10_put_43 (fun o w' H locs hp hB => ?_)
      obtain ⟨x6, t7, rfl, hf8, hw9⟩ := hp
      replace hB : Bd κ A s (mw κ a r f (va_up q 3 t7) (tb a) w) H locs := by exact Bd_eq (mwQ3x rfl _) (by rw [hw9] at hB; exact hB)
      obtain rfl : x6 = 1 := hf8.trans (by decide)
      refine W.eq (g2 := F0 m 46 ls [.int 1]) rfl ?_
      refine lv_if_eq (tgt := 51) hx hb dX10_put_46 (by decide) (fun c9 => False.elim (by revert c9; decide)) (fun _ => ?_)
      refine lv_iconst (v := 0) hx hb dX10_put_49 (by decide) ?_
      rw [← hQ]
      exact end_i hX hB hA3 rfl rfl ⟨0, a, r, f, (va_up q 3 t7), rfl, rfl, hm, rfl, rfl⟩ (Nat.le_of_ble_eq_true rfl) (Nat.le_of_ble_eq_true rfl) dX10_put_50
    · refine lv_iload hx hb dX10_put_31 (lv_at hl 4 rfl) ?_
      refine lv_bipush (v := 20) hx hb dX10_put_33 (by decide) ?_
      refine lv_icmp_le (tgt := 42) hx hb dX10_put_35 (by decide) (fun c10 => ?_) (fun c10 => ?_)
      · refine lv_iconst (v := 0) hx hb dX10_put_42 (by decide) ?_
        refine call_V (n := 2) (k0 := 0) (As := [.int 1, .int 0]) (rest := []) hX hB (k_X10_isThrown_ κ l (mw κ a r f q (tb a) w) 0 (a 0) (a 1) (q 0) (q 1) (q 2) (q 3) 1 0 (mw0x (a := a) (r := r) (f := f) (q := q) (T := tb a) (w := w) rfl)) ⟨rfl, by decide, by decide, by decide +kernel⟩ wm_5_188 wm_5_190 wp_27 wm_1_6 wm_5_191 ⟨Nat.le_of_ble_eq_true rfl, Nat.le_of_ble_eq_true rfl⟩ ⟨Nat.le_of_ble_eq_true rfl, Nat.le_of_ble_eq_true rfl⟩ (mw0x (a := a) (r := r) (f := f) (q := q) (T := tb a) (w := w) rfl) rfl rfl rfl hl.1 rfl (Nat.le_of_ble_eq_true rfl) dX10_put_43 (fun o w' H locs hp hB => ?_)
        obtain ⟨x11, t12, rfl, hf13, hw9⟩ := hp
        replace hB : Bd κ A s (mw κ a r f (va_up q 3 t12) (tb a) w) H locs := by exact Bd_eq (mwQ3x rfl _) (by rw [hw9] at hB; exact hB)
        obtain rfl : x11 = 1 := hf13.trans (by decide)
        refine W.eq (g2 := F0 m 46 ls [.int 1]) rfl ?_
        refine lv_if_eq (tgt := 51) hx hb dX10_put_46 (by decide) (fun c14 => False.elim (by revert c14; decide)) (fun _ => ?_)
        refine lv_iconst (v := 0) hx hb dX10_put_49 (by decide) ?_
        rw [← hQ]
        exact end_i hX hB hA3 rfl rfl ⟨0, a, r, f, (va_up q 3 t12), rfl, rfl, hm, rfl, rfl⟩ (Nat.le_of_ble_eq_true rfl) (Nat.le_of_ble_eq_true rfl) dX10_put_50
      · refine lv_iconst (v := 1) hx hb dX10_put_38 (by decide) ?_
        refine lv_goto (tgt := 43) hx hb dX10_put_39 (by decide) ?_
        refine call_V (n := 2) (k0 := 0) (As := [.int 1, .int 1]) (rest := []) hX hB (k_X10_isThrown_ κ l (mw κ a r f q (tb a) w) 0 (a 0) (a 1) (q 0) (q 1) (q 2) (q 3) 1 1 (mw0x (a := a) (r := r) (f := f) (q := q) (T := tb a) (w := w) rfl)) ⟨rfl, by decide, by decide, by decide +kernel⟩ wm_5_188 wm_5_190 wp_27 wm_1_6 wm_5_191 ⟨Nat.le_of_ble_eq_true rfl, Nat.le_of_ble_eq_true rfl⟩ ⟨Nat.le_of_ble_eq_true rfl, Nat.le_of_ble_eq_true rfl⟩ (mw0x (a := a) (r := r) (f := f) (q := q) (T := tb a) (w := w) rfl) rfl rfl rfl hl.1 rfl (Nat.le_of_ble_eq_true rfl) dX10_put_43 (fun o w' H locs hp hB => ?_)
        obtain ⟨x15, t16, rfl, hf17, hw9⟩ := hp
        replace hB : Bd κ A s (mw κ a r f (va_up q 3 t16) (tb a) w) H locs := by exact Bd_eq (mwQ3x rfl _) (by rw [hw9] at hB; exact hB)
        obtain rfl : x15 = 1 := hf17.trans (by decide)
        refine W.eq (g2 := F0 m 46 ls [.int 1]) rfl ?_
        refine lv_if_eq (tgt := 51) hx hb dX10_put_46 (by decide) (fun c18 => False.elim (by revert c18; decide)) (fun _ => ?_)
        refine lv_iconst (v := 0) hx hb dX10_put_49 (by decide) ?_
        rw [← hQ]
        exact end_i hX hB hA3 rfl rfl ⟨0, a, r, f, (va_up q 3 t16), rfl, rfl, hm, rfl, rfl⟩ (Nat.le_of_ble_eq_true rfl) (Nat.le_of_ble_eq_true rfl) dX10_put_50
  · refine W.eq (g2 := F0 m 7 ls [.int 1, .ref (a 0)]) rfl ?_
    refine lv_if_eq (tgt := 19) hx hb dX10_put_7 (by decide) (fun c19 => False.elim (by revert c19; decide)) (fun _ => ?_)
    refine lv_aload_n hx hb dX10_put_10 rfl (lv_at hl 0 rfl) ?_
    refine lv_iload_n hx hb dX10_put_11 rfl (lv_at hl 1 rfl) ?_
    refine lv_iload_n hx hb dX10_put_12 rfl (lv_at hl 3 rfl) ?_
    refine call_V (n := 2) (k0 := 0) (As := [.int y, .int u]) (rest := [.ref (a 0)]) hX hB (k_X10_isColumn κ l w a r f q y u hm) ⟨rfl, by decide, by decide, by decide +kernel⟩ wm_5_229 wm_5_231 wp_32 wm_1_6 wm_5_232 ⟨Nat.le_of_ble_eq_true rfl, Nat.le_of_ble_eq_true rfl⟩ ⟨Nat.le_of_ble_eq_true rfl, Nat.le_of_ble_eq_true rfl⟩ (mw0x (a := a) (r := r) (f := f) (q := q) (T := tb a) (w := w) rfl) rfl rfl rfl hl.1 rfl (Nat.le_of_ble_eq_true rfl) dX10_put_13 (fun o w' H locs hp hB => ?_)
    obtain ⟨x20, rfl, hf21, hw9⟩ := hp
    replace hB : Bd κ A s (mw κ a r f q (tb a) w) H locs := by rw [hw9] at hB; exact hB
    rcases hf21 with rfl | ⟨rfl, hz22a, hz22b, hz22c, hz22d⟩
    · refine W.eq (g2 := F0 m 16 ls [.int 0, .ref (a 0)]) rfl ?_
      refine lv_if_ne (tgt := 23) hx hb dX10_put_16 (by decide) (fun c23 => False.elim (by revert c23; decide)) (fun _ => ?_)
      refine lv_iconst (v := 1) hx hb dX10_put_19 (by decide) ?_
      refine lv_goto (tgt := 24) hx hb dX10_put_20 (by decide) ?_
      refine lv_iload hx hb dX10_put_24 (lv_at hl 4 rfl) ?_
      refine lv_bipush (v := (-20)) hx hb dX10_put_26 (by decide) ?_
      refine lv_icmp_lt (tgt := 38) hx hb dX10_put_28 (by decide) (fun c24 => ?_) (fun c24 => ?_)
      · refine lv_iconst (v := 1) hx hb dX10_put_38 (by decide) ?_
        refine lv_goto (tgt := 43) hx hb dX10_put_39 (by decide) ?_
        refine call_V (n := 2) (k0 := 0) (As := [.int 1, .int 1]) (rest := []) hX hB (k_X10_isThrown_ κ l (mw κ a r f q (tb a) w) 0 (a 0) (a 1) (q 0) (q 1) (q 2) (q 3) 1 1 (mw0x (a := a) (r := r) (f := f) (q := q) (T := tb a) (w := w) rfl)) ⟨rfl, by decide, by decide, by decide +kernel⟩ wm_5_188 wm_5_190 wp_27 wm_1_6 wm_5_191 ⟨Nat.le_of_ble_eq_true rfl, Nat.le_of_ble_eq_true rfl⟩ ⟨Nat.le_of_ble_eq_true rfl, Nat.le_of_ble_eq_true rfl⟩ (mw0x (a := a) (r := r) (f := f) (q := q) (T := tb a) (w := w) rfl) rfl rfl rfl hl.1 rfl (Nat.le_of_ble_eq_true rfl) dX10_put_43 (fun o w' H locs hp hB => ?_)
        obtain ⟨x25, t26, rfl, hf27, hw9⟩ := hp
        replace hB : Bd κ A s (mw κ a r f (va_up q 3 t26) (tb a) w) H locs := by exact Bd_eq (mwQ3x rfl _) (by rw [hw9] at hB; exact hB)
        obtain rfl : x25 = 1 := hf27.trans (by decide)
        refine W.eq (g2 := F0 m 46 ls [.int 1]) rfl ?_
        refine lv_if_eq (tgt := 51) hx hb dX10_put_46 (by decide) (fun c28 => False.elim (by revert c28; decide)) (fun _ => ?_)
        refine lv_iconst (v := 0) hx hb dX10_put_49 (by decide) ?_
        rw [← hQ]
        exact end_i hX hB hA3 rfl rfl ⟨0, a, r, f, (va_up q 3 t26), rfl, rfl, hm, rfl, rfl⟩ (Nat.le_of_ble_eq_true rfl) (Nat.le_of_ble_eq_true rfl) dX10_put_50
      · refine lv_iload hx hb dX10_put_31 (lv_at hl 4 rfl) ?_
        refine lv_bipush (v := 20) hx hb dX10_put_33 (by decide) ?_
        refine lv_icmp_le (tgt := 42) hx hb dX10_put_35 (by decide) (fun c29 => ?_) (fun c29 => ?_)
        · refine lv_iconst (v := 0) hx hb dX10_put_42 (by decide) ?_
          refine call_V (n := 2) (k0 := 0) (As := [.int 1, .int 0]) (rest := []) hX hB (k_X10_isThrown_ κ l (mw κ a r f q (tb a) w) 0 (a 0) (a 1) (q 0) (q 1) (q 2) (q 3) 1 0 (mw0x (a := a) (r := r) (f := f) (q := q) (T := tb a) (w := w) rfl)) ⟨rfl, by decide, by decide, by decide +kernel⟩ wm_5_188 wm_5_190 wp_27 wm_1_6 wm_5_191 ⟨Nat.le_of_ble_eq_true rfl, Nat.le_of_ble_eq_true rfl⟩ ⟨Nat.le_of_ble_eq_true rfl, Nat.le_of_ble_eq_true rfl⟩ (mw0x (a := a) (r := r) (f := f) (q := q) (T := tb a) (w := w) rfl) rfl rfl rfl hl.1 rfl (Nat.le_of_ble_eq_true rfl) dX10_put_43 (fun o w' H locs hp hB => ?_)
          obtain ⟨x30, t31, rfl, hf32, hw9⟩ := hp
          replace hB : Bd κ A s (mw κ a r f (va_up q 3 t31) (tb a) w) H locs := by exact Bd_eq (mwQ3x rfl _) (by rw [hw9] at hB; exact hB)
          obtain rfl : x30 = 1 := hf32.trans (by decide)
          refine W.eq (g2 := F0 m 46 ls [.int 1]) rfl ?_
          refine lv_if_eq (tgt := 51) hx hb dX10_put_46 (by decide) (fun c33 => False.elim (by revert c33; decide)) (fun _ => ?_)
          refine lv_iconst (v := 0) hx hb dX10_put_49 (by decide) ?_
          rw [← hQ]
          exact end_i hX hB hA3 rfl rfl ⟨0, a, r, f, (va_up q 3 t31), rfl, rfl, hm, rfl, rfl⟩ (Nat.le_of_ble_eq_true rfl) (Nat.le_of_ble_eq_true rfl) dX10_put_50
        · refine lv_iconst (v := 1) hx hb dX10_put_38 (by decide) ?_
          refine lv_goto (tgt := 43) hx hb dX10_put_39 (by decide) ?_
          refine call_V (n := 2) (k0 := 0) (As := [.int 1, .int 1]) (rest := []) hX hB (k_X10_isThrown_ κ l (mw κ a r f q (tb a) w) 0 (a 0) (a 1) (q 0) (q 1) (q 2) (q 3) 1 1 (mw0x (a := a) (r := r) (f := f) (q := q) (T := tb a) (w := w) rfl)) ⟨rfl, by decide, by decide, by decide +kernel⟩ wm_5_188 wm_5_190 wp_27 wm_1_6 wm_5_191 ⟨Nat.le_of_ble_eq_true rfl, Nat.le_of_ble_eq_true rfl⟩ ⟨Nat.le_of_ble_eq_true rfl, Nat.le_of_ble_eq_true rfl⟩ (mw0x (a := a) (r := r) (f := f) (q := q) (T := tb a) (w := w) rfl) rfl rfl rfl hl.1 rfl (Nat.le_of_ble_eq_true rfl) dX10_put_43 (fun o w' H locs hp hB => ?_)
          obtain ⟨x34, t35, rfl, hf36, hw9⟩ := hp
          replace hB : Bd κ A s (mw κ a r f (va_up q 3 t35) (tb a) w) H locs := by exact Bd_eq (mwQ3x rfl _) (by rw [hw9] at hB; exact hB)
          obtain rfl : x34 = 1 := hf36.trans (by decide)
          refine W.eq (g2 := F0 m 46 ls [.int 1]) rfl ?_
          refine lv_if_eq (tgt := 51) hx hb dX10_put_46 (by decide) (fun c37 => False.elim (by revert c37; decide)) (fun _ => ?_)
          refine lv_iconst (v := 0) hx hb dX10_put_49 (by decide) ?_
          rw [← hQ]
          exact end_i hX hB hA3 rfl rfl ⟨0, a, r, f, (va_up q 3 t35), rfl, rfl, hm, rfl, rfl⟩ (Nat.le_of_ble_eq_true rfl) (Nat.le_of_ble_eq_true rfl) dX10_put_50
    · refine W.eq (g2 := F0 m 16 ls [.int 1, .ref (a 0)]) rfl ?_
      refine lv_if_ne (tgt := 23) hx hb dX10_put_16 (by decide) (fun _ => ?_) (fun c38 => False.elim (by revert c38; decide))
      refine lv_iconst (v := 0) hx hb dX10_put_23 (by decide) ?_
      refine lv_iload hx hb dX10_put_24 (lv_at hl 4 rfl) ?_
      refine lv_bipush (v := (-20)) hx hb dX10_put_26 (by decide) ?_
      refine lv_icmp_lt (tgt := 38) hx hb dX10_put_28 (by decide) (fun c39 => ?_) (fun c39 => ?_)
      · refine lv_iconst (v := 1) hx hb dX10_put_38 (by decide) ?_
        refine lv_goto (tgt := 43) hx hb dX10_put_39 (by decide) ?_
        refine call_V (n := 2) (k0 := 0) (As := [.int 0, .int 1]) (rest := []) hX hB (k_X10_isThrown_ κ l (mw κ a r f q (tb a) w) 0 (a 0) (a 1) (q 0) (q 1) (q 2) (q 3) 0 1 (mw0x (a := a) (r := r) (f := f) (q := q) (T := tb a) (w := w) rfl)) ⟨rfl, by decide, by decide, by decide +kernel⟩ wm_5_188 wm_5_190 wp_27 wm_1_6 wm_5_191 ⟨Nat.le_of_ble_eq_true rfl, Nat.le_of_ble_eq_true rfl⟩ ⟨Nat.le_of_ble_eq_true rfl, Nat.le_of_ble_eq_true rfl⟩ (mw0x (a := a) (r := r) (f := f) (q := q) (T := tb a) (w := w) rfl) rfl rfl rfl hl.1 rfl (Nat.le_of_ble_eq_true rfl) dX10_put_43 (fun o w' H locs hp hB => ?_)
        obtain ⟨x40, t41, rfl, hf42, hw9⟩ := hp
        replace hB : Bd κ A s (mw κ a r f (va_up q 3 t41) (tb a) w) H locs := by exact Bd_eq (mwQ3x rfl _) (by rw [hw9] at hB; exact hB)
        obtain rfl : x40 = 1 := hf42.trans (by decide)
        refine W.eq (g2 := F0 m 46 ls [.int 1]) rfl ?_
        refine lv_if_eq (tgt := 51) hx hb dX10_put_46 (by decide) (fun c43 => False.elim (by revert c43; decide)) (fun _ => ?_)
        refine lv_iconst (v := 0) hx hb dX10_put_49 (by decide) ?_
        rw [← hQ]
        exact end_i hX hB hA3 rfl rfl ⟨0, a, r, f, (va_up q 3 t41), rfl, rfl, hm, rfl, rfl⟩ (Nat.le_of_ble_eq_true rfl) (Nat.le_of_ble_eq_true rfl) dX10_put_50
      · refine lv_iload hx hb dX10_put_31 (lv_at hl 4 rfl) ?_
        refine lv_bipush (v := 20) hx hb dX10_put_33 (by decide) ?_
        refine lv_icmp_le (tgt := 42) hx hb dX10_put_35 (by decide) (fun c44 => ?_) (fun c44 => ?_)
        · refine lv_iconst (v := 0) hx hb dX10_put_42 (by decide) ?_
          refine call_V (n := 2) (k0 := 0) (As := [.int 0, .int 0]) (rest := []) hX hB (k_X10_isThrown_ κ l (mw κ a r f q (tb a) w) 0 (a 0) (a 1) (q 0) (q 1) (q 2) (q 3) 0 0 (mw0x (a := a) (r := r) (f := f) (q := q) (T := tb a) (w := w) rfl)) ⟨rfl, by decide, by decide, by decide +kernel⟩ wm_5_188 wm_5_190 wp_27 wm_1_6 wm_5_191 ⟨Nat.le_of_ble_eq_true rfl, Nat.le_of_ble_eq_true rfl⟩ ⟨Nat.le_of_ble_eq_true rfl, Nat.le_of_ble_eq_true rfl⟩ (mw0x (a := a) (r := r) (f := f) (q := q) (T := tb a) (w := w) rfl) rfl rfl rfl hl.1 rfl (Nat.le_of_ble_eq_true rfl) dX10_put_43 (fun o w' H locs hp hB => ?_)
          obtain ⟨x45, t46, rfl, hf47, hw9⟩ := hp
          replace hB : Bd κ A s (mw κ a r f (va_up q 3 t46) (tb a) w) H locs := by exact Bd_eq (mwQ3x rfl _) (by rw [hw9] at hB; exact hB)
          obtain rfl : x45 = 0 := hf47.trans (by decide)
          refine W.eq (g2 := F0 m 46 ls [.int 0]) rfl ?_
          refine lv_if_eq (tgt := 51) hx hb dX10_put_46 (by decide) (fun _ => ?_) (fun c48 => False.elim (by revert c48; decide))
          refine lv_aload_n hx hb dX10_put_51 rfl (lv_at hl 0 rfl) ?_
          refine gf (k0 := 0) hX hB (mw0x (a := a) (r := r) (f := f) (q := (va_up q 3 t46)) (T := tb a) (w := w) rfl) rfl in10 0 (by decide) wm_5_162 rfl rfl dX10_put_52 ?_
          refine lv_iload_n hx hb dX10_put_55 rfl (lv_at hl 1 rfl) ?_
          refine aaldM (k0 := 1) hX hB (mw1 (a := a) (r := r) (f := f) (q := (va_up q 3 t46)) (T := tb a) (w := w)) (vp_in_mk (by assumption) (by assumption)) rfl dX10_put_56 ?_
          have hb49 := mok_r hm y.toNatClampNeg (by omega)
          refine lv_iload_n hx hb dX10_put_57 rfl (lv_at hl 2 rfl) ?_
          refine lv_iload_n hx hb dX10_put_58 rfl (lv_at hl 3 rfl) ?_
          refine call_V (n := 2) (k0 := (2 + 2 * y.toNatClampNeg)) (As := [.int z, .int u]) (rest := []) hX hB (k_X7_at κ l (mw κ a r f (va_up q 3 t46) (tb a) w) (2 + 2 * y.toNatClampNeg) (3 + 2 * y.toNatClampNeg) (a (2 + 2 * y.toNatClampNeg)) (a (3 + 2 * y.toNatClampNeg)) (r (2 * y.toNatClampNeg)) (r (2 * y.toNatClampNeg + 1)) (f y.toNatClampNeg) z ((z).toNatClampNeg) u ((u).toNatClampNeg) (mwG (i := y.toNatClampNeg) (a := a) (r := r) (f := f) (q := (va_up q 3 t46)) (T := tb a) (w := w) (by omega)) (mwA (i := y.toNatClampNeg) (a := a) (r := r) (f := f) (q := (va_up q 3 t46)) (T := tb a) (w := w) (by omega)) (mok_shp (i := y.toNatClampNeg) hm (by omega)) (nI_rep (by assumption)) (nI_rep (by assumption)) (by omega)) ⟨rfl, by decide, by decide, by decide +kernel⟩ wm_5_233 wm_5_234 wm_5_235 wm_1_7 wm_5_236 ⟨Nat.le_of_ble_eq_true rfl, Nat.le_of_ble_eq_true rfl⟩ ⟨Nat.le_of_ble_eq_true rfl, Nat.le_of_ble_eq_true rfl⟩ (mwG (i := y.toNatClampNeg) (a := a) (r := r) (f := f) (q := (va_up q 3 t46)) (T := tb a) (w := w) (by omega)) rfl rfl rfl hl.1 rfl (Nat.le_of_ble_eq_true rfl) dX10_put_59 (fun o w' H locs hp hB => ?_)
          obtain ⟨rfl, hw9⟩ := hp
          replace hB : Bd κ A s (mw κ a r f (va_up q 3 t46) (tb a) w) H locs := by rw [hw9] at hB; exact hB
          refine W.eq (g2 := F0 m 62 ls [.long ((f y.toNatClampNeg) (((z).toNatClampNeg) * 5 + ((u).toNatClampNeg)))]) rfl ?_
          refine lv_iload hx hb dX10_put_62 (lv_at hl 4 rfl) ?_
          refine lv_i2l hx hb dX10_put_64 rfl ?_
          refine W.lcmp hx hb dX10_put_65 ?_
          refine lv_if_eq (tgt := 73) hx hb dX10_put_66 (by decide) (fun c50 => ?_) (fun c50 => ?_)
          · refine lv_iconst (v := 0) hx hb dX10_put_73 (by decide) ?_
            refine lv_istore (lv' := [(5, .int 0), (0, .ref (a 0)), (1, .int y), (2, .int z), (3, .int u), (4, .int v)]) hx hb dX10_put_74 hl (by decide) rfl (fun ls hl => ?_)
            refine lv_aload_n hx hb dX10_put_76 rfl (lv_at hl 1 rfl) ?_
            refine gf (k0 := 0) hX hB (mw0x (a := a) (r := r) (f := f) (q := (va_up q 3 t46)) (T := tb a) (w := w) rfl) rfl in10 0 (by decide) wm_5_162 rfl rfl dX10_put_77 ?_
            refine lv_iload_n hx hb dX10_put_80 rfl (lv_at hl 2 rfl) ?_
            refine aaldM (k0 := 1) hX hB (mw1 (a := a) (r := r) (f := f) (q := (va_up q 3 t46)) (T := tb a) (w := w)) (vp_in_mk (by assumption) (by assumption)) rfl dX10_put_81 ?_
            have hb51 := mok_r hm y.toNatClampNeg (by omega)
            refine lv_iload_n hx hb dX10_put_82 rfl (lv_at hl 3 rfl) ?_
            refine lv_iload_n hx hb dX10_put_83 rfl (lv_at hl 4 rfl) ?_
            refine lv_iload hx hb dX10_put_84 (lv_at hl 5 rfl) ?_
            refine lv_i2l hx hb dX10_put_86 rfl ?_
            refine call_V (n := 3) (k0 := (2 + 2 * y.toNatClampNeg)) (As := [.int z, .int u, .long ((v).toInt64)]) (rest := []) hX hB (k_X7_put κ l (mw κ a r f (va_up q 3 t46) (tb a) w) (2 + 2 * y.toNatClampNeg) (3 + 2 * y.toNatClampNeg) (a (2 + 2 * y.toNatClampNeg)) (a (3 + 2 * y.toNatClampNeg)) (r (2 * y.toNatClampNeg)) (r (2 * y.toNatClampNeg + 1)) (f y.toNatClampNeg) z ((z).toNatClampNeg) u ((u).toNatClampNeg) ((v).toInt64) (mwG (i := y.toNatClampNeg) (a := a) (r := r) (f := f) (q := (va_up q 3 t46)) (T := tb a) (w := w) (by omega)) (mwA (i := y.toNatClampNeg) (a := a) (r := r) (f := f) (q := (va_up q 3 t46)) (T := tb a) (w := w) (by omega)) (mok_shp (i := y.toNatClampNeg) hm (by omega)) (nI_rep (by assumption)) (nI_rep (by assumption)) (by omega)) ⟨rfl, by decide, by decide, by decide +kernel⟩ wm_5_237 wm_5_218 wm_5_219 wm_1_7 wm_5_220 ⟨Nat.le_of_ble_eq_true rfl, Nat.le_of_ble_eq_true rfl⟩ ⟨Nat.le_of_ble_eq_true rfl, Nat.le_of_ble_eq_true rfl⟩ (mwG (i := y.toNatClampNeg) (a := a) (r := r) (f := f) (q := (va_up q 3 t46)) (T := tb a) (w := w) (by omega)) rfl rfl rfl hl.1 rfl (Nat.le_of_ble_eq_true rfl) dX10_put_87 (fun o w' H locs hp hB => ?_)
            obtain ⟨rfl, hw9⟩ := hp
            replace hB : Bd κ A s (mw κ a r (va_up f y.toNatClampNeg (vp_updL (f y.toNatClampNeg) (((z).toNatClampNeg) * 5 + ((u).toNatClampNeg)) ((v).toInt64))) (va_up q 3 t46) (tb a) w) H locs := by exact Bd_eq (mwUL (i := y.toNatClampNeg) (by omega) _) (by rw [hw9] at hB; exact hB)
            refine W.eq (g2 := F0 m 90 ls []) rfl ?_
            refine lv_aload_n hx hb dX10_put_90 rfl (lv_at hl 1 rfl) ?_
            refine lv_iload hx hb dX10_put_91 (lv_at hl 0 rfl) ?_
            refine lv_if_eq (tgt := 100) hx hb dX10_put_93 (by decide) (fun _ => ?_) (fun c52 => False.elim (by revert c52; decide))
            refine lv_iconst (v := 0) hx hb dX10_put_100 (by decide) ?_
            refine call_V (n := 1) (k0 := 0) (As := [.int 0]) (rest := []) hX hB (k_X10_told κ l (mw κ a r (va_up f y.toNatClampNeg (vp_updL (f y.toNatClampNeg) (((z).toNatClampNeg) * 5 + ((u).toNatClampNeg)) ((v).toInt64))) (va_up q 3 t46) (tb a) w) 0 (a 0) (a 1) ((va_up q 3 t46) 0) ((va_up q 3 t46) 1) ((va_up q 3 t46) 2) ((va_up q 3 t46) 3) 0 (mw0x (a := a) (r := r) (f := (va_up f y.toNatClampNeg (vp_updL (f y.toNatClampNeg) (((z).toNatClampNeg) * 5 + ((u).toNatClampNeg)) ((v).toInt64)))) (q := (va_up q 3 t46)) (T := tb a) (w := w) rfl)) ⟨rfl, by decide, by decide, by decide +kernel⟩ wm_5_204 wm_5_206 wp_30 wm_1_6 wm_5_207 ⟨Nat.le_of_ble_eq_true rfl, Nat.le_of_ble_eq_true rfl⟩ ⟨Nat.le_of_ble_eq_true rfl, Nat.le_of_ble_eq_true rfl⟩ (mw0x (a := a) (r := r) (f := (va_up f y.toNatClampNeg (vp_updL (f y.toNatClampNeg) (((z).toNatClampNeg) * 5 + ((u).toNatClampNeg)) ((v).toInt64)))) (q := (va_up q 3 t46)) (T := tb a) (w := w) rfl) rfl rfl rfl hl.1 rfl (Nat.le_of_ble_eq_true rfl) dX10_put_101 (fun o w' H locs hp hB => ?_)
            obtain ⟨rfl, hw9⟩ := hp
            replace hB : Bd κ A s (mw κ a r (va_up f y.toNatClampNeg (vp_updL (f y.toNatClampNeg) (((z).toNatClampNeg) * 5 + ((u).toNatClampNeg)) ((v).toInt64))) (va_up (va_up q 3 t46) 0 (((va_up q 3 t46) 0) + 1)) (tb a) w) H locs := by exact Bd_eq (mwQ0x rfl _) (by rw [hw9] at hB; exact hB)
            refine W.eq (g2 := F0 m 104 ls [.int 0]) rfl ?_
            rw [← hQ]
            exact end_i hX hB hA3 rfl rfl ⟨0, a, r, (va_up f y.toNatClampNeg (vp_updL (f y.toNatClampNeg) (((z).toNatClampNeg) * 5 + ((u).toNatClampNeg)) ((v).toInt64))), (va_up (va_up q 3 t46) 0 (((va_up q 3 t46) 0) + 1)), rfl, rfl, (mok_f hm (sm_upd (hm _ (by omega)).2 (sm_i (by assumption) (Int32.not_lt.mpr (by assumption))))), rfl, rfl⟩ (Nat.le_of_ble_eq_true rfl) (Nat.le_of_ble_eq_true rfl) dX10_put_104
          · refine lv_iconst (v := 1) hx hb dX10_put_69 (by decide) ?_
            refine lv_goto (tgt := 74) hx hb dX10_put_70 (by decide) ?_
            refine lv_istore (lv' := [(5, .int 1), (0, .ref (a 0)), (1, .int y), (2, .int z), (3, .int u), (4, .int v)]) hx hb dX10_put_74 hl (by decide) rfl (fun ls hl => ?_)
            refine lv_aload_n hx hb dX10_put_76 rfl (lv_at hl 1 rfl) ?_
            refine gf (k0 := 0) hX hB (mw0x (a := a) (r := r) (f := f) (q := (va_up q 3 t46)) (T := tb a) (w := w) rfl) rfl in10 0 (by decide) wm_5_162 rfl rfl dX10_put_77 ?_
            refine lv_iload_n hx hb dX10_put_80 rfl (lv_at hl 2 rfl) ?_
            refine aaldM (k0 := 1) hX hB (mw1 (a := a) (r := r) (f := f) (q := (va_up q 3 t46)) (T := tb a) (w := w)) (vp_in_mk (by assumption) (by assumption)) rfl dX10_put_81 ?_
            have hb53 := mok_r hm y.toNatClampNeg (by omega)
            refine lv_iload_n hx hb dX10_put_82 rfl (lv_at hl 3 rfl) ?_
            refine lv_iload_n hx hb dX10_put_83 rfl (lv_at hl 4 rfl) ?_
            refine lv_iload hx hb dX10_put_84 (lv_at hl 5 rfl) ?_
            refine lv_i2l hx hb dX10_put_86 rfl ?_
            refine call_V (n := 3) (k0 := (2 + 2 * y.toNatClampNeg)) (As := [.int z, .int u, .long ((v).toInt64)]) (rest := []) hX hB (k_X7_put κ l (mw κ a r f (va_up q 3 t46) (tb a) w) (2 + 2 * y.toNatClampNeg) (3 + 2 * y.toNatClampNeg) (a (2 + 2 * y.toNatClampNeg)) (a (3 + 2 * y.toNatClampNeg)) (r (2 * y.toNatClampNeg)) (r (2 * y.toNatClampNeg + 1)) (f y.toNatClampNeg) z ((z).toNatClampNeg) u ((u).toNatClampNeg) ((v).toInt64) (mwG (i := y.toNatClampNeg) (a := a) (r := r) (f := f) (q := (va_up q 3 t46)) (T := tb a) (w := w) (by omega)) (mwA (i := y.toNatClampNeg) (a := a) (r := r) (f := f) (q := (va_up q 3 t46)) (T := tb a) (w := w) (by omega)) (mok_shp (i := y.toNatClampNeg) hm (by omega)) (nI_rep (by assumption)) (nI_rep (by assumption)) (by omega)) ⟨rfl, by decide, by decide, by decide +kernel⟩ wm_5_237 wm_5_218 wm_5_219 wm_1_7 wm_5_220 ⟨Nat.le_of_ble_eq_true rfl, Nat.le_of_ble_eq_true rfl⟩ ⟨Nat.le_of_ble_eq_true rfl, Nat.le_of_ble_eq_true rfl⟩ (mwG (i := y.toNatClampNeg) (a := a) (r := r) (f := f) (q := (va_up q 3 t46)) (T := tb a) (w := w) (by omega)) rfl rfl rfl hl.1 rfl (Nat.le_of_ble_eq_true rfl) dX10_put_87 (fun o w' H locs hp hB => ?_)
            obtain ⟨rfl, hw9⟩ := hp
            replace hB : Bd κ A s (mw κ a r (va_up f y.toNatClampNeg (vp_updL (f y.toNatClampNeg) (((z).toNatClampNeg) * 5 + ((u).toNatClampNeg)) ((v).toInt64))) (va_up q 3 t46) (tb a) w) H locs := by exact Bd_eq (mwUL (i := y.toNatClampNeg) (by omega) _) (by rw [hw9] at hB; exact hB)
            refine W.eq (g2 := F0 m 90 ls []) rfl ?_
            refine lv_aload_n hx hb dX10_put_90 rfl (lv_at hl 1 rfl) ?_
            refine lv_iload hx hb dX10_put_91 (lv_at hl 0 rfl) ?_
            refine lv_if_eq (tgt := 100) hx hb dX10_put_93 (by decide) (fun c54 => False.elim (by revert c54; decide)) (fun _ => ?_)
            refine lv_iconst (v := 1) hx hb dX10_put_96 (by decide) ?_
            refine lv_goto (tgt := 101) hx hb dX10_put_97 (by decide) ?_
            refine call_V (n := 1) (k0 := 0) (As := [.int 1]) (rest := []) hX hB (k_X10_told κ l (mw κ a r (va_up f y.toNatClampNeg (vp_updL (f y.toNatClampNeg) (((z).toNatClampNeg) * 5 + ((u).toNatClampNeg)) ((v).toInt64))) (va_up q 3 t46) (tb a) w) 0 (a 0) (a 1) ((va_up q 3 t46) 0) ((va_up q 3 t46) 1) ((va_up q 3 t46) 2) ((va_up q 3 t46) 3) 1 (mw0x (a := a) (r := r) (f := (va_up f y.toNatClampNeg (vp_updL (f y.toNatClampNeg) (((z).toNatClampNeg) * 5 + ((u).toNatClampNeg)) ((v).toInt64)))) (q := (va_up q 3 t46)) (T := tb a) (w := w) rfl)) ⟨rfl, by decide, by decide, by decide +kernel⟩ wm_5_204 wm_5_206 wp_30 wm_1_6 wm_5_207 ⟨Nat.le_of_ble_eq_true rfl, Nat.le_of_ble_eq_true rfl⟩ ⟨Nat.le_of_ble_eq_true rfl, Nat.le_of_ble_eq_true rfl⟩ (mw0x (a := a) (r := r) (f := (va_up f y.toNatClampNeg (vp_updL (f y.toNatClampNeg) (((z).toNatClampNeg) * 5 + ((u).toNatClampNeg)) ((v).toInt64)))) (q := (va_up q 3 t46)) (T := tb a) (w := w) rfl) rfl rfl rfl hl.1 rfl (Nat.le_of_ble_eq_true rfl) dX10_put_101 (fun o w' H locs hp hB => ?_)
            obtain ⟨rfl, hw9⟩ := hp
            replace hB : Bd κ A s (mw κ a r (va_up f y.toNatClampNeg (vp_updL (f y.toNatClampNeg) (((z).toNatClampNeg) * 5 + ((u).toNatClampNeg)) ((v).toInt64))) (va_up (va_up q 3 t46) 0 (((va_up q 3 t46) 0) + 1)) (tb a) w) H locs := by exact Bd_eq (mwQ0x rfl _) (by rw [hw9] at hB; exact hB)
            refine W.eq (g2 := F0 m 104 ls [.int 1]) rfl ?_
            rw [← hQ]
            exact end_i hX hB hA3 rfl rfl ⟨1, a, r, (va_up f y.toNatClampNeg (vp_updL (f y.toNatClampNeg) (((z).toNatClampNeg) * 5 + ((u).toNatClampNeg)) ((v).toInt64))), (va_up (va_up q 3 t46) 0 (((va_up q 3 t46) 0) + 1)), rfl, rfl, (mok_f hm (sm_upd (hm _ (by omega)).2 (sm_i (by assumption) (Int32.not_lt.mpr (by assumption))))), rfl, rfl⟩ (Nat.le_of_ble_eq_true rfl) (Nat.le_of_ble_eq_true rfl) dX10_put_104
        · refine lv_iconst (v := 1) hx hb dX10_put_38 (by decide) ?_
          refine lv_goto (tgt := 43) hx hb dX10_put_39 (by decide) ?_
          refine call_V (n := 2) (k0 := 0) (As := [.int 0, .int 1]) (rest := []) hX hB (k_X10_isThrown_ κ l (mw κ a r f q (tb a) w) 0 (a 0) (a 1) (q 0) (q 1) (q 2) (q 3) 0 1 (mw0x (a := a) (r := r) (f := f) (q := q) (T := tb a) (w := w) rfl)) ⟨rfl, by decide, by decide, by decide +kernel⟩ wm_5_188 wm_5_190 wp_27 wm_1_6 wm_5_191 ⟨Nat.le_of_ble_eq_true rfl, Nat.le_of_ble_eq_true rfl⟩ ⟨Nat.le_of_ble_eq_true rfl, Nat.le_of_ble_eq_true rfl⟩ (mw0x (a := a) (r := r) (f := f) (q := q) (T := tb a) (w := w) rfl) rfl rfl rfl hl.1 rfl (Nat.le_of_ble_eq_true rfl) dX10_put_43 (fun o w' H locs hp hB => ?_)
          obtain ⟨x55, t56, rfl, hf57, hw9⟩ := hp
          replace hB : Bd κ A s (mw κ a r f (va_up q 3 t56) (tb a) w) H locs := by exact Bd_eq (mwQ3x rfl _) (by rw [hw9] at hB; exact hB)
          obtain rfl : x55 = 1 := hf57.trans (by decide)
          refine W.eq (g2 := F0 m 46 ls [.int 1]) rfl ?_
          refine lv_if_eq (tgt := 51) hx hb dX10_put_46 (by decide) (fun c58 => False.elim (by revert c58; decide)) (fun _ => ?_)
          refine lv_iconst (v := 0) hx hb dX10_put_49 (by decide) ?_
          rw [← hQ]
          exact end_i hX hB hA3 rfl rfl ⟨0, a, r, f, (va_up q 3 t56), rfl, rfl, hm, rfl, rfl⟩ (Nat.le_of_ble_eq_true rfl) (Nat.le_of_ble_eq_true rfl) dX10_put_50
set_option maxHeartbeats 4000000 in
set_option maxRecDepth 100000 in
theorem k_X10_copy (κ : Kt) (l : Launch) (w : va_W) (a r : Nat → Nat) (f : Nat → Nat → Int64) (q : Nat → Int32) (y : Int32) (z : Int32) (hm : mok r f) : CM κ l yX10_copy cX10_copy 4 (some .int) 3 64 2 23 [.ref (a 0), .int y, .int z] (mw κ a r f q (tb a) w) (fun o w' => ∃ (x : Int32) (a' : Nat → Nat) (r' : Nat → Nat) (f' : Nat → Nat → Int64) (q' : Nat → Int32), o = some (.int x) ∧ (a' 0 = a 0) ∧ (mok r' f') ∧ (q' 2 = q 2) ∧ w' = mw κ a' r' f' q' (tb a') w) := by
  refine CM_begin (plainFor_of_name (by decide)) (Nat.le_of_ble_eq_true rfl) ?_
  intro p e s m args below meth c A Q hX hnm hA3 hQ hB ls hl
  have hx := hX.1.1
  have hb := hX.1.2.1
  have hl : lv_has ls 4 [(0, .ref (a 0)), (1, .int y), (2, .int z)] := hl
  refine lv_aload_n hx hb dX10_copy_0 rfl (lv_at hl 0 rfl) ?_
  refine lv_iload_n hx hb dX10_copy_1 rfl (lv_at hl 1 rfl) ?_
  refine call_S (n := 1) (As := [.int y]) (rest := [.ref (a 0)]) hX hB (k_X10_isTable κ l (mw κ a r f q (tb a) w) y) ⟨by decide, by decide, by decide +kernel⟩ wm_5_182 wm_5_183 wm_1_6 wm_5_184 ⟨Nat.le_of_ble_eq_true rfl, Nat.le_of_ble_eq_true rfl⟩ ⟨Nat.le_of_ble_eq_true rfl, Nat.le_of_ble_eq_true rfl⟩ rfl hl.1 rfl (Nat.le_of_ble_eq_true rfl) dX10_copy_2 (fun o w' H locs hp hB => ?_)
  obtain ⟨z1, rfl, hf2, hw9⟩ := hp
  replace hB : Bd κ A s (mw κ a r f q (tb a) w) H locs := by rw [hw9] at hB; exact hB
  rcases hf2 with rfl | ⟨rfl, hz3a, hz3b⟩
  · refine W.eq (g2 := F0 m 5 ls [.int 0, .ref (a 0)]) rfl ?_
    refine lv_if_eq (tgt := 15) hx hb dX10_copy_5 (by decide) (fun _ => ?_) (fun c4 => False.elim (by revert c4; decide))
    refine lv_iconst (v := 1) hx hb dX10_copy_15 (by decide) ?_
    refine lv_goto (tgt := 20) hx hb dX10_copy_16 (by decide) ?_
    refine call_V (n := 1) (k0 := 0) (As := [.int 1]) (rest := []) hX hB (k_X10_isThrown__ κ l (mw κ a r f q (tb a) w) 0 (a 0) (a 1) (q 0) (q 1) (q 2) (q 3) 1 (mw0x (a := a) (r := r) (f := f) (q := q) (T := tb a) (w := w) rfl)) ⟨rfl, by decide, by decide, by decide +kernel⟩ wm_6_11 wm_6_13 wp_33 wm_1_6 wm_6_14 ⟨Nat.le_of_ble_eq_true rfl, Nat.le_of_ble_eq_true rfl⟩ ⟨Nat.le_of_ble_eq_true rfl, Nat.le_of_ble_eq_true rfl⟩ (mw0x (a := a) (r := r) (f := f) (q := q) (T := tb a) (w := w) rfl) rfl rfl rfl hl.1 rfl (Nat.le_of_ble_eq_true rfl) dX10_copy_20 (fun o w' H locs hp hB => ?_)
    obtain ⟨x5, t6, rfl, hf7, hw9⟩ := hp
    replace hB : Bd κ A s (mw κ a r f (va_up q 3 t6) (tb a) w) H locs := by exact Bd_eq (mwQ3x rfl _) (by rw [hw9] at hB; exact hB)
    obtain rfl : x5 = 1 := hf7.trans (by decide)
    refine W.eq (g2 := F0 m 23 ls [.int 1]) rfl ?_
    refine lv_if_eq (tgt := 28) hx hb dX10_copy_23 (by decide) (fun c8 => False.elim (by revert c8; decide)) (fun _ => ?_)
    refine lv_iconst (v := 0) hx hb dX10_copy_26 (by decide) ?_
    rw [← hQ]
    exact end_i hX hB hA3 rfl rfl ⟨0, a, r, f, (va_up q 3 t6), rfl, rfl, hm, rfl, rfl⟩ (Nat.le_of_ble_eq_true rfl) (Nat.le_of_ble_eq_true rfl) dX10_copy_27
  · refine W.eq (g2 := F0 m 5 ls [.int 1, .ref (a 0)]) rfl ?_
    refine lv_if_eq (tgt := 15) hx hb dX10_copy_5 (by decide) (fun c9 => False.elim (by revert c9; decide)) (fun _ => ?_)
    refine lv_iload_n hx hb dX10_copy_8 rfl (lv_at hl 2 rfl) ?_
    refine call_S (n := 1) (As := [.int z]) (rest := [.ref (a 0)]) hX hB (k_X10_isTable κ l (mw κ a r f q (tb a) w) z) ⟨by decide, by decide, by decide +kernel⟩ wm_5_182 wm_5_183 wm_1_6 wm_5_184 ⟨Nat.le_of_ble_eq_true rfl, Nat.le_of_ble_eq_true rfl⟩ ⟨Nat.le_of_ble_eq_true rfl, Nat.le_of_ble_eq_true rfl⟩ rfl hl.1 rfl (Nat.le_of_ble_eq_true rfl) dX10_copy_9 (fun o w' H locs hp hB => ?_)
    obtain ⟨z10, rfl, hf11, hw9⟩ := hp
    replace hB : Bd κ A s (mw κ a r f q (tb a) w) H locs := by rw [hw9] at hB; exact hB
    rcases hf11 with rfl | ⟨rfl, hz12a, hz12b⟩
    · refine W.eq (g2 := F0 m 12 ls [.int 0, .ref (a 0)]) rfl ?_
      refine lv_if_ne (tgt := 19) hx hb dX10_copy_12 (by decide) (fun c13 => False.elim (by revert c13; decide)) (fun _ => ?_)
      refine lv_iconst (v := 1) hx hb dX10_copy_15 (by decide) ?_
      refine lv_goto (tgt := 20) hx hb dX10_copy_16 (by decide) ?_
      refine call_V (n := 1) (k0 := 0) (As := [.int 1]) (rest := []) hX hB (k_X10_isThrown__ κ l (mw κ a r f q (tb a) w) 0 (a 0) (a 1) (q 0) (q 1) (q 2) (q 3) 1 (mw0x (a := a) (r := r) (f := f) (q := q) (T := tb a) (w := w) rfl)) ⟨rfl, by decide, by decide, by decide +kernel⟩ wm_6_11 wm_6_13 wp_33 wm_1_6 wm_6_14 ⟨Nat.le_of_ble_eq_true rfl, Nat.le_of_ble_eq_true rfl⟩ ⟨Nat.le_of_ble_eq_true rfl, Nat.le_of_ble_eq_true rfl⟩ (mw0x (a := a) (r := r) (f := f) (q := q) (T := tb a) (w := w) rfl) rfl rfl rfl hl.1 rfl (Nat.le_of_ble_eq_true rfl) dX10_copy_20 (fun o w' H locs hp hB => ?_)
      obtain ⟨x14, t15, rfl, hf16, hw9⟩ := hp
      replace hB : Bd κ A s (mw κ a r f (va_up q 3 t15) (tb a) w) H locs := by exact Bd_eq (mwQ3x rfl _) (by rw [hw9] at hB; exact hB)
      obtain rfl : x14 = 1 := hf16.trans (by decide)
      refine W.eq (g2 := F0 m 23 ls [.int 1]) rfl ?_
      refine lv_if_eq (tgt := 28) hx hb dX10_copy_23 (by decide) (fun c17 => False.elim (by revert c17; decide)) (fun _ => ?_)
      refine lv_iconst (v := 0) hx hb dX10_copy_26 (by decide) ?_
      rw [← hQ]
      exact end_i hX hB hA3 rfl rfl ⟨0, a, r, f, (va_up q 3 t15), rfl, rfl, hm, rfl, rfl⟩ (Nat.le_of_ble_eq_true rfl) (Nat.le_of_ble_eq_true rfl) dX10_copy_27
    · refine W.eq (g2 := F0 m 12 ls [.int 1, .ref (a 0)]) rfl ?_
      refine lv_if_ne (tgt := 19) hx hb dX10_copy_12 (by decide) (fun _ => ?_) (fun c18 => False.elim (by revert c18; decide))
      refine lv_iconst (v := 0) hx hb dX10_copy_19 (by decide) ?_
      refine call_V (n := 1) (k0 := 0) (As := [.int 0]) (rest := []) hX hB (k_X10_isThrown__ κ l (mw κ a r f q (tb a) w) 0 (a 0) (a 1) (q 0) (q 1) (q 2) (q 3) 0 (mw0x (a := a) (r := r) (f := f) (q := q) (T := tb a) (w := w) rfl)) ⟨rfl, by decide, by decide, by decide +kernel⟩ wm_6_11 wm_6_13 wp_33 wm_1_6 wm_6_14 ⟨Nat.le_of_ble_eq_true rfl, Nat.le_of_ble_eq_true rfl⟩ ⟨Nat.le_of_ble_eq_true rfl, Nat.le_of_ble_eq_true rfl⟩ (mw0x (a := a) (r := r) (f := f) (q := q) (T := tb a) (w := w) rfl) rfl rfl rfl hl.1 rfl (Nat.le_of_ble_eq_true rfl) dX10_copy_20 (fun o w' H locs hp hB => ?_)
      obtain ⟨x19, t20, rfl, hf21, hw9⟩ := hp
      replace hB : Bd κ A s (mw κ a r f (va_up q 3 t20) (tb a) w) H locs := by exact Bd_eq (mwQ3x rfl _) (by rw [hw9] at hB; exact hB)
      obtain rfl : x19 = 0 := hf21.trans (by decide)
      refine W.eq (g2 := F0 m 23 ls [.int 0]) rfl ?_
      refine lv_if_eq (tgt := 28) hx hb dX10_copy_23 (by decide) (fun _ => ?_) (fun c22 => False.elim (by revert c22; decide))
      refine lv_aload_n hx hb dX10_copy_28 rfl (lv_at hl 0 rfl) ?_
      refine gf (k0 := 0) hX hB (mw0x (a := a) (r := r) (f := f) (q := (va_up q 3 t20)) (T := tb a) (w := w) rfl) rfl in10 0 (by decide) wm_5_162 rfl rfl dX10_copy_29 ?_
      refine lv_iload_n hx hb dX10_copy_32 rfl (lv_at hl 1 rfl) ?_
      refine aaldM (k0 := 1) hX hB (mw1 (a := a) (r := r) (f := f) (q := (va_up q 3 t20)) (T := tb a) (w := w)) (vp_in_mk (by assumption) (by assumption)) rfl dX10_copy_33 ?_
      have hb23 := mok_r hm y.toNatClampNeg (by omega)
      refine lv_aload_n hx hb dX10_copy_34 rfl (lv_at hl 0 rfl) ?_
      refine gf (k0 := 0) hX hB (mw0x (a := a) (r := r) (f := f) (q := (va_up q 3 t20)) (T := tb a) (w := w) rfl) rfl in10 0 (by decide) wm_5_162 rfl rfl dX10_copy_35 ?_
      refine lv_iload_n hx hb dX10_copy_38 rfl (lv_at hl 2 rfl) ?_
      refine aaldM (k0 := 1) hX hB (mw1 (a := a) (r := r) (f := f) (q := (va_up q 3 t20)) (T := tb a) (w := w)) (vp_in_mk (by assumption) (by assumption)) rfl dX10_copy_39 ?_
      have hb24 := mok_r hm z.toNatClampNeg (by omega)
      refine call_V (n := 1) (k0 := (2 + 2 * y.toNatClampNeg)) (As := [.ref (a (2 + 2 * z.toNatClampNeg))]) (rest := []) hX hB (k_X7_isSame κ l (mw κ a r f (va_up q 3 t20) (tb a) w) (2 + 2 * y.toNatClampNeg) (3 + 2 * y.toNatClampNeg) (a (2 + 2 * y.toNatClampNeg)) (a (3 + 2 * y.toNatClampNeg)) (r (2 * y.toNatClampNeg)) (r (2 * y.toNatClampNeg + 1)) (f y.toNatClampNeg) (2 + 2 * z.toNatClampNeg) (3 + 2 * z.toNatClampNeg) (a (2 + 2 * z.toNatClampNeg)) (a (3 + 2 * z.toNatClampNeg)) (r (2 * z.toNatClampNeg)) (r (2 * z.toNatClampNeg + 1)) (f z.toNatClampNeg) (mwG (i := y.toNatClampNeg) (a := a) (r := r) (f := f) (q := (va_up q 3 t20)) (T := tb a) (w := w) (by omega)) (mwA (i := y.toNatClampNeg) (a := a) (r := r) (f := f) (q := (va_up q 3 t20)) (T := tb a) (w := w) (by omega)) (mok_shp (i := y.toNatClampNeg) hm (by omega)) (mwG (i := z.toNatClampNeg) (a := a) (r := r) (f := f) (q := (va_up q 3 t20)) (T := tb a) (w := w) (by omega)) (mwA (i := z.toNatClampNeg) (a := a) (r := r) (f := f) (q := (va_up q 3 t20)) (T := tb a) (w := w) (by omega)) (mok_shp (i := z.toNatClampNeg) hm (by omega))) ⟨rfl, by decide, by decide, by decide +kernel⟩ wm_6_15 wm_6_16 wm_6_17 wm_1_7 wm_6_18 ⟨Nat.le_of_ble_eq_true rfl, Nat.le_of_ble_eq_true rfl⟩ ⟨Nat.le_of_ble_eq_true rfl, Nat.le_of_ble_eq_true rfl⟩ (mwG (i := y.toNatClampNeg) (a := a) (r := r) (f := f) (q := (va_up q 3 t20)) (T := tb a) (w := w) (by omega)) rfl rfl rfl hl.1 rfl (Nat.le_of_ble_eq_true rfl) dX10_copy_40 (fun o w' H locs hp hB => ?_)
      obtain ⟨x25, rfl, hf26, hw9⟩ := hp
      replace hB : Bd κ A s (mw κ a r f (va_up q 3 t20) (tb a) w) H locs := by rw [hw9] at hB; exact hB
      rcases hf26 with rfl | rfl
      · refine W.eq (g2 := F0 m 43 ls [.int 0]) rfl ?_
        refine lv_if_ne (tgt := 50) hx hb dX10_copy_43 (by decide) (fun c27 => False.elim (by revert c27; decide)) (fun _ => ?_)
        refine lv_iconst (v := 1) hx hb dX10_copy_46 (by decide) ?_
        refine lv_goto (tgt := 51) hx hb dX10_copy_47 (by decide) ?_
        refine lv_istore_n (lv' := [(3, .int 1), (0, .ref (a 0)), (1, .int y), (2, .int z)]) hx hb dX10_copy_51 rfl hl (by decide) rfl (fun ls hl => ?_)
        refine lv_aload_n hx hb dX10_copy_52 rfl (lv_at hl 1 rfl) ?_
        refine gf (k0 := 0) hX hB (mw0x (a := a) (r := r) (f := f) (q := (va_up q 3 t20)) (T := tb a) (w := w) rfl) rfl in10 0 (by decide) wm_5_162 rfl rfl dX10_copy_53 ?_
        refine lv_iload_n hx hb dX10_copy_56 rfl (lv_at hl 3 rfl) ?_
        refine lv_aload_n hx hb dX10_copy_57 rfl (lv_at hl 1 rfl) ?_
        refine gf (k0 := 0) hX hB (mw0x (a := a) (r := r) (f := f) (q := (va_up q 3 t20)) (T := tb a) (w := w) rfl) rfl in10 0 (by decide) wm_5_162 rfl rfl dX10_copy_58 ?_
        refine lv_iload_n hx hb dX10_copy_61 rfl (lv_at hl 2 rfl) ?_
        refine aaldM (k0 := 1) hX hB (mw1 (a := a) (r := r) (f := f) (q := (va_up q 3 t20)) (T := tb a) (w := w)) (vp_in_mk (by assumption) (by assumption)) rfl dX10_copy_62 ?_
        have hb28 := mok_r hm y.toNatClampNeg (by omega)
        refine call_V (n := 0) (k0 := (2 + 2 * y.toNatClampNeg)) (As := []) (rest := [.int z, .ref (a 1)]) hX hB (k_X7_copy κ l (mw κ a r f (va_up q 3 t20) (tb a) w) (2 + 2 * y.toNatClampNeg) (3 + 2 * y.toNatClampNeg) (a (2 + 2 * y.toNatClampNeg)) (a (3 + 2 * y.toNatClampNeg)) (r (2 * y.toNatClampNeg)) (r (2 * y.toNatClampNeg + 1)) (f y.toNatClampNeg) (mwG (i := y.toNatClampNeg) (a := a) (r := r) (f := f) (q := (va_up q 3 t20)) (T := tb a) (w := w) (by omega)) (mwA (i := y.toNatClampNeg) (a := a) (r := r) (f := f) (q := (va_up q 3 t20)) (T := tb a) (w := w) (by omega)) (mok_shp (i := y.toNatClampNeg) hm (by omega))) ⟨rfl, by decide, by decide, by decide +kernel⟩ wm_6_19 wm_6_20 wm_6_21 wm_1_7 wm_6_22 ⟨Nat.le_of_ble_eq_true rfl, Nat.le_of_ble_eq_true rfl⟩ ⟨Nat.le_of_ble_eq_true rfl, Nat.le_of_ble_eq_true rfl⟩ (mwG (i := y.toNatClampNeg) (a := a) (r := r) (f := f) (q := (va_up q 3 t20)) (T := tb a) (w := w) (by omega)) rfl rfl rfl hl.1 rfl (Nat.le_of_ble_eq_true rfl) dX10_copy_63 (fun o w' H locs hp hB => ?_)
        obtain ⟨q29, q30, F31, rfl, hf32, hw9⟩ := hp
        replace hB : Bd κ A s (lA κ q30 ((r (2 * y.toNatClampNeg)) * 5) F31 :: gO q29 (r (2 * y.toNatClampNeg)) (r (2 * y.toNatClampNeg + 1)) q30 :: mw κ a r f (va_up q 3 t20) (tb a) w) H locs := by rw [hw9] at hB; exact hB
        have hscF31 : ∀ k, k < (r (2 * y.toNatClampNeg)) * 5 → sm (F31 k) := fun k hk => by rw [hf32 k hk]; exact (hm _ (by omega)).2 k hk
        refine W.eq (g2 := F0 m 66 ls [.ref q29, .int z, .ref (a 1)]) rfl ?_
        refine astM (f := tb a) (k0 := 3) (k1 := 1) hX hB (mw1 (a := a) (r := r) (f := f) (q := (va_up q 3 t20)) (T := tb a) (w := w)) rfl (vp_in_mk (by assumption) (by assumption)) (w1 := lA κ q30 ((r (2 * y.toNatClampNeg)) * 5) F31 :: gO q29 (r (2 * y.toNatClampNeg)) (r (2 * y.toNatClampNeg + 1)) q30 :: mw κ a r f (va_up q 3 t20) (va_up (tb a) z.toNatClampNeg (some q29)) w) (congrArg (List.cons _) (congrArg (List.cons _) (mwST _))) dX10_copy_66 (fun H locs hB => ?_)
        obtain ⟨a33, ha34, hg35, hB⟩ := Bd_repl2 (t := z.toNatClampNeg) (by omega) hB
        have hba33 := mok_r hm z.toNatClampNeg (by omega)
        refine lv_aload_n hx hb dX10_copy_67 rfl (lv_at hl 1 rfl) ?_
        refine lv_iload_n hx hb dX10_copy_68 rfl (lv_at hl 0 rfl) ?_
        refine lv_if_eq (tgt := 76) hx hb dX10_copy_69 (by decide) (fun c36 => False.elim (by revert c36; decide)) (fun _ => ?_)
        refine lv_iconst (v := 1) hx hb dX10_copy_72 (by decide) ?_
        refine lv_goto (tgt := 77) hx hb dX10_copy_73 (by decide) ?_
        refine call_V (n := 1) (k0 := 0) (As := [.int 1]) (rest := []) hX hB (k_X10_told κ l (mw κ a33 (va_up (va_up r (2 * z.toNatClampNeg) (r (2 * y.toNatClampNeg))) (2 * z.toNatClampNeg + 1) (r (2 * y.toNatClampNeg + 1))) (va_up f z.toNatClampNeg F31) (va_up q 3 t20) (tb a33) w) 0 (a 0) (a33 1) ((va_up q 3 t20) 0) ((va_up q 3 t20) 1) ((va_up q 3 t20) 2) ((va_up q 3 t20) 3) 1 (mw0x (a := a33) (r := (va_up (va_up r (2 * z.toNatClampNeg) (r (2 * y.toNatClampNeg))) (2 * z.toNatClampNeg + 1) (r (2 * y.toNatClampNeg + 1)))) (f := (va_up f z.toNatClampNeg F31)) (q := (va_up q 3 t20)) (T := tb a33) (w := w) (ha34.trans rfl))) ⟨rfl, by decide, by decide, by decide +kernel⟩ wm_5_204 wm_5_206 wp_30 wm_1_6 wm_5_207 ⟨Nat.le_of_ble_eq_true rfl, Nat.le_of_ble_eq_true rfl⟩ ⟨Nat.le_of_ble_eq_true rfl, Nat.le_of_ble_eq_true rfl⟩ (mw0x (a := a33) (r := (va_up (va_up r (2 * z.toNatClampNeg) (r (2 * y.toNatClampNeg))) (2 * z.toNatClampNeg + 1) (r (2 * y.toNatClampNeg + 1)))) (f := (va_up f z.toNatClampNeg F31)) (q := (va_up q 3 t20)) (T := tb a33) (w := w) (ha34.trans rfl)) rfl rfl rfl hl.1 rfl (Nat.le_of_ble_eq_true rfl) dX10_copy_77 (fun o w' H locs hp hB => ?_)
        obtain ⟨rfl, hw9⟩ := hp
        replace hB : Bd κ A s (mw κ a33 (va_up (va_up r (2 * z.toNatClampNeg) (r (2 * y.toNatClampNeg))) (2 * z.toNatClampNeg + 1) (r (2 * y.toNatClampNeg + 1))) (va_up f z.toNatClampNeg F31) (va_up (va_up q 3 t20) 0 (((va_up q 3 t20) 0) + 1)) (tb a33) w) H locs := by exact Bd_eq (mwQ0x (ha34.trans rfl) _) (by rw [hw9] at hB; exact hB)
        refine W.eq (g2 := F0 m 80 ls [.int 1]) rfl ?_
        rw [← hQ]
        exact end_i hX hB hA3 rfl rfl ⟨1, a33, (va_up (va_up r (2 * z.toNatClampNeg) (r (2 * y.toNatClampNeg))) (2 * z.toNatClampNeg + 1) (r (2 * y.toNatClampNeg + 1))), (va_up f z.toNatClampNeg F31), (va_up (va_up q 3 t20) 0 (((va_up q 3 t20) 0) + 1)), rfl, (ha34.trans rfl), (mok_repl (t := z.toNatClampNeg) (R := (r (2 * y.toNatClampNeg))) (C := (r (2 * y.toNatClampNeg + 1))) (F := F31) hm ⟨by omega, by omega, by omega, by omega⟩ hscF31), rfl, rfl⟩ (Nat.le_of_ble_eq_true rfl) (Nat.le_of_ble_eq_true rfl) dX10_copy_80
      · refine W.eq (g2 := F0 m 43 ls [.int 1]) rfl ?_
        refine lv_if_ne (tgt := 50) hx hb dX10_copy_43 (by decide) (fun _ => ?_) (fun c37 => False.elim (by revert c37; decide))
        refine lv_iconst (v := 0) hx hb dX10_copy_50 (by decide) ?_
        refine lv_istore_n (lv' := [(3, .int 0), (0, .ref (a 0)), (1, .int y), (2, .int z)]) hx hb dX10_copy_51 rfl hl (by decide) rfl (fun ls hl => ?_)
        refine lv_aload_n hx hb dX10_copy_52 rfl (lv_at hl 1 rfl) ?_
        refine gf (k0 := 0) hX hB (mw0x (a := a) (r := r) (f := f) (q := (va_up q 3 t20)) (T := tb a) (w := w) rfl) rfl in10 0 (by decide) wm_5_162 rfl rfl dX10_copy_53 ?_
        refine lv_iload_n hx hb dX10_copy_56 rfl (lv_at hl 3 rfl) ?_
        refine lv_aload_n hx hb dX10_copy_57 rfl (lv_at hl 1 rfl) ?_
        refine gf (k0 := 0) hX hB (mw0x (a := a) (r := r) (f := f) (q := (va_up q 3 t20)) (T := tb a) (w := w) rfl) rfl in10 0 (by decide) wm_5_162 rfl rfl dX10_copy_58 ?_
        refine lv_iload_n hx hb dX10_copy_61 rfl (lv_at hl 2 rfl) ?_
        refine aaldM (k0 := 1) hX hB (mw1 (a := a) (r := r) (f := f) (q := (va_up q 3 t20)) (T := tb a) (w := w)) (vp_in_mk (by assumption) (by assumption)) rfl dX10_copy_62 ?_
        have hb38 := mok_r hm y.toNatClampNeg (by omega)
        refine call_V (n := 0) (k0 := (2 + 2 * y.toNatClampNeg)) (As := []) (rest := [.int z, .ref (a 1)]) hX hB (k_X7_copy κ l (mw κ a r f (va_up q 3 t20) (tb a) w) (2 + 2 * y.toNatClampNeg) (3 + 2 * y.toNatClampNeg) (a (2 + 2 * y.toNatClampNeg)) (a (3 + 2 * y.toNatClampNeg)) (r (2 * y.toNatClampNeg)) (r (2 * y.toNatClampNeg + 1)) (f y.toNatClampNeg) (mwG (i := y.toNatClampNeg) (a := a) (r := r) (f := f) (q := (va_up q 3 t20)) (T := tb a) (w := w) (by omega)) (mwA (i := y.toNatClampNeg) (a := a) (r := r) (f := f) (q := (va_up q 3 t20)) (T := tb a) (w := w) (by omega)) (mok_shp (i := y.toNatClampNeg) hm (by omega))) ⟨rfl, by decide, by decide, by decide +kernel⟩ wm_6_19 wm_6_20 wm_6_21 wm_1_7 wm_6_22 ⟨Nat.le_of_ble_eq_true rfl, Nat.le_of_ble_eq_true rfl⟩ ⟨Nat.le_of_ble_eq_true rfl, Nat.le_of_ble_eq_true rfl⟩ (mwG (i := y.toNatClampNeg) (a := a) (r := r) (f := f) (q := (va_up q 3 t20)) (T := tb a) (w := w) (by omega)) rfl rfl rfl hl.1 rfl (Nat.le_of_ble_eq_true rfl) dX10_copy_63 (fun o w' H locs hp hB => ?_)
        obtain ⟨q39, q40, F41, rfl, hf42, hw9⟩ := hp
        replace hB : Bd κ A s (lA κ q40 ((r (2 * y.toNatClampNeg)) * 5) F41 :: gO q39 (r (2 * y.toNatClampNeg)) (r (2 * y.toNatClampNeg + 1)) q40 :: mw κ a r f (va_up q 3 t20) (tb a) w) H locs := by rw [hw9] at hB; exact hB
        have hscF41 : ∀ k, k < (r (2 * y.toNatClampNeg)) * 5 → sm (F41 k) := fun k hk => by rw [hf42 k hk]; exact (hm _ (by omega)).2 k hk
        refine W.eq (g2 := F0 m 66 ls [.ref q39, .int z, .ref (a 1)]) rfl ?_
        refine astM (f := tb a) (k0 := 3) (k1 := 1) hX hB (mw1 (a := a) (r := r) (f := f) (q := (va_up q 3 t20)) (T := tb a) (w := w)) rfl (vp_in_mk (by assumption) (by assumption)) (w1 := lA κ q40 ((r (2 * y.toNatClampNeg)) * 5) F41 :: gO q39 (r (2 * y.toNatClampNeg)) (r (2 * y.toNatClampNeg + 1)) q40 :: mw κ a r f (va_up q 3 t20) (va_up (tb a) z.toNatClampNeg (some q39)) w) (congrArg (List.cons _) (congrArg (List.cons _) (mwST _))) dX10_copy_66 (fun H locs hB => ?_)
        obtain ⟨a43, ha44, hg45, hB⟩ := Bd_repl2 (t := z.toNatClampNeg) (by omega) hB
        have hba43 := mok_r hm z.toNatClampNeg (by omega)
        refine lv_aload_n hx hb dX10_copy_67 rfl (lv_at hl 1 rfl) ?_
        refine lv_iload_n hx hb dX10_copy_68 rfl (lv_at hl 0 rfl) ?_
        refine lv_if_eq (tgt := 76) hx hb dX10_copy_69 (by decide) (fun _ => ?_) (fun c46 => False.elim (by revert c46; decide))
        refine lv_iconst (v := 0) hx hb dX10_copy_76 (by decide) ?_
        refine call_V (n := 1) (k0 := 0) (As := [.int 0]) (rest := []) hX hB (k_X10_told κ l (mw κ a43 (va_up (va_up r (2 * z.toNatClampNeg) (r (2 * y.toNatClampNeg))) (2 * z.toNatClampNeg + 1) (r (2 * y.toNatClampNeg + 1))) (va_up f z.toNatClampNeg F41) (va_up q 3 t20) (tb a43) w) 0 (a 0) (a43 1) ((va_up q 3 t20) 0) ((va_up q 3 t20) 1) ((va_up q 3 t20) 2) ((va_up q 3 t20) 3) 0 (mw0x (a := a43) (r := (va_up (va_up r (2 * z.toNatClampNeg) (r (2 * y.toNatClampNeg))) (2 * z.toNatClampNeg + 1) (r (2 * y.toNatClampNeg + 1)))) (f := (va_up f z.toNatClampNeg F41)) (q := (va_up q 3 t20)) (T := tb a43) (w := w) (ha44.trans rfl))) ⟨rfl, by decide, by decide, by decide +kernel⟩ wm_5_204 wm_5_206 wp_30 wm_1_6 wm_5_207 ⟨Nat.le_of_ble_eq_true rfl, Nat.le_of_ble_eq_true rfl⟩ ⟨Nat.le_of_ble_eq_true rfl, Nat.le_of_ble_eq_true rfl⟩ (mw0x (a := a43) (r := (va_up (va_up r (2 * z.toNatClampNeg) (r (2 * y.toNatClampNeg))) (2 * z.toNatClampNeg + 1) (r (2 * y.toNatClampNeg + 1)))) (f := (va_up f z.toNatClampNeg F41)) (q := (va_up q 3 t20)) (T := tb a43) (w := w) (ha44.trans rfl)) rfl rfl rfl hl.1 rfl (Nat.le_of_ble_eq_true rfl) dX10_copy_77 (fun o w' H locs hp hB => ?_)
        obtain ⟨rfl, hw9⟩ := hp
        replace hB : Bd κ A s (mw κ a43 (va_up (va_up r (2 * z.toNatClampNeg) (r (2 * y.toNatClampNeg))) (2 * z.toNatClampNeg + 1) (r (2 * y.toNatClampNeg + 1))) (va_up f z.toNatClampNeg F41) (va_up (va_up q 3 t20) 0 (((va_up q 3 t20) 0) + 1)) (tb a43) w) H locs := by exact Bd_eq (mwQ0x (ha44.trans rfl) _) (by rw [hw9] at hB; exact hB)
        refine W.eq (g2 := F0 m 80 ls [.int 0]) rfl ?_
        rw [← hQ]
        exact end_i hX hB hA3 rfl rfl ⟨0, a43, (va_up (va_up r (2 * z.toNatClampNeg) (r (2 * y.toNatClampNeg))) (2 * z.toNatClampNeg + 1) (r (2 * y.toNatClampNeg + 1))), (va_up f z.toNatClampNeg F41), (va_up (va_up q 3 t20) 0 (((va_up q 3 t20) 0) + 1)), rfl, (ha44.trans rfl), (mok_repl (t := z.toNatClampNeg) (R := (r (2 * y.toNatClampNeg))) (C := (r (2 * y.toNatClampNeg + 1))) (F := F41) hm ⟨by omega, by omega, by omega, by omega⟩ hscF41), rfl, rfl⟩ (Nat.le_of_ble_eq_true rfl) (Nat.le_of_ble_eq_true rfl) dX10_copy_80
set_option maxHeartbeats 4000000 in
set_option maxRecDepth 100000 in
theorem k_X10_swap (κ : Kt) (l : Launch) (w : va_W) (a r : Nat → Nat) (f : Nat → Nat → Int64) (q : Nat → Int32) (y : Int32) (z : Int32) (hm : mok r f) : CM κ l yX10_swap cX10_swap 5 (some .int) 2 44 0 0 [.ref (a 0), .int y, .int z] (mw κ a r f q (tb a) w) (fun o w' => ∃ (x : Int32) (a' : Nat → Nat) (r' : Nat → Nat) (f' : Nat → Nat → Int64) (q' : Nat → Int32), o = some (.int x) ∧ (a' 0 = a 0) ∧ (mok r' f') ∧ (q' 2 = q 2) ∧ w' = mw κ a' r' f' q' (tb a') w) := by
  refine CM_begin (plainFor_of_name (by decide)) (Nat.le_of_ble_eq_true rfl) ?_
  intro p e s m args below meth c A Q hX hnm hA3 hQ hB ls hl
  have hx := hX.1.1
  have hb := hX.1.2.1
  have hl : lv_has ls 5 [(0, .ref (a 0)), (1, .int y), (2, .int z)] := hl
  refine lv_aload_n hx hb dX10_swap_0 rfl (lv_at hl 0 rfl) ?_
  refine lv_iload_n hx hb dX10_swap_1 rfl (lv_at hl 1 rfl) ?_
  refine call_S (n := 1) (As := [.int y]) (rest := [.ref (a 0)]) hX hB (k_X10_isTable κ l (mw κ a r f q (tb a) w) y) ⟨by decide, by decide, by decide +kernel⟩ wm_5_182 wm_5_183 wm_1_6 wm_5_184 ⟨Nat.le_of_ble_eq_true rfl, Nat.le_of_ble_eq_true rfl⟩ ⟨Nat.le_of_ble_eq_true rfl, Nat.le_of_ble_eq_true rfl⟩ rfl hl.1 rfl (Nat.le_of_ble_eq_true rfl) dX10_swap_2 (fun o w' H locs hp hB => ?_)
  obtain ⟨z1, rfl, hf2, hw9⟩ := hp
  replace hB : Bd κ A s (mw κ a r f q (tb a) w) H locs := by rw [hw9] at hB; exact hB
  rcases hf2 with rfl | ⟨rfl, hz3a, hz3b⟩
  · refine W.eq (g2 := F0 m 5 ls [.int 0, .ref (a 0)]) rfl ?_
    refine lv_if_eq (tgt := 15) hx hb dX10_swap_5 (by decide) (fun _ => ?_) (fun c4 => False.elim (by revert c4; decide))
    refine lv_iconst (v := 1) hx hb dX10_swap_15 (by decide) ?_
    refine lv_goto (tgt := 20) hx hb dX10_swap_16 (by decide) ?_
    refine call_V (n := 1) (k0 := 0) (As := [.int 1]) (rest := []) hX hB (k_X10_isThrown__ κ l (mw κ a r f q (tb a) w) 0 (a 0) (a 1) (q 0) (q 1) (q 2) (q 3) 1 (mw0x (a := a) (r := r) (f := f) (q := q) (T := tb a) (w := w) rfl)) ⟨rfl, by decide, by decide, by decide +kernel⟩ wm_6_11 wm_6_13 wp_33 wm_1_6 wm_6_14 ⟨Nat.le_of_ble_eq_true rfl, Nat.le_of_ble_eq_true rfl⟩ ⟨Nat.le_of_ble_eq_true rfl, Nat.le_of_ble_eq_true rfl⟩ (mw0x (a := a) (r := r) (f := f) (q := q) (T := tb a) (w := w) rfl) rfl rfl rfl hl.1 rfl (Nat.le_of_ble_eq_true rfl) dX10_swap_20 (fun o w' H locs hp hB => ?_)
    obtain ⟨x5, t6, rfl, hf7, hw9⟩ := hp
    replace hB : Bd κ A s (mw κ a r f (va_up q 3 t6) (tb a) w) H locs := by exact Bd_eq (mwQ3x rfl _) (by rw [hw9] at hB; exact hB)
    obtain rfl : x5 = 1 := hf7.trans (by decide)
    refine W.eq (g2 := F0 m 23 ls [.int 1]) rfl ?_
    refine lv_if_eq (tgt := 28) hx hb dX10_swap_23 (by decide) (fun c8 => False.elim (by revert c8; decide)) (fun _ => ?_)
    refine lv_iconst (v := 0) hx hb dX10_swap_26 (by decide) ?_
    rw [← hQ]
    exact end_i hX hB hA3 rfl rfl ⟨0, a, r, f, (va_up q 3 t6), rfl, rfl, hm, rfl, rfl⟩ (Nat.le_of_ble_eq_true rfl) (Nat.le_of_ble_eq_true rfl) dX10_swap_27
  · refine W.eq (g2 := F0 m 5 ls [.int 1, .ref (a 0)]) rfl ?_
    refine lv_if_eq (tgt := 15) hx hb dX10_swap_5 (by decide) (fun c9 => False.elim (by revert c9; decide)) (fun _ => ?_)
    refine lv_iload_n hx hb dX10_swap_8 rfl (lv_at hl 2 rfl) ?_
    refine call_S (n := 1) (As := [.int z]) (rest := [.ref (a 0)]) hX hB (k_X10_isTable κ l (mw κ a r f q (tb a) w) z) ⟨by decide, by decide, by decide +kernel⟩ wm_5_182 wm_5_183 wm_1_6 wm_5_184 ⟨Nat.le_of_ble_eq_true rfl, Nat.le_of_ble_eq_true rfl⟩ ⟨Nat.le_of_ble_eq_true rfl, Nat.le_of_ble_eq_true rfl⟩ rfl hl.1 rfl (Nat.le_of_ble_eq_true rfl) dX10_swap_9 (fun o w' H locs hp hB => ?_)
    obtain ⟨z10, rfl, hf11, hw9⟩ := hp
    replace hB : Bd κ A s (mw κ a r f q (tb a) w) H locs := by rw [hw9] at hB; exact hB
    rcases hf11 with rfl | ⟨rfl, hz12a, hz12b⟩
    · refine W.eq (g2 := F0 m 12 ls [.int 0, .ref (a 0)]) rfl ?_
      refine lv_if_ne (tgt := 19) hx hb dX10_swap_12 (by decide) (fun c13 => False.elim (by revert c13; decide)) (fun _ => ?_)
      refine lv_iconst (v := 1) hx hb dX10_swap_15 (by decide) ?_
      refine lv_goto (tgt := 20) hx hb dX10_swap_16 (by decide) ?_
      refine call_V (n := 1) (k0 := 0) (As := [.int 1]) (rest := []) hX hB (k_X10_isThrown__ κ l (mw κ a r f q (tb a) w) 0 (a 0) (a 1) (q 0) (q 1) (q 2) (q 3) 1 (mw0x (a := a) (r := r) (f := f) (q := q) (T := tb a) (w := w) rfl)) ⟨rfl, by decide, by decide, by decide +kernel⟩ wm_6_11 wm_6_13 wp_33 wm_1_6 wm_6_14 ⟨Nat.le_of_ble_eq_true rfl, Nat.le_of_ble_eq_true rfl⟩ ⟨Nat.le_of_ble_eq_true rfl, Nat.le_of_ble_eq_true rfl⟩ (mw0x (a := a) (r := r) (f := f) (q := q) (T := tb a) (w := w) rfl) rfl rfl rfl hl.1 rfl (Nat.le_of_ble_eq_true rfl) dX10_swap_20 (fun o w' H locs hp hB => ?_)
      obtain ⟨x14, t15, rfl, hf16, hw9⟩ := hp
      replace hB : Bd κ A s (mw κ a r f (va_up q 3 t15) (tb a) w) H locs := by exact Bd_eq (mwQ3x rfl _) (by rw [hw9] at hB; exact hB)
      obtain rfl : x14 = 1 := hf16.trans (by decide)
      refine W.eq (g2 := F0 m 23 ls [.int 1]) rfl ?_
      refine lv_if_eq (tgt := 28) hx hb dX10_swap_23 (by decide) (fun c17 => False.elim (by revert c17; decide)) (fun _ => ?_)
      refine lv_iconst (v := 0) hx hb dX10_swap_26 (by decide) ?_
      rw [← hQ]
      exact end_i hX hB hA3 rfl rfl ⟨0, a, r, f, (va_up q 3 t15), rfl, rfl, hm, rfl, rfl⟩ (Nat.le_of_ble_eq_true rfl) (Nat.le_of_ble_eq_true rfl) dX10_swap_27
    · refine W.eq (g2 := F0 m 12 ls [.int 1, .ref (a 0)]) rfl ?_
      refine lv_if_ne (tgt := 19) hx hb dX10_swap_12 (by decide) (fun _ => ?_) (fun c18 => False.elim (by revert c18; decide))
      refine lv_iconst (v := 0) hx hb dX10_swap_19 (by decide) ?_
      refine call_V (n := 1) (k0 := 0) (As := [.int 0]) (rest := []) hX hB (k_X10_isThrown__ κ l (mw κ a r f q (tb a) w) 0 (a 0) (a 1) (q 0) (q 1) (q 2) (q 3) 0 (mw0x (a := a) (r := r) (f := f) (q := q) (T := tb a) (w := w) rfl)) ⟨rfl, by decide, by decide, by decide +kernel⟩ wm_6_11 wm_6_13 wp_33 wm_1_6 wm_6_14 ⟨Nat.le_of_ble_eq_true rfl, Nat.le_of_ble_eq_true rfl⟩ ⟨Nat.le_of_ble_eq_true rfl, Nat.le_of_ble_eq_true rfl⟩ (mw0x (a := a) (r := r) (f := f) (q := q) (T := tb a) (w := w) rfl) rfl rfl rfl hl.1 rfl (Nat.le_of_ble_eq_true rfl) dX10_swap_20 (fun o w' H locs hp hB => ?_)
      obtain ⟨x19, t20, rfl, hf21, hw9⟩ := hp
      replace hB : Bd κ A s (mw κ a r f (va_up q 3 t20) (tb a) w) H locs := by exact Bd_eq (mwQ3x rfl _) (by rw [hw9] at hB; exact hB)
      obtain rfl : x19 = 0 := hf21.trans (by decide)
      refine W.eq (g2 := F0 m 23 ls [.int 0]) rfl ?_
      refine lv_if_eq (tgt := 28) hx hb dX10_swap_23 (by decide) (fun _ => ?_) (fun c22 => False.elim (by revert c22; decide))
      refine lv_aload_n hx hb dX10_swap_28 rfl (lv_at hl 0 rfl) ?_
      refine gf (k0 := 0) hX hB (mw0x (a := a) (r := r) (f := f) (q := (va_up q 3 t20)) (T := tb a) (w := w) rfl) rfl in10 0 (by decide) wm_5_162 rfl rfl dX10_swap_29 ?_
      refine lv_iload_n hx hb dX10_swap_32 rfl (lv_at hl 1 rfl) ?_
      refine aaldM (k0 := 1) hX hB (mw1 (a := a) (r := r) (f := f) (q := (va_up q 3 t20)) (T := tb a) (w := w)) (vp_in_mk (by assumption) (by assumption)) rfl dX10_swap_33 ?_
      have hb23 := mok_r hm y.toNatClampNeg (by omega)
      refine lv_aload_n hx hb dX10_swap_34 rfl (lv_at hl 0 rfl) ?_
      refine gf (k0 := 0) hX hB (mw0x (a := a) (r := r) (f := f) (q := (va_up q 3 t20)) (T := tb a) (w := w) rfl) rfl in10 0 (by decide) wm_5_162 rfl rfl dX10_swap_35 ?_
      refine lv_iload_n hx hb dX10_swap_38 rfl (lv_at hl 2 rfl) ?_
      refine aaldM (k0 := 1) hX hB (mw1 (a := a) (r := r) (f := f) (q := (va_up q 3 t20)) (T := tb a) (w := w)) (vp_in_mk (by assumption) (by assumption)) rfl dX10_swap_39 ?_
      have hb24 := mok_r hm z.toNatClampNeg (by omega)
      refine call_V (n := 1) (k0 := (2 + 2 * y.toNatClampNeg)) (As := [.ref (a (2 + 2 * z.toNatClampNeg))]) (rest := []) hX hB (k_X7_isSame κ l (mw κ a r f (va_up q 3 t20) (tb a) w) (2 + 2 * y.toNatClampNeg) (3 + 2 * y.toNatClampNeg) (a (2 + 2 * y.toNatClampNeg)) (a (3 + 2 * y.toNatClampNeg)) (r (2 * y.toNatClampNeg)) (r (2 * y.toNatClampNeg + 1)) (f y.toNatClampNeg) (2 + 2 * z.toNatClampNeg) (3 + 2 * z.toNatClampNeg) (a (2 + 2 * z.toNatClampNeg)) (a (3 + 2 * z.toNatClampNeg)) (r (2 * z.toNatClampNeg)) (r (2 * z.toNatClampNeg + 1)) (f z.toNatClampNeg) (mwG (i := y.toNatClampNeg) (a := a) (r := r) (f := f) (q := (va_up q 3 t20)) (T := tb a) (w := w) (by omega)) (mwA (i := y.toNatClampNeg) (a := a) (r := r) (f := f) (q := (va_up q 3 t20)) (T := tb a) (w := w) (by omega)) (mok_shp (i := y.toNatClampNeg) hm (by omega)) (mwG (i := z.toNatClampNeg) (a := a) (r := r) (f := f) (q := (va_up q 3 t20)) (T := tb a) (w := w) (by omega)) (mwA (i := z.toNatClampNeg) (a := a) (r := r) (f := f) (q := (va_up q 3 t20)) (T := tb a) (w := w) (by omega)) (mok_shp (i := z.toNatClampNeg) hm (by omega))) ⟨rfl, by decide, by decide, by decide +kernel⟩ wm_6_15 wm_6_16 wm_6_17 wm_1_7 wm_6_18 ⟨Nat.le_of_ble_eq_true rfl, Nat.le_of_ble_eq_true rfl⟩ ⟨Nat.le_of_ble_eq_true rfl, Nat.le_of_ble_eq_true rfl⟩ (mwG (i := y.toNatClampNeg) (a := a) (r := r) (f := f) (q := (va_up q 3 t20)) (T := tb a) (w := w) (by omega)) rfl rfl rfl hl.1 rfl (Nat.le_of_ble_eq_true rfl) dX10_swap_40 (fun o w' H locs hp hB => ?_)
      obtain ⟨x25, rfl, hf26, hw9⟩ := hp
      replace hB : Bd κ A s (mw κ a r f (va_up q 3 t20) (tb a) w) H locs := by rw [hw9] at hB; exact hB
      rcases hf26 with rfl | rfl
      · refine W.eq (g2 := F0 m 43 ls [.int 0]) rfl ?_
        refine lv_if_ne (tgt := 50) hx hb dX10_swap_43 (by decide) (fun c27 => False.elim (by revert c27; decide)) (fun _ => ?_)
        refine lv_iconst (v := 1) hx hb dX10_swap_46 (by decide) ?_
        refine lv_goto (tgt := 51) hx hb dX10_swap_47 (by decide) ?_
        refine lv_istore_n (lv' := [(3, .int 1), (0, .ref (a 0)), (1, .int y), (2, .int z)]) hx hb dX10_swap_51 rfl hl (by decide) rfl (fun ls hl => ?_)
        refine lv_aload_n hx hb dX10_swap_52 rfl (lv_at hl 1 rfl) ?_
        refine gf (k0 := 0) hX hB (mw0x (a := a) (r := r) (f := f) (q := (va_up q 3 t20)) (T := tb a) (w := w) rfl) rfl in10 0 (by decide) wm_5_162 rfl rfl dX10_swap_53 ?_
        refine lv_iload_n hx hb dX10_swap_56 rfl (lv_at hl 2 rfl) ?_
        refine aaldM (k0 := 1) hX hB (mw1 (a := a) (r := r) (f := f) (q := (va_up q 3 t20)) (T := tb a) (w := w)) (vp_in_mk (by assumption) (by assumption)) rfl dX10_swap_57 ?_
        have hb28 := mok_r hm y.toNatClampNeg (by omega)
        refine lv_astore (lv' := [(4, .ref (a (2 + 2 * y.toNatClampNeg))), (3, .int 1), (0, .ref (a 0)), (1, .int y), (2, .int z)]) hx hb dX10_swap_58 hl (by decide) rfl (fun ls hl => ?_)
        refine lv_aload_n hx hb dX10_swap_60 rfl (lv_at hl 2 rfl) ?_
        refine gf (k0 := 0) hX hB (mw0x (a := a) (r := r) (f := f) (q := (va_up q 3 t20)) (T := tb a) (w := w) rfl) rfl in10 0 (by decide) wm_5_162 rfl rfl dX10_swap_61 ?_
        refine lv_iload_n hx hb dX10_swap_64 rfl (lv_at hl 3 rfl) ?_
        refine lv_aload_n hx hb dX10_swap_65 rfl (lv_at hl 2 rfl) ?_
        refine gf (k0 := 0) hX hB (mw0x (a := a) (r := r) (f := f) (q := (va_up q 3 t20)) (T := tb a) (w := w) rfl) rfl in10 0 (by decide) wm_5_162 rfl rfl dX10_swap_66 ?_
        refine lv_iload_n hx hb dX10_swap_69 rfl (lv_at hl 4 rfl) ?_
        refine aaldM (k0 := 1) hX hB (mw1 (a := a) (r := r) (f := f) (q := (va_up q 3 t20)) (T := tb a) (w := w)) (vp_in_mk (by assumption) (by assumption)) rfl dX10_swap_70 ?_
        have hb29 := mok_r hm z.toNatClampNeg (by omega)
        refine astM (f := tb a) (k0 := 1) (k1 := 2 + 2 * z.toNatClampNeg) hX hB (mw1 (a := a) (r := r) (f := f) (q := (va_up q 3 t20)) (T := tb a) (w := w)) (mwG (i := z.toNatClampNeg) (a := a) (r := r) (f := f) (q := (va_up q 3 t20)) (T := tb a) (w := w) (by omega)) (vp_in_mk (by assumption) (by assumption)) (w1 := mw κ a r f (va_up q 3 t20) (va_up (tb a) y.toNatClampNeg (some (a (2 + 2 * z.toNatClampNeg)))) w) (mwST _) dX10_swap_71 (fun H locs hB => ?_)
        refine lv_aload_n hx hb dX10_swap_72 rfl (lv_at hl 2 rfl) ?_
        refine gf (k0 := 0) hX hB (mw0x (a := a) (r := r) (f := f) (q := (va_up q 3 t20)) (T := va_up (tb a) y.toNatClampNeg (some (a (2 + 2 * z.toNatClampNeg)))) (w := w) rfl) rfl in10 0 (by decide) wm_5_162 rfl rfl dX10_swap_73 ?_
        refine lv_iload_n hx hb dX10_swap_76 rfl (lv_at hl 4 rfl) ?_
        refine lv_aload hx hb dX10_swap_77 (lv_at hl 0 rfl) ?_
        refine astM (f := va_up (tb a) y.toNatClampNeg (some (a (2 + 2 * z.toNatClampNeg)))) (k0 := 1) (k1 := 2 + 2 * y.toNatClampNeg) hX hB (mw1 (a := a) (r := r) (f := f) (q := (va_up q 3 t20)) (T := va_up (tb a) y.toNatClampNeg (some (a (2 + 2 * z.toNatClampNeg)))) (w := w)) (mwG (i := y.toNatClampNeg) (a := a) (r := r) (f := f) (q := (va_up q 3 t20)) (T := va_up (tb a) y.toNatClampNeg (some (a (2 + 2 * z.toNatClampNeg)))) (w := w) (by omega)) (vp_in_mk (by assumption) (by assumption)) (w1 := mw κ a r f (va_up q 3 t20) (va_up (va_up (tb a) y.toNatClampNeg (some (a (2 + 2 * z.toNatClampNeg)))) z.toNatClampNeg (some (a (2 + 2 * y.toNatClampNeg)))) w) (mwST _) dX10_swap_79 (fun H locs hB => ?_)
        obtain ⟨a30, ha31, hB⟩ := Bd_swap2 (t := y.toNatClampNeg) (u := z.toNatClampNeg) (by omega) (by omega) hB
        refine lv_aload_n hx hb dX10_swap_80 rfl (lv_at hl 2 rfl) ?_
        refine lv_iload_n hx hb dX10_swap_81 rfl (lv_at hl 1 rfl) ?_
        refine lv_if_eq (tgt := 89) hx hb dX10_swap_82 (by decide) (fun c32 => False.elim (by revert c32; decide)) (fun _ => ?_)
        refine lv_iconst (v := 1) hx hb dX10_swap_85 (by decide) ?_
        refine lv_goto (tgt := 90) hx hb dX10_swap_86 (by decide) ?_
        refine call_V (n := 1) (k0 := 0) (As := [.int 1]) (rest := []) hX hB (k_X10_told κ l (mw κ a30 (fun k => r (swr y.toNatClampNeg z.toNatClampNeg k)) (fun k => f (sw1 y.toNatClampNeg z.toNatClampNeg k)) (va_up q 3 t20) (tb a30) w) 0 (a 0) (a30 1) ((va_up q 3 t20) 0) ((va_up q 3 t20) 1) ((va_up q 3 t20) 2) ((va_up q 3 t20) 3) 1 (mw0x (a := a30) (r := (fun k => r (swr y.toNatClampNeg z.toNatClampNeg k))) (f := (fun k => f (sw1 y.toNatClampNeg z.toNatClampNeg k))) (q := (va_up q 3 t20)) (T := tb a30) (w := w) (ha31.trans rfl))) ⟨rfl, by decide, by decide, by decide +kernel⟩ wm_5_204 wm_5_206 wp_30 wm_1_6 wm_5_207 ⟨Nat.le_of_ble_eq_true rfl, Nat.le_of_ble_eq_true rfl⟩ ⟨Nat.le_of_ble_eq_true rfl, Nat.le_of_ble_eq_true rfl⟩ (mw0x (a := a30) (r := (fun k => r (swr y.toNatClampNeg z.toNatClampNeg k))) (f := (fun k => f (sw1 y.toNatClampNeg z.toNatClampNeg k))) (q := (va_up q 3 t20)) (T := tb a30) (w := w) (ha31.trans rfl)) rfl rfl rfl hl.1 rfl (Nat.le_of_ble_eq_true rfl) dX10_swap_90 (fun o w' H locs hp hB => ?_)
        obtain ⟨rfl, hw9⟩ := hp
        replace hB : Bd κ A s (mw κ a30 (fun k => r (swr y.toNatClampNeg z.toNatClampNeg k)) (fun k => f (sw1 y.toNatClampNeg z.toNatClampNeg k)) (va_up (va_up q 3 t20) 0 (((va_up q 3 t20) 0) + 1)) (tb a30) w) H locs := by exact Bd_eq (mwQ0x (ha31.trans rfl) _) (by rw [hw9] at hB; exact hB)
        refine W.eq (g2 := F0 m 93 ls [.int 1]) rfl ?_
        rw [← hQ]
        exact end_i hX hB hA3 rfl rfl ⟨1, a30, (fun k => r (swr y.toNatClampNeg z.toNatClampNeg k)), (fun k => f (sw1 y.toNatClampNeg z.toNatClampNeg k)), (va_up (va_up q 3 t20) 0 (((va_up q 3 t20) 0) + 1)), rfl, (ha31.trans rfl), (mok_swap hm (t := y.toNatClampNeg) (u := z.toNatClampNeg) (by omega) (by omega)), rfl, rfl⟩ (Nat.le_of_ble_eq_true rfl) (Nat.le_of_ble_eq_true rfl) dX10_swap_93
      · refine W.eq (g2 := F0 m 43 ls [.int 1]) rfl ?_
        refine lv_if_ne (tgt := 50) hx hb dX10_swap_43 (by decide) (fun _ => ?_) (fun c33 => False.elim (by revert c33; decide))
        refine lv_iconst (v := 0) hx hb dX10_swap_50 (by decide) ?_
        refine lv_istore_n (lv' := [(3, .int 0), (0, .ref (a 0)), (1, .int y), (2, .int z)]) hx hb dX10_swap_51 rfl hl (by decide) rfl (fun ls hl => ?_)
        refine lv_aload_n hx hb dX10_swap_52 rfl (lv_at hl 1 rfl) ?_
        refine gf (k0 := 0) hX hB (mw0x (a := a) (r := r) (f := f) (q := (va_up q 3 t20)) (T := tb a) (w := w) rfl) rfl in10 0 (by decide) wm_5_162 rfl rfl dX10_swap_53 ?_
        refine lv_iload_n hx hb dX10_swap_56 rfl (lv_at hl 2 rfl) ?_
        refine aaldM (k0 := 1) hX hB (mw1 (a := a) (r := r) (f := f) (q := (va_up q 3 t20)) (T := tb a) (w := w)) (vp_in_mk (by assumption) (by assumption)) rfl dX10_swap_57 ?_
        have hb34 := mok_r hm y.toNatClampNeg (by omega)
        refine lv_astore (lv' := [(4, .ref (a (2 + 2 * y.toNatClampNeg))), (3, .int 0), (0, .ref (a 0)), (1, .int y), (2, .int z)]) hx hb dX10_swap_58 hl (by decide) rfl (fun ls hl => ?_)
        refine lv_aload_n hx hb dX10_swap_60 rfl (lv_at hl 2 rfl) ?_
        refine gf (k0 := 0) hX hB (mw0x (a := a) (r := r) (f := f) (q := (va_up q 3 t20)) (T := tb a) (w := w) rfl) rfl in10 0 (by decide) wm_5_162 rfl rfl dX10_swap_61 ?_
        refine lv_iload_n hx hb dX10_swap_64 rfl (lv_at hl 3 rfl) ?_
        refine lv_aload_n hx hb dX10_swap_65 rfl (lv_at hl 2 rfl) ?_
        refine gf (k0 := 0) hX hB (mw0x (a := a) (r := r) (f := f) (q := (va_up q 3 t20)) (T := tb a) (w := w) rfl) rfl in10 0 (by decide) wm_5_162 rfl rfl dX10_swap_66 ?_
        refine lv_iload_n hx hb dX10_swap_69 rfl (lv_at hl 4 rfl) ?_
        refine aaldM (k0 := 1) hX hB (mw1 (a := a) (r := r) (f := f) (q := (va_up q 3 t20)) (T := tb a) (w := w)) (vp_in_mk (by assumption) (by assumption)) rfl dX10_swap_70 ?_
        have hb35 := mok_r hm z.toNatClampNeg (by omega)
        refine astM (f := tb a) (k0 := 1) (k1 := 2 + 2 * z.toNatClampNeg) hX hB (mw1 (a := a) (r := r) (f := f) (q := (va_up q 3 t20)) (T := tb a) (w := w)) (mwG (i := z.toNatClampNeg) (a := a) (r := r) (f := f) (q := (va_up q 3 t20)) (T := tb a) (w := w) (by omega)) (vp_in_mk (by assumption) (by assumption)) (w1 := mw κ a r f (va_up q 3 t20) (va_up (tb a) y.toNatClampNeg (some (a (2 + 2 * z.toNatClampNeg)))) w) (mwST _) dX10_swap_71 (fun H locs hB => ?_)
        refine lv_aload_n hx hb dX10_swap_72 rfl (lv_at hl 2 rfl) ?_
        refine gf (k0 := 0) hX hB (mw0x (a := a) (r := r) (f := f) (q := (va_up q 3 t20)) (T := va_up (tb a) y.toNatClampNeg (some (a (2 + 2 * z.toNatClampNeg)))) (w := w) rfl) rfl in10 0 (by decide) wm_5_162 rfl rfl dX10_swap_73 ?_
        refine lv_iload_n hx hb dX10_swap_76 rfl (lv_at hl 4 rfl) ?_
        refine lv_aload hx hb dX10_swap_77 (lv_at hl 0 rfl) ?_
        refine astM (f := va_up (tb a) y.toNatClampNeg (some (a (2 + 2 * z.toNatClampNeg)))) (k0 := 1) (k1 := 2 + 2 * y.toNatClampNeg) hX hB (mw1 (a := a) (r := r) (f := f) (q := (va_up q 3 t20)) (T := va_up (tb a) y.toNatClampNeg (some (a (2 + 2 * z.toNatClampNeg)))) (w := w)) (mwG (i := y.toNatClampNeg) (a := a) (r := r) (f := f) (q := (va_up q 3 t20)) (T := va_up (tb a) y.toNatClampNeg (some (a (2 + 2 * z.toNatClampNeg)))) (w := w) (by omega)) (vp_in_mk (by assumption) (by assumption)) (w1 := mw κ a r f (va_up q 3 t20) (va_up (va_up (tb a) y.toNatClampNeg (some (a (2 + 2 * z.toNatClampNeg)))) z.toNatClampNeg (some (a (2 + 2 * y.toNatClampNeg)))) w) (mwST _) dX10_swap_79 (fun H locs hB => ?_)
        obtain ⟨a36, ha37, hB⟩ := Bd_swap2 (t := y.toNatClampNeg) (u := z.toNatClampNeg) (by omega) (by omega) hB
        refine lv_aload_n hx hb dX10_swap_80 rfl (lv_at hl 2 rfl) ?_
        refine lv_iload_n hx hb dX10_swap_81 rfl (lv_at hl 1 rfl) ?_
        refine lv_if_eq (tgt := 89) hx hb dX10_swap_82 (by decide) (fun _ => ?_) (fun c38 => False.elim (by revert c38; decide))
        refine lv_iconst (v := 0) hx hb dX10_swap_89 (by decide) ?_
        refine call_V (n := 1) (k0 := 0) (As := [.int 0]) (rest := []) hX hB (k_X10_told κ l (mw κ a36 (fun k => r (swr y.toNatClampNeg z.toNatClampNeg k)) (fun k => f (sw1 y.toNatClampNeg z.toNatClampNeg k)) (va_up q 3 t20) (tb a36) w) 0 (a 0) (a36 1) ((va_up q 3 t20) 0) ((va_up q 3 t20) 1) ((va_up q 3 t20) 2) ((va_up q 3 t20) 3) 0 (mw0x (a := a36) (r := (fun k => r (swr y.toNatClampNeg z.toNatClampNeg k))) (f := (fun k => f (sw1 y.toNatClampNeg z.toNatClampNeg k))) (q := (va_up q 3 t20)) (T := tb a36) (w := w) (ha37.trans rfl))) ⟨rfl, by decide, by decide, by decide +kernel⟩ wm_5_204 wm_5_206 wp_30 wm_1_6 wm_5_207 ⟨Nat.le_of_ble_eq_true rfl, Nat.le_of_ble_eq_true rfl⟩ ⟨Nat.le_of_ble_eq_true rfl, Nat.le_of_ble_eq_true rfl⟩ (mw0x (a := a36) (r := (fun k => r (swr y.toNatClampNeg z.toNatClampNeg k))) (f := (fun k => f (sw1 y.toNatClampNeg z.toNatClampNeg k))) (q := (va_up q 3 t20)) (T := tb a36) (w := w) (ha37.trans rfl)) rfl rfl rfl hl.1 rfl (Nat.le_of_ble_eq_true rfl) dX10_swap_90 (fun o w' H locs hp hB => ?_)
        obtain ⟨rfl, hw9⟩ := hp
        replace hB : Bd κ A s (mw κ a36 (fun k => r (swr y.toNatClampNeg z.toNatClampNeg k)) (fun k => f (sw1 y.toNatClampNeg z.toNatClampNeg k)) (va_up (va_up q 3 t20) 0 (((va_up q 3 t20) 0) + 1)) (tb a36) w) H locs := by exact Bd_eq (mwQ0x (ha37.trans rfl) _) (by rw [hw9] at hB; exact hB)
        refine W.eq (g2 := F0 m 93 ls [.int 0]) rfl ?_
        rw [← hQ]
        exact end_i hX hB hA3 rfl rfl ⟨0, a36, (fun k => r (swr y.toNatClampNeg z.toNatClampNeg k)), (fun k => f (sw1 y.toNatClampNeg z.toNatClampNeg k)), (va_up (va_up q 3 t20) 0 (((va_up q 3 t20) 0) + 1)), rfl, (ha37.trans rfl), (mok_swap hm (t := y.toNatClampNeg) (u := z.toNatClampNeg) (by omega) (by omega)), rfl, rfl⟩ (Nat.le_of_ble_eq_true rfl) (Nat.le_of_ble_eq_true rfl) dX10_swap_93
set_option maxHeartbeats 4000000 in
set_option maxRecDepth 100000 in
theorem k_X10_flip (κ : Kt) (l : Launch) (w : va_W) (a r : Nat → Nat) (f : Nat → Nat → Int64) (q : Nat → Int32) (y : Int32) (hm : mok r f) : CM κ l yX10_flip cX10_flip 2 (some .int) 3 65 2 23 [.ref (a 0), .int y] (mw κ a r f q (tb a) w) (fun o w' => ∃ (x : Int32) (a' : Nat → Nat) (r' : Nat → Nat) (f' : Nat → Nat → Int64) (q' : Nat → Int32), o = some (.int x) ∧ (a' 0 = a 0) ∧ (mok r' f') ∧ (q' 2 = q 2) ∧ w' = mw κ a' r' f' q' (tb a') w) := by
  refine CM_begin (plainFor_of_name (by decide)) (Nat.le_of_ble_eq_true rfl) ?_
  intro p e s m args below meth c A Q hX hnm hA3 hQ hB ls hl
  have hx := hX.1.1
  have hb := hX.1.2.1
  have hl : lv_has ls 2 [(0, .ref (a 0)), (1, .int y)] := hl
  refine lv_aload_n hx hb dX10_flip_0 rfl (lv_at hl 0 rfl) ?_
  refine lv_iload_n hx hb dX10_flip_1 rfl (lv_at hl 1 rfl) ?_
  refine call_S (n := 1) (As := [.int y]) (rest := [.ref (a 0)]) hX hB (k_X10_isTable κ l (mw κ a r f q (tb a) w) y) ⟨by decide, by decide, by decide +kernel⟩ wm_5_182 wm_5_183 wm_1_6 wm_5_184 ⟨Nat.le_of_ble_eq_true rfl, Nat.le_of_ble_eq_true rfl⟩ ⟨Nat.le_of_ble_eq_true rfl, Nat.le_of_ble_eq_true rfl⟩ rfl hl.1 rfl (Nat.le_of_ble_eq_true rfl) dX10_flip_2 (fun o w' H locs hp hB => ?_)
  obtain ⟨z1, rfl, hf2, hw9⟩ := hp
  replace hB : Bd κ A s (mw κ a r f q (tb a) w) H locs := by rw [hw9] at hB; exact hB
  rcases hf2 with rfl | ⟨rfl, hz3a, hz3b⟩
  · refine W.eq (g2 := F0 m 5 ls [.int 0, .ref (a 0)]) rfl ?_
    refine lv_if_ne (tgt := 12) hx hb dX10_flip_5 (by decide) (fun c4 => False.elim (by revert c4; decide)) (fun _ => ?_)
    refine lv_iconst (v := 1) hx hb dX10_flip_8 (by decide) ?_
    refine lv_goto (tgt := 13) hx hb dX10_flip_9 (by decide) ?_
    refine call_V (n := 1) (k0 := 0) (As := [.int 1]) (rest := []) hX hB (k_X10_isThrown__ κ l (mw κ a r f q (tb a) w) 0 (a 0) (a 1) (q 0) (q 1) (q 2) (q 3) 1 (mw0x (a := a) (r := r) (f := f) (q := q) (T := tb a) (w := w) rfl)) ⟨rfl, by decide, by decide, by decide +kernel⟩ wm_6_11 wm_6_13 wp_33 wm_1_6 wm_6_14 ⟨Nat.le_of_ble_eq_true rfl, Nat.le_of_ble_eq_true rfl⟩ ⟨Nat.le_of_ble_eq_true rfl, Nat.le_of_ble_eq_true rfl⟩ (mw0x (a := a) (r := r) (f := f) (q := q) (T := tb a) (w := w) rfl) rfl rfl rfl hl.1 rfl (Nat.le_of_ble_eq_true rfl) dX10_flip_13 (fun o w' H locs hp hB => ?_)
    obtain ⟨x5, t6, rfl, hf7, hw9⟩ := hp
    replace hB : Bd κ A s (mw κ a r f (va_up q 3 t6) (tb a) w) H locs := by exact Bd_eq (mwQ3x rfl _) (by rw [hw9] at hB; exact hB)
    obtain rfl : x5 = 1 := hf7.trans (by decide)
    refine W.eq (g2 := F0 m 16 ls [.int 1]) rfl ?_
    refine lv_if_eq (tgt := 21) hx hb dX10_flip_16 (by decide) (fun c8 => False.elim (by revert c8; decide)) (fun _ => ?_)
    refine lv_iconst (v := 0) hx hb dX10_flip_19 (by decide) ?_
    rw [← hQ]
    exact end_i hX hB hA3 rfl rfl ⟨0, a, r, f, (va_up q 3 t6), rfl, rfl, hm, rfl, rfl⟩ (Nat.le_of_ble_eq_true rfl) (Nat.le_of_ble_eq_true rfl) dX10_flip_20
  · refine W.eq (g2 := F0 m 5 ls [.int 1, .ref (a 0)]) rfl ?_
    refine lv_if_ne (tgt := 12) hx hb dX10_flip_5 (by decide) (fun _ => ?_) (fun c9 => False.elim (by revert c9; decide))
    refine lv_iconst (v := 0) hx hb dX10_flip_12 (by decide) ?_
    refine call_V (n := 1) (k0 := 0) (As := [.int 0]) (rest := []) hX hB (k_X10_isThrown__ κ l (mw κ a r f q (tb a) w) 0 (a 0) (a 1) (q 0) (q 1) (q 2) (q 3) 0 (mw0x (a := a) (r := r) (f := f) (q := q) (T := tb a) (w := w) rfl)) ⟨rfl, by decide, by decide, by decide +kernel⟩ wm_6_11 wm_6_13 wp_33 wm_1_6 wm_6_14 ⟨Nat.le_of_ble_eq_true rfl, Nat.le_of_ble_eq_true rfl⟩ ⟨Nat.le_of_ble_eq_true rfl, Nat.le_of_ble_eq_true rfl⟩ (mw0x (a := a) (r := r) (f := f) (q := q) (T := tb a) (w := w) rfl) rfl rfl rfl hl.1 rfl (Nat.le_of_ble_eq_true rfl) dX10_flip_13 (fun o w' H locs hp hB => ?_)
    obtain ⟨x10, t11, rfl, hf12, hw9⟩ := hp
    replace hB : Bd κ A s (mw κ a r f (va_up q 3 t11) (tb a) w) H locs := by exact Bd_eq (mwQ3x rfl _) (by rw [hw9] at hB; exact hB)
    obtain rfl : x10 = 0 := hf12.trans (by decide)
    refine W.eq (g2 := F0 m 16 ls [.int 0]) rfl ?_
    refine lv_if_eq (tgt := 21) hx hb dX10_flip_16 (by decide) (fun _ => ?_) (fun c13 => False.elim (by revert c13; decide))
    refine lv_aload_n hx hb dX10_flip_21 rfl (lv_at hl 0 rfl) ?_
    refine gf (k0 := 0) hX hB (mw0x (a := a) (r := r) (f := f) (q := (va_up q 3 t11)) (T := tb a) (w := w) rfl) rfl in10 0 (by decide) wm_5_162 rfl rfl dX10_flip_22 ?_
    refine lv_iload_n hx hb dX10_flip_25 rfl (lv_at hl 1 rfl) ?_
    refine lv_aload_n hx hb dX10_flip_26 rfl (lv_at hl 0 rfl) ?_
    refine gf (k0 := 0) hX hB (mw0x (a := a) (r := r) (f := f) (q := (va_up q 3 t11)) (T := tb a) (w := w) rfl) rfl in10 0 (by decide) wm_5_162 rfl rfl dX10_flip_27 ?_
    refine lv_iload_n hx hb dX10_flip_30 rfl (lv_at hl 1 rfl) ?_
    refine aaldM (k0 := 1) hX hB (mw1 (a := a) (r := r) (f := f) (q := (va_up q 3 t11)) (T := tb a) (w := w)) (vp_in_mk (by assumption) (by assumption)) rfl dX10_flip_31 ?_
    have hb14 := mok_r hm y.toNatClampNeg (by omega)
    refine call_S (n := 1) (As := [.ref (a (2 + 2 * y.toNatClampNeg))]) (rest := [.int y, .ref (a 1)]) hX hB (k_X10_flipped κ l (mw κ a r f (va_up q 3 t11) (tb a) w) (2 + 2 * y.toNatClampNeg) (3 + 2 * y.toNatClampNeg) (a (2 + 2 * y.toNatClampNeg)) (a (3 + 2 * y.toNatClampNeg)) (r (2 * y.toNatClampNeg)) (r (2 * y.toNatClampNeg + 1)) (f y.toNatClampNeg) (mwG (i := y.toNatClampNeg) (a := a) (r := r) (f := f) (q := (va_up q 3 t11)) (T := tb a) (w := w) (by omega)) (mwA (i := y.toNatClampNeg) (a := a) (r := r) (f := f) (q := (va_up q 3 t11)) (T := tb a) (w := w) (by omega)) (mok_shp (i := y.toNatClampNeg) hm (by omega)) (by omega) ((hm _ (by omega)).2)) ⟨by decide, by decide, by decide +kernel⟩ wm_6_31 wm_6_32 wm_1_6 wm_6_33 ⟨Nat.le_of_ble_eq_true rfl, Nat.le_of_ble_eq_true rfl⟩ ⟨Nat.le_of_ble_eq_true rfl, Nat.le_of_ble_eq_true rfl⟩ rfl hl.1 rfl (Nat.le_of_ble_eq_true rfl) dX10_flip_32 (fun o w' H locs hp hB => ?_)
    obtain ⟨q15, q16, F17, rfl, hf18, hw9⟩ := hp
    replace hB : Bd κ A s (lA κ q16 ((r (2 * y.toNatClampNeg + 1)) * 5) F17 :: gO q15 (r (2 * y.toNatClampNeg + 1)) (r (2 * y.toNatClampNeg)) q16 :: mw κ a r f (va_up q 3 t11) (tb a) w) H locs := by rw [hw9] at hB; exact hB
    refine W.eq (g2 := F0 m 35 ls [.ref q15, .int y, .ref (a 1)]) rfl ?_
    refine astM (f := tb a) (k0 := 3) (k1 := 1) hX hB (mw1 (a := a) (r := r) (f := f) (q := (va_up q 3 t11)) (T := tb a) (w := w)) rfl (vp_in_mk (by assumption) (by assumption)) (w1 := lA κ q16 ((r (2 * y.toNatClampNeg + 1)) * 5) F17 :: gO q15 (r (2 * y.toNatClampNeg + 1)) (r (2 * y.toNatClampNeg)) q16 :: mw κ a r f (va_up q 3 t11) (va_up (tb a) y.toNatClampNeg (some q15)) w) (congrArg (List.cons _) (congrArg (List.cons _) (mwST _))) dX10_flip_35 (fun H locs hB => ?_)
    obtain ⟨a19, ha20, hg21, hB⟩ := Bd_repl2 (t := y.toNatClampNeg) (by omega) hB
    have hba19 := mok_r hm y.toNatClampNeg (by omega)
    refine lv_aload_n hx hb dX10_flip_36 rfl (lv_at hl 0 rfl) ?_
    refine lv_aload_n hx hb dX10_flip_37 rfl (lv_at hl 0 rfl) ?_
    refine gf (k0 := 0) hX hB (mw0x (a := a19) (r := (va_up (va_up r (2 * y.toNatClampNeg) (r (2 * y.toNatClampNeg + 1))) (2 * y.toNatClampNeg + 1) (r (2 * y.toNatClampNeg)))) (f := (va_up f y.toNatClampNeg F17)) (q := (va_up q 3 t11)) (T := tb a19) (w := w) (ha20.trans rfl)) rfl in10 0 (by decide) wm_5_162 rfl rfl dX10_flip_38 ?_
    refine lv_iload_n hx hb dX10_flip_41 rfl (lv_at hl 1 rfl) ?_
    refine aaldM (k0 := 1) hX hB (mw1 (a := a19) (r := (va_up (va_up r (2 * y.toNatClampNeg) (r (2 * y.toNatClampNeg + 1))) (2 * y.toNatClampNeg + 1) (r (2 * y.toNatClampNeg)))) (f := (va_up f y.toNatClampNeg F17)) (q := (va_up q 3 t11)) (T := tb a19) (w := w)) (vp_in_mk (by assumption) (by assumption)) rfl dX10_flip_42 ?_
    have hb22 := mok_r (mok_repl (t := y.toNatClampNeg) (R := (r (2 * y.toNatClampNeg + 1))) (C := (r (2 * y.toNatClampNeg))) (F := F17) hm ⟨by omega, by omega, by omega, by omega⟩ hf18) y.toNatClampNeg (by omega)
    refine gf (k0 := 2 + 2 * y.toNatClampNeg) hX hB (mwG (i := y.toNatClampNeg) (a := a19) (r := (va_up (va_up r (2 * y.toNatClampNeg) (r (2 * y.toNatClampNeg + 1))) (2 * y.toNatClampNeg + 1) (r (2 * y.toNatClampNeg)))) (f := (va_up f y.toNatClampNeg F17)) (q := (va_up q 3 t11)) (T := tb a19) (w := w) (by omega)) rfl in7 0 (by decide) wm_5_148 rfl rfl dX10_flip_43 ?_
    refine call_V (n := 1) (k0 := 0) (As := [.int (nI ((va_up (va_up r (2 * y.toNatClampNeg) (r (2 * y.toNatClampNeg + 1))) (2 * y.toNatClampNeg + 1) (r (2 * y.toNatClampNeg))) (2 * y.toNatClampNeg)))]) (rest := []) hX hB (k_X10_told κ l (mw κ a19 (va_up (va_up r (2 * y.toNatClampNeg) (r (2 * y.toNatClampNeg + 1))) (2 * y.toNatClampNeg + 1) (r (2 * y.toNatClampNeg))) (va_up f y.toNatClampNeg F17) (va_up q 3 t11) (tb a19) w) 0 (a 0) (a19 1) ((va_up q 3 t11) 0) ((va_up q 3 t11) 1) ((va_up q 3 t11) 2) ((va_up q 3 t11) 3) (nI ((va_up (va_up r (2 * y.toNatClampNeg) (r (2 * y.toNatClampNeg + 1))) (2 * y.toNatClampNeg + 1) (r (2 * y.toNatClampNeg))) (2 * y.toNatClampNeg))) (mw0x (a := a19) (r := (va_up (va_up r (2 * y.toNatClampNeg) (r (2 * y.toNatClampNeg + 1))) (2 * y.toNatClampNeg + 1) (r (2 * y.toNatClampNeg)))) (f := (va_up f y.toNatClampNeg F17)) (q := (va_up q 3 t11)) (T := tb a19) (w := w) (ha20.trans rfl))) ⟨rfl, by decide, by decide, by decide +kernel⟩ wm_5_204 wm_5_206 wp_30 wm_1_6 wm_5_207 ⟨Nat.le_of_ble_eq_true rfl, Nat.le_of_ble_eq_true rfl⟩ ⟨Nat.le_of_ble_eq_true rfl, Nat.le_of_ble_eq_true rfl⟩ (mw0x (a := a19) (r := (va_up (va_up r (2 * y.toNatClampNeg) (r (2 * y.toNatClampNeg + 1))) (2 * y.toNatClampNeg + 1) (r (2 * y.toNatClampNeg)))) (f := (va_up f y.toNatClampNeg F17)) (q := (va_up q 3 t11)) (T := tb a19) (w := w) (ha20.trans rfl)) rfl rfl rfl hl.1 rfl (Nat.le_of_ble_eq_true rfl) dX10_flip_46 (fun o w' H locs hp hB => ?_)
    obtain ⟨rfl, hw9⟩ := hp
    replace hB : Bd κ A s (mw κ a19 (va_up (va_up r (2 * y.toNatClampNeg) (r (2 * y.toNatClampNeg + 1))) (2 * y.toNatClampNeg + 1) (r (2 * y.toNatClampNeg))) (va_up f y.toNatClampNeg F17) (va_up (va_up q 3 t11) 0 (((va_up q 3 t11) 0) + 1)) (tb a19) w) H locs := by exact Bd_eq (mwQ0x (ha20.trans rfl) _) (by rw [hw9] at hB; exact hB)
    refine W.eq (g2 := F0 m 49 ls [.int (nI ((va_up (va_up r (2 * y.toNatClampNeg) (r (2 * y.toNatClampNeg + 1))) (2 * y.toNatClampNeg + 1) (r (2 * y.toNatClampNeg))) (2 * y.toNatClampNeg)))]) rfl ?_
    rw [← hQ]
    exact end_i hX hB hA3 rfl rfl ⟨(nI ((va_up (va_up r (2 * y.toNatClampNeg) (r (2 * y.toNatClampNeg + 1))) (2 * y.toNatClampNeg + 1) (r (2 * y.toNatClampNeg))) (2 * y.toNatClampNeg))), a19, (va_up (va_up r (2 * y.toNatClampNeg) (r (2 * y.toNatClampNeg + 1))) (2 * y.toNatClampNeg + 1) (r (2 * y.toNatClampNeg))), (va_up f y.toNatClampNeg F17), (va_up (va_up q 3 t11) 0 (((va_up q 3 t11) 0) + 1)), rfl, (ha20.trans rfl), (mok_repl (t := y.toNatClampNeg) (R := (r (2 * y.toNatClampNeg + 1))) (C := (r (2 * y.toNatClampNeg))) (F := F17) hm ⟨by omega, by omega, by omega, by omega⟩ hf18), rfl, rfl⟩ (Nat.le_of_ble_eq_true rfl) (Nat.le_of_ble_eq_true rfl) dX10_flip_49
set_option maxHeartbeats 4000000 in
set_option maxRecDepth 100000 in
theorem k_X10_exchange (κ : Kt) (l : Launch) (w : va_W) (a r : Nat → Nat) (f : Nat → Nat → Int64) (q : Nat → Int32) (y : Int32) (c0 : Int32) (z : Int32) (u : Int32) (hm : mok r f) : CM κ l yX10_exchange cX10_exchange 6 (some .int) 3 65 2 23 [.ref (a 0), .int y, .int c0, .int z, .int u] (mw κ a r f q (tb a) w) (fun o w' => ∃ (x : Int32) (a' : Nat → Nat) (r' : Nat → Nat) (f' : Nat → Nat → Int64) (q' : Nat → Int32), o = some (.int x) ∧ (a' 0 = a 0) ∧ (mok r' f') ∧ (q' 2 = q 2) ∧ w' = mw κ a' r' f' q' (tb a') w) := by
  refine CM_begin (plainFor_of_name (by decide)) (Nat.le_of_ble_eq_true rfl) ?_
  intro p e s m args below meth c A Q hX hnm hA3 hQ hB ls hl
  have hx := hX.1.1
  have hb := hX.1.2.1
  have hl : lv_has ls 6 [(0, .ref (a 0)), (1, .int y), (2, .int c0), (3, .int z), (4, .int u)] := hl
  refine lv_aload_n hx hb dX10_exchange_0 rfl (lv_at hl 0 rfl) ?_
  refine lv_aload_n hx hb dX10_exchange_1 rfl (lv_at hl 0 rfl) ?_
  refine lv_iload_n hx hb dX10_exchange_2 rfl (lv_at hl 1 rfl) ?_
  refine lv_iload_n hx hb dX10_exchange_3 rfl (lv_at hl 2 rfl) ?_
  refine lv_iload_n hx hb dX10_exchange_4 rfl (lv_at hl 3 rfl) ?_
  refine call_V (n := 3) (k0 := 0) (As := [.int y, .int c0, .int z]) (rest := [.ref (a 0)]) hX hB (k_X10_isLine κ l w a r f q y c0 z hm) ⟨rfl, by decide, by decide, by decide +kernel⟩ wm_6_38 wm_6_40 wp_34 wm_1_6 wm_6_41 ⟨Nat.le_of_ble_eq_true rfl, Nat.le_of_ble_eq_true rfl⟩ ⟨Nat.le_of_ble_eq_true rfl, Nat.le_of_ble_eq_true rfl⟩ (mw0x (a := a) (r := r) (f := f) (q := q) (T := tb a) (w := w) rfl) rfl rfl rfl hl.1 rfl (Nat.le_of_ble_eq_true rfl) dX10_exchange_5 (fun o w' H locs hp hB => ?_)
  obtain ⟨x1, rfl, hf2, hw9⟩ := hp
  replace hB : Bd κ A s (mw κ a r f q (tb a) w) H locs := by rw [hw9] at hB; exact hB
  rcases hf2 with rfl | ⟨rfl, hz3a, hz3b, hz3c, hz3d, hz3e⟩
  · refine W.eq (g2 := F0 m 8 ls [.int 0, .ref (a 0)]) rfl ?_
    refine lv_if_eq (tgt := 22) hx hb dX10_exchange_8 (by decide) (fun _ => ?_) (fun c4 => False.elim (by revert c4; decide))
    refine lv_iconst (v := 1) hx hb dX10_exchange_22 (by decide) ?_
    refine lv_goto (tgt := 27) hx hb dX10_exchange_23 (by decide) ?_
    refine call_V (n := 1) (k0 := 0) (As := [.int 1]) (rest := []) hX hB (k_X10_isThrown__ κ l (mw κ a r f q (tb a) w) 0 (a 0) (a 1) (q 0) (q 1) (q 2) (q 3) 1 (mw0x (a := a) (r := r) (f := f) (q := q) (T := tb a) (w := w) rfl)) ⟨rfl, by decide, by decide, by decide +kernel⟩ wm_6_11 wm_6_13 wp_33 wm_1_6 wm_6_14 ⟨Nat.le_of_ble_eq_true rfl, Nat.le_of_ble_eq_true rfl⟩ ⟨Nat.le_of_ble_eq_true rfl, Nat.le_of_ble_eq_true rfl⟩ (mw0x (a := a) (r := r) (f := f) (q := q) (T := tb a) (w := w) rfl) rfl rfl rfl hl.1 rfl (Nat.le_of_ble_eq_true rfl) dX10_exchange_27 (fun o w' H locs hp hB => ?_)
    obtain ⟨x5, t6, rfl, hf7, hw9⟩ := hp
    replace hB : Bd κ A s (mw κ a r f (va_up q 3 t6) (tb a) w) H locs := by exact Bd_eq (mwQ3x rfl _) (by rw [hw9] at hB; exact hB)
    obtain rfl : x5 = 1 := hf7.trans (by decide)
    refine W.eq (g2 := F0 m 30 ls [.int 1]) rfl ?_
    refine lv_if_eq (tgt := 35) hx hb dX10_exchange_30 (by decide) (fun c8 => False.elim (by revert c8; decide)) (fun _ => ?_)
    refine lv_iconst (v := 0) hx hb dX10_exchange_33 (by decide) ?_
    rw [← hQ]
    exact end_i hX hB hA3 rfl rfl ⟨0, a, r, f, (va_up q 3 t6), rfl, rfl, hm, rfl, rfl⟩ (Nat.le_of_ble_eq_true rfl) (Nat.le_of_ble_eq_true rfl) dX10_exchange_34
  · refine W.eq (g2 := F0 m 8 ls [.int 1, .ref (a 0)]) rfl ?_
    refine lv_if_eq (tgt := 22) hx hb dX10_exchange_8 (by decide) (fun c9 => False.elim (by revert c9; decide)) (fun _ => ?_)
    refine lv_aload_n hx hb dX10_exchange_11 rfl (lv_at hl 0 rfl) ?_
    refine lv_iload_n hx hb dX10_exchange_12 rfl (lv_at hl 1 rfl) ?_
    refine lv_iload_n hx hb dX10_exchange_13 rfl (lv_at hl 2 rfl) ?_
    refine lv_iload hx hb dX10_exchange_14 (lv_at hl 4 rfl) ?_
    refine call_V (n := 3) (k0 := 0) (As := [.int y, .int c0, .int u]) (rest := [.ref (a 0)]) hX hB (k_X10_isLine κ l w a r f q y c0 u hm) ⟨rfl, by decide, by decide, by decide +kernel⟩ wm_6_38 wm_6_40 wp_34 wm_1_6 wm_6_41 ⟨Nat.le_of_ble_eq_true rfl, Nat.le_of_ble_eq_true rfl⟩ ⟨Nat.le_of_ble_eq_true rfl, Nat.le_of_ble_eq_true rfl⟩ (mw0x (a := a) (r := r) (f := f) (q := q) (T := tb a) (w := w) rfl) rfl rfl rfl hl.1 rfl (Nat.le_of_ble_eq_true rfl) dX10_exchange_16 (fun o w' H locs hp hB => ?_)
    obtain ⟨x10, rfl, hf11, hw9⟩ := hp
    replace hB : Bd κ A s (mw κ a r f q (tb a) w) H locs := by rw [hw9] at hB; exact hB
    rcases hf11 with rfl | ⟨rfl, hz12a, hz12b, hz12c, hz12d, hz12e⟩
    · refine W.eq (g2 := F0 m 19 ls [.int 0, .ref (a 0)]) rfl ?_
      refine lv_if_ne (tgt := 26) hx hb dX10_exchange_19 (by decide) (fun c13 => False.elim (by revert c13; decide)) (fun _ => ?_)
      refine lv_iconst (v := 1) hx hb dX10_exchange_22 (by decide) ?_
      refine lv_goto (tgt := 27) hx hb dX10_exchange_23 (by decide) ?_
      refine call_V (n := 1) (k0 := 0) (As := [.int 1]) (rest := []) hX hB (k_X10_isThrown__ κ l (mw κ a r f q (tb a) w) 0 (a 0) (a 1) (q 0) (q 1) (q 2) (q 3) 1 (mw0x (a := a) (r := r) (f := f) (q := q) (T := tb a) (w := w) rfl)) ⟨rfl, by decide, by decide, by decide +kernel⟩ wm_6_11 wm_6_13 wp_33 wm_1_6 wm_6_14 ⟨Nat.le_of_ble_eq_true rfl, Nat.le_of_ble_eq_true rfl⟩ ⟨Nat.le_of_ble_eq_true rfl, Nat.le_of_ble_eq_true rfl⟩ (mw0x (a := a) (r := r) (f := f) (q := q) (T := tb a) (w := w) rfl) rfl rfl rfl hl.1 rfl (Nat.le_of_ble_eq_true rfl) dX10_exchange_27 (fun o w' H locs hp hB => ?_)
      obtain ⟨x14, t15, rfl, hf16, hw9⟩ := hp
      replace hB : Bd κ A s (mw κ a r f (va_up q 3 t15) (tb a) w) H locs := by exact Bd_eq (mwQ3x rfl _) (by rw [hw9] at hB; exact hB)
      obtain rfl : x14 = 1 := hf16.trans (by decide)
      refine W.eq (g2 := F0 m 30 ls [.int 1]) rfl ?_
      refine lv_if_eq (tgt := 35) hx hb dX10_exchange_30 (by decide) (fun c17 => False.elim (by revert c17; decide)) (fun _ => ?_)
      refine lv_iconst (v := 0) hx hb dX10_exchange_33 (by decide) ?_
      rw [← hQ]
      exact end_i hX hB hA3 rfl rfl ⟨0, a, r, f, (va_up q 3 t15), rfl, rfl, hm, rfl, rfl⟩ (Nat.le_of_ble_eq_true rfl) (Nat.le_of_ble_eq_true rfl) dX10_exchange_34
    · refine W.eq (g2 := F0 m 19 ls [.int 1, .ref (a 0)]) rfl ?_
      refine lv_if_ne (tgt := 26) hx hb dX10_exchange_19 (by decide) (fun _ => ?_) (fun c18 => False.elim (by revert c18; decide))
      refine lv_iconst (v := 0) hx hb dX10_exchange_26 (by decide) ?_
      refine call_V (n := 1) (k0 := 0) (As := [.int 0]) (rest := []) hX hB (k_X10_isThrown__ κ l (mw κ a r f q (tb a) w) 0 (a 0) (a 1) (q 0) (q 1) (q 2) (q 3) 0 (mw0x (a := a) (r := r) (f := f) (q := q) (T := tb a) (w := w) rfl)) ⟨rfl, by decide, by decide, by decide +kernel⟩ wm_6_11 wm_6_13 wp_33 wm_1_6 wm_6_14 ⟨Nat.le_of_ble_eq_true rfl, Nat.le_of_ble_eq_true rfl⟩ ⟨Nat.le_of_ble_eq_true rfl, Nat.le_of_ble_eq_true rfl⟩ (mw0x (a := a) (r := r) (f := f) (q := q) (T := tb a) (w := w) rfl) rfl rfl rfl hl.1 rfl (Nat.le_of_ble_eq_true rfl) dX10_exchange_27 (fun o w' H locs hp hB => ?_)
      obtain ⟨x19, t20, rfl, hf21, hw9⟩ := hp
      replace hB : Bd κ A s (mw κ a r f (va_up q 3 t20) (tb a) w) H locs := by exact Bd_eq (mwQ3x rfl _) (by rw [hw9] at hB; exact hB)
      obtain rfl : x19 = 0 := hf21.trans (by decide)
      refine W.eq (g2 := F0 m 30 ls [.int 0]) rfl ?_
      refine lv_if_eq (tgt := 35) hx hb dX10_exchange_30 (by decide) (fun _ => ?_) (fun c22 => False.elim (by revert c22; decide))
      refine lv_aload_n hx hb dX10_exchange_35 rfl (lv_at hl 0 rfl) ?_
      refine gf (k0 := 0) hX hB (mw0x (a := a) (r := r) (f := f) (q := (va_up q 3 t20)) (T := tb a) (w := w) rfl) rfl in10 0 (by decide) wm_5_162 rfl rfl dX10_exchange_36 ?_
      refine lv_iload_n hx hb dX10_exchange_39 rfl (lv_at hl 1 rfl) ?_
      refine aaldM (k0 := 1) hX hB (mw1 (a := a) (r := r) (f := f) (q := (va_up q 3 t20)) (T := tb a) (w := w)) (vp_in_mk (by assumption) (by assumption)) rfl dX10_exchange_40 ?_
      have hb23 := mok_r hm y.toNatClampNeg (by omega)
      refine call_V (n := 0) (k0 := (2 + 2 * y.toNatClampNeg)) (As := []) (rest := []) hX hB (k_X7_copy κ l (mw κ a r f (va_up q 3 t20) (tb a) w) (2 + 2 * y.toNatClampNeg) (3 + 2 * y.toNatClampNeg) (a (2 + 2 * y.toNatClampNeg)) (a (3 + 2 * y.toNatClampNeg)) (r (2 * y.toNatClampNeg)) (r (2 * y.toNatClampNeg + 1)) (f y.toNatClampNeg) (mwG (i := y.toNatClampNeg) (a := a) (r := r) (f := f) (q := (va_up q 3 t20)) (T := tb a) (w := w) (by omega)) (mwA (i := y.toNatClampNeg) (a := a) (r := r) (f := f) (q := (va_up q 3 t20)) (T := tb a) (w := w) (by omega)) (mok_shp (i := y.toNatClampNeg) hm (by omega))) ⟨rfl, by decide, by decide, by decide +kernel⟩ wm_6_19 wm_6_20 wm_6_21 wm_1_7 wm_6_22 ⟨Nat.le_of_ble_eq_true rfl, Nat.le_of_ble_eq_true rfl⟩ ⟨Nat.le_of_ble_eq_true rfl, Nat.le_of_ble_eq_true rfl⟩ (mwG (i := y.toNatClampNeg) (a := a) (r := r) (f := f) (q := (va_up q 3 t20)) (T := tb a) (w := w) (by omega)) rfl rfl rfl hl.1 rfl (Nat.le_of_ble_eq_true rfl) dX10_exchange_41 (fun o w' H locs hp hB => ?_)
      obtain ⟨q24, q25, F26, rfl, hf27, hw9⟩ := hp
      replace hB : Bd κ A s (lA κ q25 ((r (2 * y.toNatClampNeg)) * 5) F26 :: gO q24 (r (2 * y.toNatClampNeg)) (r (2 * y.toNatClampNeg + 1)) q25 :: mw κ a r f (va_up q 3 t20) (tb a) w) H locs := by rw [hw9] at hB; exact hB
      have hscF26 : ∀ k, k < (r (2 * y.toNatClampNeg)) * 5 → sm (F26 k) := fun k hk => by rw [hf27 k hk]; exact (hm _ (by omega)).2 k hk
      refine W.eq (g2 := F0 m 44 ls [.ref q24]) rfl ?_
      refine lv_astore (lv' := [(5, .ref q24), (0, .ref (a 0)), (1, .int y), (2, .int c0), (3, .int z), (4, .int u)]) hx hb dX10_exchange_44 hl (by decide) rfl (fun ls hl => ?_)
      refine lv_iload_n hx hb dX10_exchange_46 rfl (lv_at hl 3 rfl) ?_
      refine lv_if_eq (tgt := 61) hx hb dX10_exchange_47 (by decide) (fun c28 => ?_) (fun c28 => ?_)
      · have hz3l := hz3d c28
        have hz12l := hz12d c28
        refine lv_aload hx hb dX10_exchange_61 (lv_at hl 0 rfl) ?_
        refine lv_iload_n hx hb dX10_exchange_63 rfl (lv_at hl 4 rfl) ?_
        refine lv_iload hx hb dX10_exchange_64 (lv_at hl 5 rfl) ?_
        refine call_V (n := 2) (k0 := 1) (As := [.int z, .int u]) (rest := []) hX hB (k_X7_exchangeRows κ l (lA κ q25 ((r (2 * y.toNatClampNeg)) * 5) F26 :: gO q24 (r (2 * y.toNatClampNeg)) (r (2 * y.toNatClampNeg + 1)) q25 :: mw κ a r f (va_up q 3 t20) (tb a) w) 1 0 q24 q25 (r (2 * y.toNatClampNeg)) (r (2 * y.toNatClampNeg + 1)) F26 z ((z).toNatClampNeg) u ((u).toNatClampNeg) rfl rfl ⟨by omega, by omega, by omega, by omega⟩ (nI_rep (by assumption)) (nI_rep (by assumption)) (by omega) (by omega)) ⟨rfl, by decide, by decide, by decide +kernel⟩ wm_6_47 wm_6_48 wm_6_49 wm_1_7 wm_6_50 ⟨Nat.le_of_ble_eq_true rfl, Nat.le_of_ble_eq_true rfl⟩ ⟨Nat.le_of_ble_eq_true rfl, Nat.le_of_ble_eq_true rfl⟩ rfl rfl rfl rfl hl.1 rfl (Nat.le_of_ble_eq_true rfl) dX10_exchange_66 (fun o w' H locs hp hB => ?_)
        obtain ⟨rfl, hw9⟩ := hp
        replace hB : Bd κ A s (lA κ q25 ((r (2 * y.toNatClampNeg)) * 5) (xr (r (2 * y.toNatClampNeg + 1)) ((z).toNatClampNeg) ((u).toNatClampNeg) F26) :: gO q24 (r (2 * y.toNatClampNeg)) (r (2 * y.toNatClampNeg + 1)) q25 :: mw κ a r f (va_up q 3 t20) (tb a) w) H locs := by rw [hw9] at hB; exact hB
        refine W.eq (g2 := F0 m 69 ls []) rfl ?_
        refine lv_aload_n hx hb dX10_exchange_69 rfl (lv_at hl 1 rfl) ?_
        refine lv_iload_n hx hb dX10_exchange_70 rfl (lv_at hl 2 rfl) ?_
        refine lv_aload hx hb dX10_exchange_71 (lv_at hl 0 rfl) ?_
        refine call_V (n := 2) (k0 := 2) (As := [.int y, .ref q24]) (rest := []) hX hB (k_X10_changed κ l w a r f (va_up q 3 t20) y q24 q25 (r (2 * y.toNatClampNeg)) (r (2 * y.toNatClampNeg + 1)) (xr (r (2 * y.toNatClampNeg + 1)) ((z).toNatClampNeg) ((u).toNatClampNeg) F26) hm ⟨by omega, by omega, by omega, by omega⟩ (by assumption) (by assumption) (by omega) (sm_xr (by omega) (by omega) hscF26)) ⟨rfl, by decide, by decide, by decide +kernel⟩ wm_6_51 wm_6_53 wp_35 wm_1_6 wm_6_54 ⟨Nat.le_of_ble_eq_true rfl, Nat.le_of_ble_eq_true rfl⟩ ⟨Nat.le_of_ble_eq_true rfl, Nat.le_of_ble_eq_true rfl⟩ (mw0x (a := a) (r := r) (f := f) (q := (va_up q 3 t20)) (T := tb a) (w := w) rfl) rfl rfl rfl hl.1 rfl (Nat.le_of_ble_eq_true rfl) dX10_exchange_73 (fun o w' H locs hp hB => ?_)
        obtain ⟨x29, an30, rn31, fn32, qn33, rfl, hf34, hf35, hf36, hw9⟩ := hp
        replace hB : Bd κ A s (mw κ an30 rn31 fn32 qn33 (tb an30) w) H locs := by rw [hw9] at hB; exact hB
        refine W.eq (g2 := F0 m 76 ls [.int x29]) rfl ?_
        rw [← hQ]
        exact end_i hX hB hA3 rfl rfl ⟨x29, an30, rn31, fn32, qn33, rfl, (hf34.trans rfl), hf35, (hf36.trans rfl), rfl⟩ (Nat.le_of_ble_eq_true rfl) (Nat.le_of_ble_eq_true rfl) dX10_exchange_76
      · have hz3l := hz3e c28
        have hz12l := hz12e c28
        refine lv_aload hx hb dX10_exchange_50 (lv_at hl 0 rfl) ?_
        refine lv_iload_n hx hb dX10_exchange_52 rfl (lv_at hl 4 rfl) ?_
        refine lv_iload hx hb dX10_exchange_53 (lv_at hl 5 rfl) ?_
        refine call_V (n := 2) (k0 := 1) (As := [.int z, .int u]) (rest := []) hX hB (k_X7_exchangeColumns κ l (lA κ q25 ((r (2 * y.toNatClampNeg)) * 5) F26 :: gO q24 (r (2 * y.toNatClampNeg)) (r (2 * y.toNatClampNeg + 1)) q25 :: mw κ a r f (va_up q 3 t20) (tb a) w) 1 0 q24 q25 (r (2 * y.toNatClampNeg)) (r (2 * y.toNatClampNeg + 1)) F26 z ((z).toNatClampNeg) u ((u).toNatClampNeg) rfl rfl ⟨by omega, by omega, by omega, by omega⟩ (nI_rep (by assumption)) (nI_rep (by assumption)) (by omega) (by omega)) ⟨rfl, by decide, by decide, by decide +kernel⟩ wm_6_42 wm_6_43 wm_6_44 wm_1_7 wm_6_45 ⟨Nat.le_of_ble_eq_true rfl, Nat.le_of_ble_eq_true rfl⟩ ⟨Nat.le_of_ble_eq_true rfl, Nat.le_of_ble_eq_true rfl⟩ rfl rfl rfl rfl hl.1 rfl (Nat.le_of_ble_eq_true rfl) dX10_exchange_55 (fun o w' H locs hp hB => ?_)
        obtain ⟨rfl, hw9⟩ := hp
        replace hB : Bd κ A s (lA κ q25 ((r (2 * y.toNatClampNeg)) * 5) (xc (r (2 * y.toNatClampNeg)) ((z).toNatClampNeg) ((u).toNatClampNeg) F26) :: gO q24 (r (2 * y.toNatClampNeg)) (r (2 * y.toNatClampNeg + 1)) q25 :: mw κ a r f (va_up q 3 t20) (tb a) w) H locs := by rw [hw9] at hB; exact hB
        refine W.eq (g2 := F0 m 58 ls []) rfl ?_
        refine lv_goto (tgt := 69) hx hb dX10_exchange_58 (by decide) ?_
        refine lv_aload_n hx hb dX10_exchange_69 rfl (lv_at hl 1 rfl) ?_
        refine lv_iload_n hx hb dX10_exchange_70 rfl (lv_at hl 2 rfl) ?_
        refine lv_aload hx hb dX10_exchange_71 (lv_at hl 0 rfl) ?_
        refine call_V (n := 2) (k0 := 2) (As := [.int y, .ref q24]) (rest := []) hX hB (k_X10_changed κ l w a r f (va_up q 3 t20) y q24 q25 (r (2 * y.toNatClampNeg)) (r (2 * y.toNatClampNeg + 1)) (xc (r (2 * y.toNatClampNeg)) ((z).toNatClampNeg) ((u).toNatClampNeg) F26) hm ⟨by omega, by omega, by omega, by omega⟩ (by assumption) (by assumption) (by omega) (sm_xc (by omega) (by omega) hscF26)) ⟨rfl, by decide, by decide, by decide +kernel⟩ wm_6_51 wm_6_53 wp_35 wm_1_6 wm_6_54 ⟨Nat.le_of_ble_eq_true rfl, Nat.le_of_ble_eq_true rfl⟩ ⟨Nat.le_of_ble_eq_true rfl, Nat.le_of_ble_eq_true rfl⟩ (mw0x (a := a) (r := r) (f := f) (q := (va_up q 3 t20)) (T := tb a) (w := w) rfl) rfl rfl rfl hl.1 rfl (Nat.le_of_ble_eq_true rfl) dX10_exchange_73 (fun o w' H locs hp hB => ?_)
        obtain ⟨x37, an38, rn39, fn40, qn41, rfl, hf42, hf43, hf44, hw9⟩ := hp
        replace hB : Bd κ A s (mw κ an38 rn39 fn40 qn41 (tb an38) w) H locs := by rw [hw9] at hB; exact hB
        refine W.eq (g2 := F0 m 76 ls [.int x37]) rfl ?_
        rw [← hQ]
        exact end_i hX hB hA3 rfl rfl ⟨x37, an38, rn39, fn40, qn41, rfl, (hf42.trans rfl), hf43, (hf44.trans rfl), rfl⟩ (Nat.le_of_ble_eq_true rfl) (Nat.le_of_ble_eq_true rfl) dX10_exchange_76
set_option maxHeartbeats 4000000 in
set_option maxRecDepth 100000 in
theorem k_X10_turn (κ : Kt) (l : Launch) (w : va_W) (a r : Nat → Nat) (f : Nat → Nat → Int64) (q : Nat → Int32) (y : Int32) (c0 : Int32) (z : Int32) (hm : mok r f) : CM κ l yX10_turn cX10_turn 6 (some .int) 3 65 2 23 [.ref (a 0), .int y, .int c0, .int z] (mw κ a r f q (tb a) w) (fun o w' => ∃ (x : Int32) (a' : Nat → Nat) (r' : Nat → Nat) (f' : Nat → Nat → Int64) (q' : Nat → Int32), o = some (.int x) ∧ (a' 0 = a 0) ∧ (mok r' f') ∧ (q' 2 = q 2) ∧ w' = mw κ a' r' f' q' (tb a') w) := by
  refine CM_begin (plainFor_of_name (by decide)) (Nat.le_of_ble_eq_true rfl) ?_
  intro p e s m args below meth c A Q hX hnm hA3 hQ hB ls hl
  have hx := hX.1.1
  have hb := hX.1.2.1
  have hl : lv_has ls 6 [(0, .ref (a 0)), (1, .int y), (2, .int c0), (3, .int z)] := hl
  refine lv_aload_n hx hb dX10_turn_0 rfl (lv_at hl 0 rfl) ?_
  refine lv_aload_n hx hb dX10_turn_1 rfl (lv_at hl 0 rfl) ?_
  refine lv_iload_n hx hb dX10_turn_2 rfl (lv_at hl 1 rfl) ?_
  refine lv_iload_n hx hb dX10_turn_3 rfl (lv_at hl 2 rfl) ?_
  refine lv_iload_n hx hb dX10_turn_4 rfl (lv_at hl 3 rfl) ?_
  refine call_V (n := 3) (k0 := 0) (As := [.int y, .int c0, .int z]) (rest := [.ref (a 0)]) hX hB (k_X10_isLine κ l w a r f q y c0 z hm) ⟨rfl, by decide, by decide, by decide +kernel⟩ wm_6_38 wm_6_40 wp_34 wm_1_6 wm_6_41 ⟨Nat.le_of_ble_eq_true rfl, Nat.le_of_ble_eq_true rfl⟩ ⟨Nat.le_of_ble_eq_true rfl, Nat.le_of_ble_eq_true rfl⟩ (mw0x (a := a) (r := r) (f := f) (q := q) (T := tb a) (w := w) rfl) rfl rfl rfl hl.1 rfl (Nat.le_of_ble_eq_true rfl) dX10_turn_5 (fun o w' H locs hp hB => ?_)
  obtain ⟨x1, rfl, hf2, hw9⟩ := hp
  replace hB : Bd κ A s (mw κ a r f q (tb a) w) H locs := by rw [hw9] at hB; exact hB
  rcases hf2 with rfl | ⟨rfl, hz3a, hz3b, hz3c, hz3d, hz3e⟩
  · refine W.eq (g2 := F0 m 8 ls [.int 0, .ref (a 0)]) rfl ?_
    refine lv_if_ne (tgt := 15) hx hb dX10_turn_8 (by decide) (fun c4 => False.elim (by revert c4; decide)) (fun _ => ?_)
    refine lv_iconst (v := 1) hx hb dX10_turn_11 (by decide) ?_
    refine lv_goto (tgt := 16) hx hb dX10_turn_12 (by decide) ?_
    refine call_V (n := 1) (k0 := 0) (As := [.int 1]) (rest := []) hX hB (k_X10_isThrown__ κ l (mw κ a r f q (tb a) w) 0 (a 0) (a 1) (q 0) (q 1) (q 2) (q 3) 1 (mw0x (a := a) (r := r) (f := f) (q := q) (T := tb a) (w := w) rfl)) ⟨rfl, by decide, by decide, by decide +kernel⟩ wm_6_11 wm_6_13 wp_33 wm_1_6 wm_6_14 ⟨Nat.le_of_ble_eq_true rfl, Nat.le_of_ble_eq_true rfl⟩ ⟨Nat.le_of_ble_eq_true rfl, Nat.le_of_ble_eq_true rfl⟩ (mw0x (a := a) (r := r) (f := f) (q := q) (T := tb a) (w := w) rfl) rfl rfl rfl hl.1 rfl (Nat.le_of_ble_eq_true rfl) dX10_turn_16 (fun o w' H locs hp hB => ?_)
    obtain ⟨x5, t6, rfl, hf7, hw9⟩ := hp
    replace hB : Bd κ A s (mw κ a r f (va_up q 3 t6) (tb a) w) H locs := by exact Bd_eq (mwQ3x rfl _) (by rw [hw9] at hB; exact hB)
    obtain rfl : x5 = 1 := hf7.trans (by decide)
    refine W.eq (g2 := F0 m 19 ls [.int 1]) rfl ?_
    refine lv_if_eq (tgt := 24) hx hb dX10_turn_19 (by decide) (fun c8 => False.elim (by revert c8; decide)) (fun _ => ?_)
    refine lv_iconst (v := 0) hx hb dX10_turn_22 (by decide) ?_
    rw [← hQ]
    exact end_i hX hB hA3 rfl rfl ⟨0, a, r, f, (va_up q 3 t6), rfl, rfl, hm, rfl, rfl⟩ (Nat.le_of_ble_eq_true rfl) (Nat.le_of_ble_eq_true rfl) dX10_turn_23
  · refine W.eq (g2 := F0 m 8 ls [.int 1, .ref (a 0)]) rfl ?_
    refine lv_if_ne (tgt := 15) hx hb dX10_turn_8 (by decide) (fun _ => ?_) (fun c9 => False.elim (by revert c9; decide))
    refine lv_iconst (v := 0) hx hb dX10_turn_15 (by decide) ?_
    refine call_V (n := 1) (k0 := 0) (As := [.int 0]) (rest := []) hX hB (k_X10_isThrown__ κ l (mw κ a r f q (tb a) w) 0 (a 0) (a 1) (q 0) (q 1) (q 2) (q 3) 0 (mw0x (a := a) (r := r) (f := f) (q := q) (T := tb a) (w := w) rfl)) ⟨rfl, by decide, by decide, by decide +kernel⟩ wm_6_11 wm_6_13 wp_33 wm_1_6 wm_6_14 ⟨Nat.le_of_ble_eq_true rfl, Nat.le_of_ble_eq_true rfl⟩ ⟨Nat.le_of_ble_eq_true rfl, Nat.le_of_ble_eq_true rfl⟩ (mw0x (a := a) (r := r) (f := f) (q := q) (T := tb a) (w := w) rfl) rfl rfl rfl hl.1 rfl (Nat.le_of_ble_eq_true rfl) dX10_turn_16 (fun o w' H locs hp hB => ?_)
    obtain ⟨x10, t11, rfl, hf12, hw9⟩ := hp
    replace hB : Bd κ A s (mw κ a r f (va_up q 3 t11) (tb a) w) H locs := by exact Bd_eq (mwQ3x rfl _) (by rw [hw9] at hB; exact hB)
    obtain rfl : x10 = 0 := hf12.trans (by decide)
    refine W.eq (g2 := F0 m 19 ls [.int 0]) rfl ?_
    refine lv_if_eq (tgt := 24) hx hb dX10_turn_19 (by decide) (fun _ => ?_) (fun c13 => False.elim (by revert c13; decide))
    refine lv_aload_n hx hb dX10_turn_24 rfl (lv_at hl 0 rfl) ?_
    refine gf (k0 := 0) hX hB (mw0x (a := a) (r := r) (f := f) (q := (va_up q 3 t11)) (T := tb a) (w := w) rfl) rfl in10 0 (by decide) wm_5_162 rfl rfl dX10_turn_25 ?_
    refine lv_iload_n hx hb dX10_turn_28 rfl (lv_at hl 1 rfl) ?_
    refine aaldM (k0 := 1) hX hB (mw1 (a := a) (r := r) (f := f) (q := (va_up q 3 t11)) (T := tb a) (w := w)) (vp_in_mk (by assumption) (by assumption)) rfl dX10_turn_29 ?_
    have hb14 := mok_r hm y.toNatClampNeg (by omega)
    refine call_V (n := 0) (k0 := (2 + 2 * y.toNatClampNeg)) (As := []) (rest := []) hX hB (k_X7_copy κ l (mw κ a r f (va_up q 3 t11) (tb a) w) (2 + 2 * y.toNatClampNeg) (3 + 2 * y.toNatClampNeg) (a (2 + 2 * y.toNatClampNeg)) (a (3 + 2 * y.toNatClampNeg)) (r (2 * y.toNatClampNeg)) (r (2 * y.toNatClampNeg + 1)) (f y.toNatClampNeg) (mwG (i := y.toNatClampNeg) (a := a) (r := r) (f := f) (q := (va_up q 3 t11)) (T := tb a) (w := w) (by omega)) (mwA (i := y.toNatClampNeg) (a := a) (r := r) (f := f) (q := (va_up q 3 t11)) (T := tb a) (w := w) (by omega)) (mok_shp (i := y.toNatClampNeg) hm (by omega))) ⟨rfl, by decide, by decide, by decide +kernel⟩ wm_6_19 wm_6_20 wm_6_21 wm_1_7 wm_6_22 ⟨Nat.le_of_ble_eq_true rfl, Nat.le_of_ble_eq_true rfl⟩ ⟨Nat.le_of_ble_eq_true rfl, Nat.le_of_ble_eq_true rfl⟩ (mwG (i := y.toNatClampNeg) (a := a) (r := r) (f := f) (q := (va_up q 3 t11)) (T := tb a) (w := w) (by omega)) rfl rfl rfl hl.1 rfl (Nat.le_of_ble_eq_true rfl) dX10_turn_30 (fun o w' H locs hp hB => ?_)
    obtain ⟨q15, q16, F17, rfl, hf18, hw9⟩ := hp
    replace hB : Bd κ A s (lA κ q16 ((r (2 * y.toNatClampNeg)) * 5) F17 :: gO q15 (r (2 * y.toNatClampNeg)) (r (2 * y.toNatClampNeg + 1)) q16 :: mw κ a r f (va_up q 3 t11) (tb a) w) H locs := by rw [hw9] at hB; exact hB
    have hscF17 : ∀ k, k < (r (2 * y.toNatClampNeg)) * 5 → sm (F17 k) := fun k hk => by rw [hf18 k hk]; exact (hm _ (by omega)).2 k hk
    refine W.eq (g2 := F0 m 33 ls [.ref q15]) rfl ?_
    refine lv_astore (lv' := [(4, .ref q15), (0, .ref (a 0)), (1, .int y), (2, .int c0), (3, .int z)]) hx hb dX10_turn_33 hl (by decide) rfl (fun ls hl => ?_)
    refine lv_iload_n hx hb dX10_turn_35 rfl (lv_at hl 3 rfl) ?_
    refine lv_if_eq (tgt := 78) hx hb dX10_turn_36 (by decide) (fun c19 => ?_) (fun c19 => ?_)
    · have hz3l := hz3d c19
      refine lv_aload hx hb dX10_turn_78 (lv_at hl 0 rfl) ?_
      refine lv_iload_n hx hb dX10_turn_80 rfl (lv_at hl 4 rfl) ?_
      refine call_V (n := 1) (k0 := 1) (As := [.int z]) (rest := []) hX hB (k_X7_turnRow κ l (lA κ q16 ((r (2 * y.toNatClampNeg)) * 5) F17 :: gO q15 (r (2 * y.toNatClampNeg)) (r (2 * y.toNatClampNeg + 1)) q16 :: mw κ a r f (va_up q 3 t11) (tb a) w) 1 0 q15 q16 (r (2 * y.toNatClampNeg)) (r (2 * y.toNatClampNeg + 1)) F17 z ((z).toNatClampNeg) rfl rfl ⟨by omega, by omega, by omega, by omega⟩ (nI_rep (by assumption)) (by omega)) ⟨rfl, by decide, by decide, by decide +kernel⟩ wm_6_63 wm_6_64 wm_6_65 wm_1_7 wm_6_66 ⟨Nat.le_of_ble_eq_true rfl, Nat.le_of_ble_eq_true rfl⟩ ⟨Nat.le_of_ble_eq_true rfl, Nat.le_of_ble_eq_true rfl⟩ rfl rfl rfl rfl hl.1 rfl (Nat.le_of_ble_eq_true rfl) dX10_turn_81 (fun o w' H locs hp hB => ?_)
      obtain ⟨rfl, hw9⟩ := hp
      replace hB : Bd κ A s (lA κ q16 ((r (2 * y.toNatClampNeg)) * 5) (tr (r (2 * y.toNatClampNeg + 1)) ((z).toNatClampNeg) F17) :: gO q15 (r (2 * y.toNatClampNeg)) (r (2 * y.toNatClampNeg + 1)) q16 :: mw κ a r f (va_up q 3 t11) (tb a) w) H locs := by rw [hw9] at hB; exact hB
      refine W.eq (g2 := F0 m 84 ls []) rfl ?_
      refine lv_aload_n hx hb dX10_turn_84 rfl (lv_at hl 1 rfl) ?_
      refine lv_iload_n hx hb dX10_turn_85 rfl (lv_at hl 2 rfl) ?_
      refine lv_aload hx hb dX10_turn_86 (lv_at hl 0 rfl) ?_
      refine call_V (n := 2) (k0 := 2) (As := [.int y, .ref q15]) (rest := []) hX hB (k_X10_changed κ l w a r f (va_up q 3 t11) y q15 q16 (r (2 * y.toNatClampNeg)) (r (2 * y.toNatClampNeg + 1)) (tr (r (2 * y.toNatClampNeg + 1)) ((z).toNatClampNeg) F17) hm ⟨by omega, by omega, by omega, by omega⟩ (by assumption) (by assumption) (by omega) (sm_tr hscF17)) ⟨rfl, by decide, by decide, by decide +kernel⟩ wm_6_51 wm_6_53 wp_35 wm_1_6 wm_6_54 ⟨Nat.le_of_ble_eq_true rfl, Nat.le_of_ble_eq_true rfl⟩ ⟨Nat.le_of_ble_eq_true rfl, Nat.le_of_ble_eq_true rfl⟩ (mw0x (a := a) (r := r) (f := f) (q := (va_up q 3 t11)) (T := tb a) (w := w) rfl) rfl rfl rfl hl.1 rfl (Nat.le_of_ble_eq_true rfl) dX10_turn_88 (fun o w' H locs hp hB => ?_)
      obtain ⟨x20, an21, rn22, fn23, qn24, rfl, hf25, hf26, hf27, hw9⟩ := hp
      replace hB : Bd κ A s (mw κ an21 rn22 fn23 qn24 (tb an21) w) H locs := by rw [hw9] at hB; exact hB
      refine W.eq (g2 := F0 m 91 ls [.int x20]) rfl ?_
      rw [← hQ]
      exact end_i hX hB hA3 rfl rfl ⟨x20, an21, rn22, fn23, qn24, rfl, (hf25.trans rfl), hf26, (hf27.trans rfl), rfl⟩ (Nat.le_of_ble_eq_true rfl) (Nat.le_of_ble_eq_true rfl) dX10_turn_91
    · have hz3l := hz3e c19
      refine lv_iconst (v := 0) hx hb dX10_turn_39 (by decide) ?_
      refine lv_istore (lv' := [(5, .int 0), (4, .ref q15), (0, .ref (a 0)), (1, .int y), (2, .int c0), (3, .int z)]) hx hb dX10_turn_40 hl (by decide) rfl (fun ls hl => ?_)
      have lp42 : ∀ (nn : Nat) (y5_42 : Nat) (fq16_42 : Nat → Int64) (H : Heap) (locs : List Loc), (y5_42 ≤ (r (2 * y.toNatClampNeg))) → (∀ k, k < r (2 * y.toNatClampNeg) * 5 → sm (fq16_42 k)) → (r (2 * y.toNatClampNeg)) + 1 - y5_42 < nn → Bd κ A s (lA κ q16 ((r (2 * y.toNatClampNeg)) * 5) fq16_42 :: gO q15 (r (2 * y.toNatClampNeg)) (r (2 * y.toNatClampNeg + 1)) q16 :: mw κ a r f (va_up q 3 t11) (tb a) w) H locs → ∀ ls : Array Slot, lv_has ls 6 [(5, .int (nI y5_42)), (4, .ref q15), (0, .ref (a 0)), (1, .int y), (2, .int c0), (3, .int z)] → W p l e (Rm 3 65 2 23) s m args below meth c H locs 2 23 Q (F0 m 42 ls []) := by
        intro nn
        induction nn with
        | zero => intro y5_42 fq16_42 H locs hn5_42 hft hμ; exact absurd hμ (Nat.not_lt_zero _)
        | succ nn ih42 =>
          intro y5_42 fq16_42 H locs hn5_42 hft hμ42 hB ls hl
          refine lv_iload hx hb dX10_turn_42 (lv_at hl 0 rfl) ?_
          refine lv_aload hx hb dX10_turn_44 (lv_at hl 1 rfl) ?_
          refine gf (k0 := 1) hX hB rfl rfl in7 0 (by decide) wm_5_148 rfl rfl dX10_turn_46 ?_
          refine lv_icmp_ge (tgt := 75) hx hb dX10_turn_49 (by decide) (fun c46 => ?_) (fun c46 => ?_)
          · rw [nleP (a := r (2 * y.toNatClampNeg)) (b := y5_42) (by omega) (by omega)] at c46
            refine lv_goto (tgt := 84) hx hb dX10_turn_75 (by decide) ?_
            refine lv_aload_n hx hb dX10_turn_84 rfl (lv_at hl 2 rfl) ?_
            refine lv_iload_n hx hb dX10_turn_85 rfl (lv_at hl 3 rfl) ?_
            refine lv_aload hx hb dX10_turn_86 (lv_at hl 1 rfl) ?_
            refine call_V (n := 2) (k0 := 2) (As := [.int y, .ref q15]) (rest := []) hX hB (k_X10_changed κ l w a r f (va_up q 3 t11) y q15 q16 (r (2 * y.toNatClampNeg)) (r (2 * y.toNatClampNeg + 1)) fq16_42 hm ⟨by omega, by omega, by omega, by omega⟩ (by assumption) (by assumption) (by omega) hft) ⟨rfl, by decide, by decide, by decide +kernel⟩ wm_6_51 wm_6_53 wp_35 wm_1_6 wm_6_54 ⟨Nat.le_of_ble_eq_true rfl, Nat.le_of_ble_eq_true rfl⟩ ⟨Nat.le_of_ble_eq_true rfl, Nat.le_of_ble_eq_true rfl⟩ (mw0x (a := a) (r := r) (f := f) (q := (va_up q 3 t11)) (T := tb a) (w := w) rfl) rfl rfl rfl hl.1 rfl (Nat.le_of_ble_eq_true rfl) dX10_turn_88 (fun o w' H locs hp hB => ?_)
            obtain ⟨x47, an48, rn49, fn50, qn51, rfl, hf52, hf53, hf54, hw9⟩ := hp
            replace hB : Bd κ A s (mw κ an48 rn49 fn50 qn51 (tb an48) w) H locs := by rw [hw9] at hB; exact hB
            refine W.eq (g2 := F0 m 91 ls [.int x47]) rfl ?_
            rw [← hQ]
            exact end_i hX hB hA3 rfl rfl ⟨x47, an48, rn49, fn50, qn51, rfl, (hf52.trans rfl), hf53, (hf54.trans rfl), rfl⟩ (Nat.le_of_ble_eq_true rfl) (Nat.le_of_ble_eq_true rfl) dX10_turn_91
          · rw [nleP (a := r (2 * y.toNatClampNeg)) (b := y5_42) (by omega) (by omega)] at c46
            refine lv_aload hx hb dX10_turn_52 (lv_at hl 1 rfl) ?_
            refine lv_iload hx hb dX10_turn_54 (lv_at hl 0 rfl) ?_
            refine lv_iload_n hx hb dX10_turn_56 rfl (lv_at hl 5 rfl) ?_
            refine lv_aload hx hb dX10_turn_57 (lv_at hl 1 rfl) ?_
            refine lv_iload hx hb dX10_turn_59 (lv_at hl 0 rfl) ?_
            refine lv_iload_n hx hb dX10_turn_61 rfl (lv_at hl 5 rfl) ?_
            refine call_V (n := 2) (k0 := 1) (As := [.int (nI y5_42), .int z]) (rest := [.int z, .int (nI y5_42), .ref q15]) hX hB (k_X7_at κ l (lA κ q16 ((r (2 * y.toNatClampNeg)) * 5) fq16_42 :: gO q15 (r (2 * y.toNatClampNeg)) (r (2 * y.toNatClampNeg + 1)) q16 :: mw κ a r f (va_up q 3 t11) (tb a) w) 1 0 q15 q16 (r (2 * y.toNatClampNeg)) (r (2 * y.toNatClampNeg + 1)) fq16_42 (nI y5_42) y5_42 z ((z).toNatClampNeg) rfl rfl ⟨by omega, by omega, by omega, by omega⟩ rfl (nI_rep (by assumption)) (by omega)) ⟨rfl, by decide, by decide, by decide +kernel⟩ wm_5_233 wm_5_234 wm_5_235 wm_1_7 wm_5_236 ⟨Nat.le_of_ble_eq_true rfl, Nat.le_of_ble_eq_true rfl⟩ ⟨Nat.le_of_ble_eq_true rfl, Nat.le_of_ble_eq_true rfl⟩ rfl rfl rfl rfl hl.1 rfl (Nat.le_of_ble_eq_true rfl) dX10_turn_62 (fun o w' H locs hp hB => ?_)
            obtain ⟨rfl, hw9⟩ := hp
            replace hB : Bd κ A s (lA κ q16 ((r (2 * y.toNatClampNeg)) * 5) fq16_42 :: gO q15 (r (2 * y.toNatClampNeg)) (r (2 * y.toNatClampNeg + 1)) q16 :: mw κ a r f (va_up q 3 t11) (tb a) w) H locs := by rw [hw9] at hB; exact hB
            refine W.eq (g2 := F0 m 65 ls [.long (fq16_42 (y5_42 * 5 + ((z).toNatClampNeg))), .int z, .int (nI y5_42), .ref q15]) rfl ?_
            refine lv_lneg hx hb dX10_turn_65 ?_
            refine call_V (n := 3) (k0 := 1) (As := [.int (nI y5_42), .int z, .long (-(fq16_42 (y5_42 * 5 + ((z).toNatClampNeg))))]) (rest := []) hX hB (k_X7_put κ l (lA κ q16 ((r (2 * y.toNatClampNeg)) * 5) fq16_42 :: gO q15 (r (2 * y.toNatClampNeg)) (r (2 * y.toNatClampNeg + 1)) q16 :: mw κ a r f (va_up q 3 t11) (tb a) w) 1 0 q15 q16 (r (2 * y.toNatClampNeg)) (r (2 * y.toNatClampNeg + 1)) fq16_42 (nI y5_42) y5_42 z ((z).toNatClampNeg) (-(fq16_42 (y5_42 * 5 + ((z).toNatClampNeg)))) rfl rfl ⟨by omega, by omega, by omega, by omega⟩ rfl (nI_rep (by assumption)) (by omega)) ⟨rfl, by decide, by decide, by decide +kernel⟩ wm_5_237 wm_5_218 wm_5_219 wm_1_7 wm_5_220 ⟨Nat.le_of_ble_eq_true rfl, Nat.le_of_ble_eq_true rfl⟩ ⟨Nat.le_of_ble_eq_true rfl, Nat.le_of_ble_eq_true rfl⟩ rfl rfl rfl rfl hl.1 rfl (Nat.le_of_ble_eq_true rfl) dX10_turn_66 (fun o w' H locs hp hB => ?_)
            obtain ⟨rfl, hw9⟩ := hp
            replace hB : Bd κ A s (lA κ q16 ((r (2 * y.toNatClampNeg)) * 5) (vp_updL fq16_42 (y5_42 * 5 + ((z).toNatClampNeg)) (-(fq16_42 (y5_42 * 5 + ((z).toNatClampNeg))))) :: gO q15 (r (2 * y.toNatClampNeg)) (r (2 * y.toNatClampNeg + 1)) q16 :: mw κ a r f (va_up q 3 t11) (tb a) w) H locs := by rw [hw9] at hB; exact hB
            refine W.eq (g2 := F0 m 69 ls []) rfl ?_
            refine lv_iinc (v := nI (y5_42 + 1)) (lv' := [(5, .int (nI (y5_42 + 1))), (4, .ref q15), (0, .ref (a 0)), (1, .int y), (2, .int c0), (3, .int z)]) hx hb dX10_turn_69 hl (k := 0) rfl (nI_add y5_42 1) (by decide) rfl (fun ls hl => ?_)
            refine lv_goto (tgt := 42) hx hb dX10_turn_72 (by decide) ?_
            exact ih42 (y5_42 + 1) (vp_updL fq16_42 (y5_42 * 5 + ((z).toNatClampNeg)) (-(fq16_42 (y5_42 * 5 + ((z).toNatClampNeg))))) _ _ (by omega) (sm_upd hft (sm_neg (hft _ (by omega)))) (by omega) hB _ hl
      exact lp42 _ 0 F17 _ _ (by omega) hscF17 (Nat.lt_succ_self _) hB _ hl
set_option maxHeartbeats 4000000 in
set_option maxRecDepth 100000 in
theorem k_X10_add (κ : Kt) (l : Launch) (w : va_W) (a r : Nat → Nat) (f : Nat → Nat → Int64) (q : Nat → Int32) (y : Int32) (c0 : Int32) (z : Int32) (u : Int32) (v : Int32) (hm : mok r f) : CM κ l yX10_add cX10_add 7 (some .int) 3 65 2 23 [.ref (a 0), .int y, .int c0, .int z, .int u, .int v] (mw κ a r f q (tb a) w) (fun o w' => ∃ (x : Int32) (a' : Nat → Nat) (r' : Nat → Nat) (f' : Nat → Nat → Int64) (q' : Nat → Int32), o = some (.int x) ∧ (a' 0 = a 0) ∧ (mok r' f') ∧ (q' 2 = q 2) ∧ w' = mw κ a' r' f' q' (tb a') w) := by
  refine CM_begin (plainFor_of_name (by decide)) (Nat.le_of_ble_eq_true rfl) ?_
  intro p e s m args below meth c A Q hX hnm hA3 hQ hB ls hl
  have hx := hX.1.1
  have hb := hX.1.2.1
  have hl : lv_has ls 7 [(0, .ref (a 0)), (1, .int y), (2, .int c0), (3, .int z), (4, .int u), (5, .int v)] := hl
  refine lv_aload_n hx hb dX10_add_0 rfl (lv_at hl 0 rfl) ?_
  refine lv_aload_n hx hb dX10_add_1 rfl (lv_at hl 0 rfl) ?_
  refine lv_iload_n hx hb dX10_add_2 rfl (lv_at hl 1 rfl) ?_
  refine lv_iload_n hx hb dX10_add_3 rfl (lv_at hl 2 rfl) ?_
  refine lv_iload_n hx hb dX10_add_4 rfl (lv_at hl 3 rfl) ?_
  refine call_V (n := 3) (k0 := 0) (As := [.int y, .int c0, .int z]) (rest := [.ref (a 0)]) hX hB (k_X10_isLine κ l w a r f q y c0 z hm) ⟨rfl, by decide, by decide, by decide +kernel⟩ wm_6_38 wm_6_40 wp_34 wm_1_6 wm_6_41 ⟨Nat.le_of_ble_eq_true rfl, Nat.le_of_ble_eq_true rfl⟩ ⟨Nat.le_of_ble_eq_true rfl, Nat.le_of_ble_eq_true rfl⟩ (mw0x (a := a) (r := r) (f := f) (q := q) (T := tb a) (w := w) rfl) rfl rfl rfl hl.1 rfl (Nat.le_of_ble_eq_true rfl) dX10_add_5 (fun o w' H locs hp hB => ?_)
  obtain ⟨x1, rfl, hf2, hw9⟩ := hp
  replace hB : Bd κ A s (mw κ a r f q (tb a) w) H locs := by rw [hw9] at hB; exact hB
  rcases hf2 with rfl | ⟨rfl, hz3a, hz3b, hz3c, hz3d, hz3e⟩
  · refine W.eq (g2 := F0 m 8 ls [.int 0, .ref (a 0)]) rfl ?_
    refine lv_if_eq (tgt := 22) hx hb dX10_add_8 (by decide) (fun _ => ?_) (fun c4 => False.elim (by revert c4; decide))
    refine lv_iconst (v := 1) hx hb dX10_add_22 (by decide) ?_
    refine lv_goto (tgt := 27) hx hb dX10_add_23 (by decide) ?_
    refine lv_iload_n hx hb dX10_add_27 rfl (lv_at hl 3 rfl) ?_
    refine lv_iload hx hb dX10_add_28 (lv_at hl 4 rfl) ?_
    refine lv_icmp_eq (tgt := 47) hx hb dX10_add_30 (by decide) (fun c5 => ?_) (fun c5 => ?_)
    · refine lv_iconst (v := 1) hx hb dX10_add_47 (by decide) ?_
      refine lv_goto (tgt := 52) hx hb dX10_add_48 (by decide) ?_
      refine call_V (n := 2) (k0 := 0) (As := [.int 1, .int 1]) (rest := []) hX hB (k_X10_isThrown_ κ l (mw κ a r f q (tb a) w) 0 (a 0) (a 1) (q 0) (q 1) (q 2) (q 3) 1 1 (mw0x (a := a) (r := r) (f := f) (q := q) (T := tb a) (w := w) rfl)) ⟨rfl, by decide, by decide, by decide +kernel⟩ wm_5_188 wm_5_190 wp_27 wm_1_6 wm_5_191 ⟨Nat.le_of_ble_eq_true rfl, Nat.le_of_ble_eq_true rfl⟩ ⟨Nat.le_of_ble_eq_true rfl, Nat.le_of_ble_eq_true rfl⟩ (mw0x (a := a) (r := r) (f := f) (q := q) (T := tb a) (w := w) rfl) rfl rfl rfl hl.1 rfl (Nat.le_of_ble_eq_true rfl) dX10_add_52 (fun o w' H locs hp hB => ?_)
      obtain ⟨x6, t7, rfl, hf8, hw9⟩ := hp
      replace hB : Bd κ A s (mw κ a r f (va_up q 3 t7) (tb a) w) H locs := by exact Bd_eq (mwQ3x rfl _) (by rw [hw9] at hB; exact hB)
      obtain rfl : x6 = 1 := hf8.trans (by decide)
      refine W.eq (g2 := F0 m 55 ls [.int 1]) rfl ?_
      refine lv_if_eq (tgt := 60) hx hb dX10_add_55 (by decide) (fun c9 => False.elim (by revert c9; decide)) (fun _ => ?_)
      refine lv_iconst (v := 0) hx hb dX10_add_58 (by decide) ?_
      rw [← hQ]
      exact end_i hX hB hA3 rfl rfl ⟨0, a, r, f, (va_up q 3 t7), rfl, rfl, hm, rfl, rfl⟩ (Nat.le_of_ble_eq_true rfl) (Nat.le_of_ble_eq_true rfl) dX10_add_59
    · refine lv_iload hx hb dX10_add_33 (lv_at hl 5 rfl) ?_
      refine lv_bipush (v := (-20)) hx hb dX10_add_35 (by decide) ?_
      refine lv_icmp_lt (tgt := 47) hx hb dX10_add_37 (by decide) (fun c10 => ?_) (fun c10 => ?_)
      · refine lv_iconst (v := 1) hx hb dX10_add_47 (by decide) ?_
        refine lv_goto (tgt := 52) hx hb dX10_add_48 (by decide) ?_
        refine call_V (n := 2) (k0 := 0) (As := [.int 1, .int 1]) (rest := []) hX hB (k_X10_isThrown_ κ l (mw κ a r f q (tb a) w) 0 (a 0) (a 1) (q 0) (q 1) (q 2) (q 3) 1 1 (mw0x (a := a) (r := r) (f := f) (q := q) (T := tb a) (w := w) rfl)) ⟨rfl, by decide, by decide, by decide +kernel⟩ wm_5_188 wm_5_190 wp_27 wm_1_6 wm_5_191 ⟨Nat.le_of_ble_eq_true rfl, Nat.le_of_ble_eq_true rfl⟩ ⟨Nat.le_of_ble_eq_true rfl, Nat.le_of_ble_eq_true rfl⟩ (mw0x (a := a) (r := r) (f := f) (q := q) (T := tb a) (w := w) rfl) rfl rfl rfl hl.1 rfl (Nat.le_of_ble_eq_true rfl) dX10_add_52 (fun o w' H locs hp hB => ?_)
        obtain ⟨x11, t12, rfl, hf13, hw9⟩ := hp
        replace hB : Bd κ A s (mw κ a r f (va_up q 3 t12) (tb a) w) H locs := by exact Bd_eq (mwQ3x rfl _) (by rw [hw9] at hB; exact hB)
        obtain rfl : x11 = 1 := hf13.trans (by decide)
        refine W.eq (g2 := F0 m 55 ls [.int 1]) rfl ?_
        refine lv_if_eq (tgt := 60) hx hb dX10_add_55 (by decide) (fun c14 => False.elim (by revert c14; decide)) (fun _ => ?_)
        refine lv_iconst (v := 0) hx hb dX10_add_58 (by decide) ?_
        rw [← hQ]
        exact end_i hX hB hA3 rfl rfl ⟨0, a, r, f, (va_up q 3 t12), rfl, rfl, hm, rfl, rfl⟩ (Nat.le_of_ble_eq_true rfl) (Nat.le_of_ble_eq_true rfl) dX10_add_59
      · refine lv_iload hx hb dX10_add_40 (lv_at hl 5 rfl) ?_
        refine lv_bipush (v := 20) hx hb dX10_add_42 (by decide) ?_
        refine lv_icmp_le (tgt := 51) hx hb dX10_add_44 (by decide) (fun c15 => ?_) (fun c15 => ?_)
        · refine lv_iconst (v := 0) hx hb dX10_add_51 (by decide) ?_
          refine call_V (n := 2) (k0 := 0) (As := [.int 1, .int 0]) (rest := []) hX hB (k_X10_isThrown_ κ l (mw κ a r f q (tb a) w) 0 (a 0) (a 1) (q 0) (q 1) (q 2) (q 3) 1 0 (mw0x (a := a) (r := r) (f := f) (q := q) (T := tb a) (w := w) rfl)) ⟨rfl, by decide, by decide, by decide +kernel⟩ wm_5_188 wm_5_190 wp_27 wm_1_6 wm_5_191 ⟨Nat.le_of_ble_eq_true rfl, Nat.le_of_ble_eq_true rfl⟩ ⟨Nat.le_of_ble_eq_true rfl, Nat.le_of_ble_eq_true rfl⟩ (mw0x (a := a) (r := r) (f := f) (q := q) (T := tb a) (w := w) rfl) rfl rfl rfl hl.1 rfl (Nat.le_of_ble_eq_true rfl) dX10_add_52 (fun o w' H locs hp hB => ?_)
          obtain ⟨x16, t17, rfl, hf18, hw9⟩ := hp
          replace hB : Bd κ A s (mw κ a r f (va_up q 3 t17) (tb a) w) H locs := by exact Bd_eq (mwQ3x rfl _) (by rw [hw9] at hB; exact hB)
          obtain rfl : x16 = 1 := hf18.trans (by decide)
          refine W.eq (g2 := F0 m 55 ls [.int 1]) rfl ?_
          refine lv_if_eq (tgt := 60) hx hb dX10_add_55 (by decide) (fun c19 => False.elim (by revert c19; decide)) (fun _ => ?_)
          refine lv_iconst (v := 0) hx hb dX10_add_58 (by decide) ?_
          rw [← hQ]
          exact end_i hX hB hA3 rfl rfl ⟨0, a, r, f, (va_up q 3 t17), rfl, rfl, hm, rfl, rfl⟩ (Nat.le_of_ble_eq_true rfl) (Nat.le_of_ble_eq_true rfl) dX10_add_59
        · refine lv_iconst (v := 1) hx hb dX10_add_47 (by decide) ?_
          refine lv_goto (tgt := 52) hx hb dX10_add_48 (by decide) ?_
          refine call_V (n := 2) (k0 := 0) (As := [.int 1, .int 1]) (rest := []) hX hB (k_X10_isThrown_ κ l (mw κ a r f q (tb a) w) 0 (a 0) (a 1) (q 0) (q 1) (q 2) (q 3) 1 1 (mw0x (a := a) (r := r) (f := f) (q := q) (T := tb a) (w := w) rfl)) ⟨rfl, by decide, by decide, by decide +kernel⟩ wm_5_188 wm_5_190 wp_27 wm_1_6 wm_5_191 ⟨Nat.le_of_ble_eq_true rfl, Nat.le_of_ble_eq_true rfl⟩ ⟨Nat.le_of_ble_eq_true rfl, Nat.le_of_ble_eq_true rfl⟩ (mw0x (a := a) (r := r) (f := f) (q := q) (T := tb a) (w := w) rfl) rfl rfl rfl hl.1 rfl (Nat.le_of_ble_eq_true rfl) dX10_add_52 (fun o w' H locs hp hB => ?_)
          obtain ⟨x20, t21, rfl, hf22, hw9⟩ := hp
          replace hB : Bd κ A s (mw κ a r f (va_up q 3 t21) (tb a) w) H locs := by exact Bd_eq (mwQ3x rfl _) (by rw [hw9] at hB; exact hB)
          obtain rfl : x20 = 1 := hf22.trans (by decide)
          refine W.eq (g2 := F0 m 55 ls [.int 1]) rfl ?_
          refine lv_if_eq (tgt := 60) hx hb dX10_add_55 (by decide) (fun c23 => False.elim (by revert c23; decide)) (fun _ => ?_)
          refine lv_iconst (v := 0) hx hb dX10_add_58 (by decide) ?_
          rw [← hQ]
          exact end_i hX hB hA3 rfl rfl ⟨0, a, r, f, (va_up q 3 t21), rfl, rfl, hm, rfl, rfl⟩ (Nat.le_of_ble_eq_true rfl) (Nat.le_of_ble_eq_true rfl) dX10_add_59
  · refine W.eq (g2 := F0 m 8 ls [.int 1, .ref (a 0)]) rfl ?_
    refine lv_if_eq (tgt := 22) hx hb dX10_add_8 (by decide) (fun c24 => False.elim (by revert c24; decide)) (fun _ => ?_)
    refine lv_aload_n hx hb dX10_add_11 rfl (lv_at hl 0 rfl) ?_
    refine lv_iload_n hx hb dX10_add_12 rfl (lv_at hl 1 rfl) ?_
    refine lv_iload_n hx hb dX10_add_13 rfl (lv_at hl 2 rfl) ?_
    refine lv_iload hx hb dX10_add_14 (lv_at hl 4 rfl) ?_
    refine call_V (n := 3) (k0 := 0) (As := [.int y, .int c0, .int u]) (rest := [.ref (a 0)]) hX hB (k_X10_isLine κ l w a r f q y c0 u hm) ⟨rfl, by decide, by decide, by decide +kernel⟩ wm_6_38 wm_6_40 wp_34 wm_1_6 wm_6_41 ⟨Nat.le_of_ble_eq_true rfl, Nat.le_of_ble_eq_true rfl⟩ ⟨Nat.le_of_ble_eq_true rfl, Nat.le_of_ble_eq_true rfl⟩ (mw0x (a := a) (r := r) (f := f) (q := q) (T := tb a) (w := w) rfl) rfl rfl rfl hl.1 rfl (Nat.le_of_ble_eq_true rfl) dX10_add_16 (fun o w' H locs hp hB => ?_)
    obtain ⟨x25, rfl, hf26, hw9⟩ := hp
    replace hB : Bd κ A s (mw κ a r f q (tb a) w) H locs := by rw [hw9] at hB; exact hB
    rcases hf26 with rfl | ⟨rfl, hz27a, hz27b, hz27c, hz27d, hz27e⟩
    · refine W.eq (g2 := F0 m 19 ls [.int 0, .ref (a 0)]) rfl ?_
      refine lv_if_ne (tgt := 26) hx hb dX10_add_19 (by decide) (fun c28 => False.elim (by revert c28; decide)) (fun _ => ?_)
      refine lv_iconst (v := 1) hx hb dX10_add_22 (by decide) ?_
      refine lv_goto (tgt := 27) hx hb dX10_add_23 (by decide) ?_
      refine lv_iload_n hx hb dX10_add_27 rfl (lv_at hl 3 rfl) ?_
      refine lv_iload hx hb dX10_add_28 (lv_at hl 4 rfl) ?_
      refine lv_icmp_eq (tgt := 47) hx hb dX10_add_30 (by decide) (fun c29 => ?_) (fun c29 => ?_)
      · refine lv_iconst (v := 1) hx hb dX10_add_47 (by decide) ?_
        refine lv_goto (tgt := 52) hx hb dX10_add_48 (by decide) ?_
        refine call_V (n := 2) (k0 := 0) (As := [.int 1, .int 1]) (rest := []) hX hB (k_X10_isThrown_ κ l (mw κ a r f q (tb a) w) 0 (a 0) (a 1) (q 0) (q 1) (q 2) (q 3) 1 1 (mw0x (a := a) (r := r) (f := f) (q := q) (T := tb a) (w := w) rfl)) ⟨rfl, by decide, by decide, by decide +kernel⟩ wm_5_188 wm_5_190 wp_27 wm_1_6 wm_5_191 ⟨Nat.le_of_ble_eq_true rfl, Nat.le_of_ble_eq_true rfl⟩ ⟨Nat.le_of_ble_eq_true rfl, Nat.le_of_ble_eq_true rfl⟩ (mw0x (a := a) (r := r) (f := f) (q := q) (T := tb a) (w := w) rfl) rfl rfl rfl hl.1 rfl (Nat.le_of_ble_eq_true rfl) dX10_add_52 (fun o w' H locs hp hB => ?_)
        obtain ⟨x30, t31, rfl, hf32, hw9⟩ := hp
        replace hB : Bd κ A s (mw κ a r f (va_up q 3 t31) (tb a) w) H locs := by exact Bd_eq (mwQ3x rfl _) (by rw [hw9] at hB; exact hB)
        obtain rfl : x30 = 1 := hf32.trans (by decide)
        refine W.eq (g2 := F0 m 55 ls [.int 1]) rfl ?_
        refine lv_if_eq (tgt := 60) hx hb dX10_add_55 (by decide) (fun c33 => False.elim (by revert c33; decide)) (fun _ => ?_)
        refine lv_iconst (v := 0) hx hb dX10_add_58 (by decide) ?_
        rw [← hQ]
        exact end_i hX hB hA3 rfl rfl ⟨0, a, r, f, (va_up q 3 t31), rfl, rfl, hm, rfl, rfl⟩ (Nat.le_of_ble_eq_true rfl) (Nat.le_of_ble_eq_true rfl) dX10_add_59
      · refine lv_iload hx hb dX10_add_33 (lv_at hl 5 rfl) ?_
        refine lv_bipush (v := (-20)) hx hb dX10_add_35 (by decide) ?_
        refine lv_icmp_lt (tgt := 47) hx hb dX10_add_37 (by decide) (fun c34 => ?_) (fun c34 => ?_)
        · refine lv_iconst (v := 1) hx hb dX10_add_47 (by decide) ?_
          refine lv_goto (tgt := 52) hx hb dX10_add_48 (by decide) ?_
          refine call_V (n := 2) (k0 := 0) (As := [.int 1, .int 1]) (rest := []) hX hB (k_X10_isThrown_ κ l (mw κ a r f q (tb a) w) 0 (a 0) (a 1) (q 0) (q 1) (q 2) (q 3) 1 1 (mw0x (a := a) (r := r) (f := f) (q := q) (T := tb a) (w := w) rfl)) ⟨rfl, by decide, by decide, by decide +kernel⟩ wm_5_188 wm_5_190 wp_27 wm_1_6 wm_5_191 ⟨Nat.le_of_ble_eq_true rfl, Nat.le_of_ble_eq_true rfl⟩ ⟨Nat.le_of_ble_eq_true rfl, Nat.le_of_ble_eq_true rfl⟩ (mw0x (a := a) (r := r) (f := f) (q := q) (T := tb a) (w := w) rfl) rfl rfl rfl hl.1 rfl (Nat.le_of_ble_eq_true rfl) dX10_add_52 (fun o w' H locs hp hB => ?_)
          obtain ⟨x35, t36, rfl, hf37, hw9⟩ := hp
          replace hB : Bd κ A s (mw κ a r f (va_up q 3 t36) (tb a) w) H locs := by exact Bd_eq (mwQ3x rfl _) (by rw [hw9] at hB; exact hB)
          obtain rfl : x35 = 1 := hf37.trans (by decide)
          refine W.eq (g2 := F0 m 55 ls [.int 1]) rfl ?_
          refine lv_if_eq (tgt := 60) hx hb dX10_add_55 (by decide) (fun c38 => False.elim (by revert c38; decide)) (fun _ => ?_)
          refine lv_iconst (v := 0) hx hb dX10_add_58 (by decide) ?_
          rw [← hQ]
          exact end_i hX hB hA3 rfl rfl ⟨0, a, r, f, (va_up q 3 t36), rfl, rfl, hm, rfl, rfl⟩ (Nat.le_of_ble_eq_true rfl) (Nat.le_of_ble_eq_true rfl) dX10_add_59
        · refine lv_iload hx hb dX10_add_40 (lv_at hl 5 rfl) ?_
          refine lv_bipush (v := 20) hx hb dX10_add_42 (by decide) ?_
          refine lv_icmp_le (tgt := 51) hx hb dX10_add_44 (by decide) (fun c39 => ?_) (fun c39 => ?_)
          · refine lv_iconst (v := 0) hx hb dX10_add_51 (by decide) ?_
            refine call_V (n := 2) (k0 := 0) (As := [.int 1, .int 0]) (rest := []) hX hB (k_X10_isThrown_ κ l (mw κ a r f q (tb a) w) 0 (a 0) (a 1) (q 0) (q 1) (q 2) (q 3) 1 0 (mw0x (a := a) (r := r) (f := f) (q := q) (T := tb a) (w := w) rfl)) ⟨rfl, by decide, by decide, by decide +kernel⟩ wm_5_188 wm_5_190 wp_27 wm_1_6 wm_5_191 ⟨Nat.le_of_ble_eq_true rfl, Nat.le_of_ble_eq_true rfl⟩ ⟨Nat.le_of_ble_eq_true rfl, Nat.le_of_ble_eq_true rfl⟩ (mw0x (a := a) (r := r) (f := f) (q := q) (T := tb a) (w := w) rfl) rfl rfl rfl hl.1 rfl (Nat.le_of_ble_eq_true rfl) dX10_add_52 (fun o w' H locs hp hB => ?_)
            obtain ⟨x40, t41, rfl, hf42, hw9⟩ := hp
            replace hB : Bd κ A s (mw κ a r f (va_up q 3 t41) (tb a) w) H locs := by exact Bd_eq (mwQ3x rfl _) (by rw [hw9] at hB; exact hB)
            obtain rfl : x40 = 1 := hf42.trans (by decide)
            refine W.eq (g2 := F0 m 55 ls [.int 1]) rfl ?_
            refine lv_if_eq (tgt := 60) hx hb dX10_add_55 (by decide) (fun c43 => False.elim (by revert c43; decide)) (fun _ => ?_)
            refine lv_iconst (v := 0) hx hb dX10_add_58 (by decide) ?_
            rw [← hQ]
            exact end_i hX hB hA3 rfl rfl ⟨0, a, r, f, (va_up q 3 t41), rfl, rfl, hm, rfl, rfl⟩ (Nat.le_of_ble_eq_true rfl) (Nat.le_of_ble_eq_true rfl) dX10_add_59
          · refine lv_iconst (v := 1) hx hb dX10_add_47 (by decide) ?_
            refine lv_goto (tgt := 52) hx hb dX10_add_48 (by decide) ?_
            refine call_V (n := 2) (k0 := 0) (As := [.int 1, .int 1]) (rest := []) hX hB (k_X10_isThrown_ κ l (mw κ a r f q (tb a) w) 0 (a 0) (a 1) (q 0) (q 1) (q 2) (q 3) 1 1 (mw0x (a := a) (r := r) (f := f) (q := q) (T := tb a) (w := w) rfl)) ⟨rfl, by decide, by decide, by decide +kernel⟩ wm_5_188 wm_5_190 wp_27 wm_1_6 wm_5_191 ⟨Nat.le_of_ble_eq_true rfl, Nat.le_of_ble_eq_true rfl⟩ ⟨Nat.le_of_ble_eq_true rfl, Nat.le_of_ble_eq_true rfl⟩ (mw0x (a := a) (r := r) (f := f) (q := q) (T := tb a) (w := w) rfl) rfl rfl rfl hl.1 rfl (Nat.le_of_ble_eq_true rfl) dX10_add_52 (fun o w' H locs hp hB => ?_)
            obtain ⟨x44, t45, rfl, hf46, hw9⟩ := hp
            replace hB : Bd κ A s (mw κ a r f (va_up q 3 t45) (tb a) w) H locs := by exact Bd_eq (mwQ3x rfl _) (by rw [hw9] at hB; exact hB)
            obtain rfl : x44 = 1 := hf46.trans (by decide)
            refine W.eq (g2 := F0 m 55 ls [.int 1]) rfl ?_
            refine lv_if_eq (tgt := 60) hx hb dX10_add_55 (by decide) (fun c47 => False.elim (by revert c47; decide)) (fun _ => ?_)
            refine lv_iconst (v := 0) hx hb dX10_add_58 (by decide) ?_
            rw [← hQ]
            exact end_i hX hB hA3 rfl rfl ⟨0, a, r, f, (va_up q 3 t45), rfl, rfl, hm, rfl, rfl⟩ (Nat.le_of_ble_eq_true rfl) (Nat.le_of_ble_eq_true rfl) dX10_add_59
    · refine W.eq (g2 := F0 m 19 ls [.int 1, .ref (a 0)]) rfl ?_
      refine lv_if_ne (tgt := 26) hx hb dX10_add_19 (by decide) (fun _ => ?_) (fun c48 => False.elim (by revert c48; decide))
      refine lv_iconst (v := 0) hx hb dX10_add_26 (by decide) ?_
      refine lv_iload_n hx hb dX10_add_27 rfl (lv_at hl 3 rfl) ?_
      refine lv_iload hx hb dX10_add_28 (lv_at hl 4 rfl) ?_
      refine lv_icmp_eq (tgt := 47) hx hb dX10_add_30 (by decide) (fun c49 => ?_) (fun c49 => ?_)
      · refine lv_iconst (v := 1) hx hb dX10_add_47 (by decide) ?_
        refine lv_goto (tgt := 52) hx hb dX10_add_48 (by decide) ?_
        refine call_V (n := 2) (k0 := 0) (As := [.int 0, .int 1]) (rest := []) hX hB (k_X10_isThrown_ κ l (mw κ a r f q (tb a) w) 0 (a 0) (a 1) (q 0) (q 1) (q 2) (q 3) 0 1 (mw0x (a := a) (r := r) (f := f) (q := q) (T := tb a) (w := w) rfl)) ⟨rfl, by decide, by decide, by decide +kernel⟩ wm_5_188 wm_5_190 wp_27 wm_1_6 wm_5_191 ⟨Nat.le_of_ble_eq_true rfl, Nat.le_of_ble_eq_true rfl⟩ ⟨Nat.le_of_ble_eq_true rfl, Nat.le_of_ble_eq_true rfl⟩ (mw0x (a := a) (r := r) (f := f) (q := q) (T := tb a) (w := w) rfl) rfl rfl rfl hl.1 rfl (Nat.le_of_ble_eq_true rfl) dX10_add_52 (fun o w' H locs hp hB => ?_)
        obtain ⟨x50, t51, rfl, hf52, hw9⟩ := hp
        replace hB : Bd κ A s (mw κ a r f (va_up q 3 t51) (tb a) w) H locs := by exact Bd_eq (mwQ3x rfl _) (by rw [hw9] at hB; exact hB)
        obtain rfl : x50 = 1 := hf52.trans (by decide)
        refine W.eq (g2 := F0 m 55 ls [.int 1]) rfl ?_
        refine lv_if_eq (tgt := 60) hx hb dX10_add_55 (by decide) (fun c53 => False.elim (by revert c53; decide)) (fun _ => ?_)
        refine lv_iconst (v := 0) hx hb dX10_add_58 (by decide) ?_
        rw [← hQ]
        exact end_i hX hB hA3 rfl rfl ⟨0, a, r, f, (va_up q 3 t51), rfl, rfl, hm, rfl, rfl⟩ (Nat.le_of_ble_eq_true rfl) (Nat.le_of_ble_eq_true rfl) dX10_add_59
      · refine lv_iload hx hb dX10_add_33 (lv_at hl 5 rfl) ?_
        refine lv_bipush (v := (-20)) hx hb dX10_add_35 (by decide) ?_
        refine lv_icmp_lt (tgt := 47) hx hb dX10_add_37 (by decide) (fun c54 => ?_) (fun c54 => ?_)
        · refine lv_iconst (v := 1) hx hb dX10_add_47 (by decide) ?_
          refine lv_goto (tgt := 52) hx hb dX10_add_48 (by decide) ?_
          refine call_V (n := 2) (k0 := 0) (As := [.int 0, .int 1]) (rest := []) hX hB (k_X10_isThrown_ κ l (mw κ a r f q (tb a) w) 0 (a 0) (a 1) (q 0) (q 1) (q 2) (q 3) 0 1 (mw0x (a := a) (r := r) (f := f) (q := q) (T := tb a) (w := w) rfl)) ⟨rfl, by decide, by decide, by decide +kernel⟩ wm_5_188 wm_5_190 wp_27 wm_1_6 wm_5_191 ⟨Nat.le_of_ble_eq_true rfl, Nat.le_of_ble_eq_true rfl⟩ ⟨Nat.le_of_ble_eq_true rfl, Nat.le_of_ble_eq_true rfl⟩ (mw0x (a := a) (r := r) (f := f) (q := q) (T := tb a) (w := w) rfl) rfl rfl rfl hl.1 rfl (Nat.le_of_ble_eq_true rfl) dX10_add_52 (fun o w' H locs hp hB => ?_)
          obtain ⟨x55, t56, rfl, hf57, hw9⟩ := hp
          replace hB : Bd κ A s (mw κ a r f (va_up q 3 t56) (tb a) w) H locs := by exact Bd_eq (mwQ3x rfl _) (by rw [hw9] at hB; exact hB)
          obtain rfl : x55 = 1 := hf57.trans (by decide)
          refine W.eq (g2 := F0 m 55 ls [.int 1]) rfl ?_
          refine lv_if_eq (tgt := 60) hx hb dX10_add_55 (by decide) (fun c58 => False.elim (by revert c58; decide)) (fun _ => ?_)
          refine lv_iconst (v := 0) hx hb dX10_add_58 (by decide) ?_
          rw [← hQ]
          exact end_i hX hB hA3 rfl rfl ⟨0, a, r, f, (va_up q 3 t56), rfl, rfl, hm, rfl, rfl⟩ (Nat.le_of_ble_eq_true rfl) (Nat.le_of_ble_eq_true rfl) dX10_add_59
        · refine lv_iload hx hb dX10_add_40 (lv_at hl 5 rfl) ?_
          refine lv_bipush (v := 20) hx hb dX10_add_42 (by decide) ?_
          refine lv_icmp_le (tgt := 51) hx hb dX10_add_44 (by decide) (fun c59 => ?_) (fun c59 => ?_)
          · refine lv_iconst (v := 0) hx hb dX10_add_51 (by decide) ?_
            refine call_V (n := 2) (k0 := 0) (As := [.int 0, .int 0]) (rest := []) hX hB (k_X10_isThrown_ κ l (mw κ a r f q (tb a) w) 0 (a 0) (a 1) (q 0) (q 1) (q 2) (q 3) 0 0 (mw0x (a := a) (r := r) (f := f) (q := q) (T := tb a) (w := w) rfl)) ⟨rfl, by decide, by decide, by decide +kernel⟩ wm_5_188 wm_5_190 wp_27 wm_1_6 wm_5_191 ⟨Nat.le_of_ble_eq_true rfl, Nat.le_of_ble_eq_true rfl⟩ ⟨Nat.le_of_ble_eq_true rfl, Nat.le_of_ble_eq_true rfl⟩ (mw0x (a := a) (r := r) (f := f) (q := q) (T := tb a) (w := w) rfl) rfl rfl rfl hl.1 rfl (Nat.le_of_ble_eq_true rfl) dX10_add_52 (fun o w' H locs hp hB => ?_)
            obtain ⟨x60, t61, rfl, hf62, hw9⟩ := hp
            replace hB : Bd κ A s (mw κ a r f (va_up q 3 t61) (tb a) w) H locs := by exact Bd_eq (mwQ3x rfl _) (by rw [hw9] at hB; exact hB)
            obtain rfl : x60 = 0 := hf62.trans (by decide)
            refine W.eq (g2 := F0 m 55 ls [.int 0]) rfl ?_
            refine lv_if_eq (tgt := 60) hx hb dX10_add_55 (by decide) (fun _ => ?_) (fun c63 => False.elim (by revert c63; decide))
            refine lv_aload_n hx hb dX10_add_60 rfl (lv_at hl 0 rfl) ?_
            refine gf (k0 := 0) hX hB (mw0x (a := a) (r := r) (f := f) (q := (va_up q 3 t61)) (T := tb a) (w := w) rfl) rfl in10 0 (by decide) wm_5_162 rfl rfl dX10_add_61 ?_
            refine lv_iload_n hx hb dX10_add_64 rfl (lv_at hl 1 rfl) ?_
            refine aaldM (k0 := 1) hX hB (mw1 (a := a) (r := r) (f := f) (q := (va_up q 3 t61)) (T := tb a) (w := w)) (vp_in_mk (by assumption) (by assumption)) rfl dX10_add_65 ?_
            have hb64 := mok_r hm y.toNatClampNeg (by omega)
            refine call_V (n := 0) (k0 := (2 + 2 * y.toNatClampNeg)) (As := []) (rest := []) hX hB (k_X7_copy κ l (mw κ a r f (va_up q 3 t61) (tb a) w) (2 + 2 * y.toNatClampNeg) (3 + 2 * y.toNatClampNeg) (a (2 + 2 * y.toNatClampNeg)) (a (3 + 2 * y.toNatClampNeg)) (r (2 * y.toNatClampNeg)) (r (2 * y.toNatClampNeg + 1)) (f y.toNatClampNeg) (mwG (i := y.toNatClampNeg) (a := a) (r := r) (f := f) (q := (va_up q 3 t61)) (T := tb a) (w := w) (by omega)) (mwA (i := y.toNatClampNeg) (a := a) (r := r) (f := f) (q := (va_up q 3 t61)) (T := tb a) (w := w) (by omega)) (mok_shp (i := y.toNatClampNeg) hm (by omega))) ⟨rfl, by decide, by decide, by decide +kernel⟩ wm_6_19 wm_6_20 wm_6_21 wm_1_7 wm_6_22 ⟨Nat.le_of_ble_eq_true rfl, Nat.le_of_ble_eq_true rfl⟩ ⟨Nat.le_of_ble_eq_true rfl, Nat.le_of_ble_eq_true rfl⟩ (mwG (i := y.toNatClampNeg) (a := a) (r := r) (f := f) (q := (va_up q 3 t61)) (T := tb a) (w := w) (by omega)) rfl rfl rfl hl.1 rfl (Nat.le_of_ble_eq_true rfl) dX10_add_66 (fun o w' H locs hp hB => ?_)
            obtain ⟨q65, q66, F67, rfl, hf68, hw9⟩ := hp
            replace hB : Bd κ A s (lA κ q66 ((r (2 * y.toNatClampNeg)) * 5) F67 :: gO q65 (r (2 * y.toNatClampNeg)) (r (2 * y.toNatClampNeg + 1)) q66 :: mw κ a r f (va_up q 3 t61) (tb a) w) H locs := by rw [hw9] at hB; exact hB
            have hscF67 : ∀ k, k < (r (2 * y.toNatClampNeg)) * 5 → sm (F67 k) := fun k hk => by rw [hf68 k hk]; exact (hm _ (by omega)).2 k hk
            refine W.eq (g2 := F0 m 69 ls [.ref q65]) rfl ?_
            refine lv_astore (lv' := [(6, .ref q65), (0, .ref (a 0)), (1, .int y), (2, .int c0), (3, .int z), (4, .int u), (5, .int v)]) hx hb dX10_add_69 hl (by decide) rfl (fun ls hl => ?_)
            refine lv_iload_n hx hb dX10_add_71 rfl (lv_at hl 3 rfl) ?_
            refine lv_if_eq (tgt := 89) hx hb dX10_add_72 (by decide) (fun c69 => ?_) (fun c69 => ?_)
            · have hz3l := hz3d c69
              have hz27l := hz27d c69
              refine lv_aload hx hb dX10_add_89 (lv_at hl 0 rfl) ?_
              refine lv_iload_n hx hb dX10_add_91 rfl (lv_at hl 4 rfl) ?_
              refine lv_iload hx hb dX10_add_92 (lv_at hl 5 rfl) ?_
              refine lv_iload hx hb dX10_add_94 (lv_at hl 6 rfl) ?_
              refine lv_i2l hx hb dX10_add_96 rfl ?_
              refine call_V (n := 3) (k0 := 1) (As := [.int z, .int u, .long ((v).toInt64)]) (rest := []) hX hB (k_X7_addRow κ l (lA κ q66 ((r (2 * y.toNatClampNeg)) * 5) F67 :: gO q65 (r (2 * y.toNatClampNeg)) (r (2 * y.toNatClampNeg + 1)) q66 :: mw κ a r f (va_up q 3 t61) (tb a) w) 1 0 q65 q66 (r (2 * y.toNatClampNeg)) (r (2 * y.toNatClampNeg + 1)) F67 z ((z).toNatClampNeg) u ((u).toNatClampNeg) ((v).toInt64) rfl rfl ⟨by omega, by omega, by omega, by omega⟩ (nI_rep (by assumption)) (nI_rep (by assumption)) (by omega) (by omega) (ne_nat (by assumption) (by assumption) (by assumption))) ⟨rfl, by decide, by decide, by decide +kernel⟩ wm_6_75 wm_6_76 wm_6_77 wm_1_7 wm_6_78 ⟨Nat.le_of_ble_eq_true rfl, Nat.le_of_ble_eq_true rfl⟩ ⟨Nat.le_of_ble_eq_true rfl, Nat.le_of_ble_eq_true rfl⟩ rfl rfl rfl rfl hl.1 rfl (Nat.le_of_ble_eq_true rfl) dX10_add_97 (fun o w' H locs hp hB => ?_)
              obtain ⟨rfl, hw9⟩ := hp
              replace hB : Bd κ A s (lA κ q66 ((r (2 * y.toNatClampNeg)) * 5) (ar (r (2 * y.toNatClampNeg + 1)) ((z).toNatClampNeg) ((u).toNatClampNeg) ((v).toInt64) F67) :: gO q65 (r (2 * y.toNatClampNeg)) (r (2 * y.toNatClampNeg + 1)) q66 :: mw κ a r f (va_up q 3 t61) (tb a) w) H locs := by rw [hw9] at hB; exact hB
              refine W.eq (g2 := F0 m 100 ls []) rfl ?_
              refine lv_aload hx hb dX10_add_100 (lv_at hl 0 rfl) ?_
              refine call_V (n := 0) (k0 := 1) (As := []) (rest := []) hX hB (k_X7_isLet κ l (lA κ q66 ((r (2 * y.toNatClampNeg)) * 5) (ar (r (2 * y.toNatClampNeg + 1)) ((z).toNatClampNeg) ((u).toNatClampNeg) ((v).toInt64) F67) :: gO q65 (r (2 * y.toNatClampNeg)) (r (2 * y.toNatClampNeg + 1)) q66 :: mw κ a r f (va_up q 3 t61) (tb a) w) 1 0 q65 q66 (r (2 * y.toNatClampNeg)) (r (2 * y.toNatClampNeg + 1)) (ar (r (2 * y.toNatClampNeg + 1)) ((z).toNatClampNeg) ((u).toNatClampNeg) ((v).toInt64) F67) rfl rfl ⟨by omega, by omega, by omega, by omega⟩) ⟨rfl, by decide, by decide, by decide +kernel⟩ wm_6_79 wm_6_80 wm_6_81 wm_1_7 wm_6_82 ⟨Nat.le_of_ble_eq_true rfl, Nat.le_of_ble_eq_true rfl⟩ ⟨Nat.le_of_ble_eq_true rfl, Nat.le_of_ble_eq_true rfl⟩ rfl rfl rfl rfl hl.1 rfl (Nat.le_of_ble_eq_true rfl) dX10_add_102 (fun o w' H locs hp hB => ?_)
              obtain ⟨x70, rfl, hf71, hf72, hw9⟩ := hp
              replace hB : Bd κ A s (lA κ q66 ((r (2 * y.toNatClampNeg)) * 5) (ar (r (2 * y.toNatClampNeg + 1)) ((z).toNatClampNeg) ((u).toNatClampNeg) ((v).toInt64) F67) :: gO q65 (r (2 * y.toNatClampNeg)) (r (2 * y.toNatClampNeg + 1)) q66 :: mw κ a r f (va_up q 3 t61) (tb a) w) H locs := by rw [hw9] at hB; exact hB
              rcases hf71 with rfl | rfl
              · refine W.eq (g2 := F0 m 105 ls [.int 0]) rfl ?_
                refine lv_if_eq (tgt := 118) hx hb dX10_add_105 (by decide) (fun _ => ?_) (fun c73 => False.elim (by revert c73; decide))
                refine lv_aload_n hx hb dX10_add_118 rfl (lv_at hl 1 rfl) ?_
                refine call_V (n := 0) (k0 := 2) (As := []) (rest := []) hX hB (k_X10_no κ l (lA κ q66 ((r (2 * y.toNatClampNeg)) * 5) (ar (r (2 * y.toNatClampNeg + 1)) ((z).toNatClampNeg) ((u).toNatClampNeg) ((v).toInt64) F67) :: gO q65 (r (2 * y.toNatClampNeg)) (r (2 * y.toNatClampNeg + 1)) q66 :: mw κ a r f (va_up q 3 t61) (tb a) w) 2 (a 0) (a 1) ((va_up q 3 t61) 0) ((va_up q 3 t61) 1) ((va_up q 3 t61) 2) ((va_up q 3 t61) 3) (mw0x (a := a) (r := r) (f := f) (q := (va_up q 3 t61)) (T := tb a) (w := w) rfl)) ⟨rfl, by decide, by decide, by decide +kernel⟩ wm_6_85 wm_6_87 wp_36 wm_1_6 wm_6_88 ⟨Nat.le_of_ble_eq_true rfl, Nat.le_of_ble_eq_true rfl⟩ ⟨Nat.le_of_ble_eq_true rfl, Nat.le_of_ble_eq_true rfl⟩ (mw0x (a := a) (r := r) (f := f) (q := (va_up q 3 t61)) (T := tb a) (w := w) rfl) rfl rfl rfl hl.1 rfl (Nat.le_of_ble_eq_true rfl) dX10_add_119 (fun o w' H locs hp hB => ?_)
                obtain ⟨rfl, hw9⟩ := hp
                replace hB : Bd κ A s (lA κ q66 ((r (2 * y.toNatClampNeg)) * 5) (ar (r (2 * y.toNatClampNeg + 1)) ((z).toNatClampNeg) ((u).toNatClampNeg) ((v).toInt64) F67) :: gO q65 (r (2 * y.toNatClampNeg)) (r (2 * y.toNatClampNeg + 1)) q66 :: mw κ a r f (va_up (va_up q 3 t61) 1 (((va_up q 3 t61) 1) + 1)) (tb a) w) H locs := by exact Bd_eq (congrArg (List.cons _) (congrArg (List.cons _) (mwQ1x rfl _))) (by rw [hw9] at hB; exact hB)
                refine W.eq (g2 := F0 m 122 ls [.int (-9)]) rfl ?_
                replace hB : Bd κ A s (lA κ q66 ((r (2 * y.toNatClampNeg)) * 5) (ar (r (2 * y.toNatClampNeg + 1)) ((z).toNatClampNeg) ((u).toNatClampNeg) ((v).toInt64) F67) :: mw κ a r f (va_up (va_up q 3 t61) 1 (((va_up q 3 t61) 1) + 1)) (tb a) w) H locs := Bd_del 1 hB
                replace hB : Bd κ A s (mw κ a r f (va_up (va_up q 3 t61) 1 (((va_up q 3 t61) 1) + 1)) (tb a) w) H locs := Bd_del 0 hB
                rw [← hQ]
                exact end_i hX hB hA3 rfl rfl ⟨(-9), a, r, f, (va_up (va_up q 3 t61) 1 (((va_up q 3 t61) 1) + 1)), rfl, rfl, hm, rfl, rfl⟩ (Nat.le_of_ble_eq_true rfl) (Nat.le_of_ble_eq_true rfl) dX10_add_122
              · refine W.eq (g2 := F0 m 105 ls [.int 1]) rfl ?_
                refine lv_if_eq (tgt := 118) hx hb dX10_add_105 (by decide) (fun c74 => False.elim (by revert c74; decide)) (fun _ => ?_)
                refine lv_aload_n hx hb dX10_add_108 rfl (lv_at hl 1 rfl) ?_
                refine lv_iload_n hx hb dX10_add_109 rfl (lv_at hl 2 rfl) ?_
                refine lv_aload hx hb dX10_add_110 (lv_at hl 0 rfl) ?_
                refine call_V (n := 2) (k0 := 2) (As := [.int y, .ref q65]) (rest := []) hX hB (k_X10_changed κ l w a r f (va_up q 3 t61) y q65 q66 (r (2 * y.toNatClampNeg)) (r (2 * y.toNatClampNeg + 1)) (ar (r (2 * y.toNatClampNeg + 1)) ((z).toNatClampNeg) ((u).toNatClampNeg) ((v).toInt64) F67) hm ⟨by omega, by omega, by omega, by omega⟩ (by assumption) (by assumption) (by omega) (hf72 rfl)) ⟨rfl, by decide, by decide, by decide +kernel⟩ wm_6_51 wm_6_53 wp_35 wm_1_6 wm_6_54 ⟨Nat.le_of_ble_eq_true rfl, Nat.le_of_ble_eq_true rfl⟩ ⟨Nat.le_of_ble_eq_true rfl, Nat.le_of_ble_eq_true rfl⟩ (mw0x (a := a) (r := r) (f := f) (q := (va_up q 3 t61)) (T := tb a) (w := w) rfl) rfl rfl rfl hl.1 rfl (Nat.le_of_ble_eq_true rfl) dX10_add_112 (fun o w' H locs hp hB => ?_)
                obtain ⟨x75, an76, rn77, fn78, qn79, rfl, hf80, hf81, hf82, hw9⟩ := hp
                replace hB : Bd κ A s (mw κ an76 rn77 fn78 qn79 (tb an76) w) H locs := by rw [hw9] at hB; exact hB
                refine W.eq (g2 := F0 m 115 ls [.int x75]) rfl ?_
                refine lv_goto (tgt := 122) hx hb dX10_add_115 (by decide) ?_
                rw [← hQ]
                exact end_i hX hB hA3 rfl rfl ⟨x75, an76, rn77, fn78, qn79, rfl, (hf80.trans rfl), hf81, (hf82.trans rfl), rfl⟩ (Nat.le_of_ble_eq_true rfl) (Nat.le_of_ble_eq_true rfl) dX10_add_122
            · have hz3l := hz3e c69
              have hz27l := hz27e c69
              refine lv_aload hx hb dX10_add_75 (lv_at hl 0 rfl) ?_
              refine lv_iload_n hx hb dX10_add_77 rfl (lv_at hl 4 rfl) ?_
              refine lv_iload hx hb dX10_add_78 (lv_at hl 5 rfl) ?_
              refine lv_iload hx hb dX10_add_80 (lv_at hl 6 rfl) ?_
              refine lv_i2l hx hb dX10_add_82 rfl ?_
              refine call_V (n := 3) (k0 := 1) (As := [.int z, .int u, .long ((v).toInt64)]) (rest := []) hX hB (k_X7_addColumn κ l (lA κ q66 ((r (2 * y.toNatClampNeg)) * 5) F67 :: gO q65 (r (2 * y.toNatClampNeg)) (r (2 * y.toNatClampNeg + 1)) q66 :: mw κ a r f (va_up q 3 t61) (tb a) w) 1 0 q65 q66 (r (2 * y.toNatClampNeg)) (r (2 * y.toNatClampNeg + 1)) F67 z ((z).toNatClampNeg) u ((u).toNatClampNeg) ((v).toInt64) rfl rfl ⟨by omega, by omega, by omega, by omega⟩ (nI_rep (by assumption)) (nI_rep (by assumption)) (by omega) (by omega) (ne_nat (by assumption) (by assumption) (by assumption))) ⟨rfl, by decide, by decide, by decide +kernel⟩ wm_6_71 wm_6_72 wm_6_73 wm_1_7 wm_6_74 ⟨Nat.le_of_ble_eq_true rfl, Nat.le_of_ble_eq_true rfl⟩ ⟨Nat.le_of_ble_eq_true rfl, Nat.le_of_ble_eq_true rfl⟩ rfl rfl rfl rfl hl.1 rfl (Nat.le_of_ble_eq_true rfl) dX10_add_83 (fun o w' H locs hp hB => ?_)
              obtain ⟨rfl, hw9⟩ := hp
              replace hB : Bd κ A s (lA κ q66 ((r (2 * y.toNatClampNeg)) * 5) (ac (r (2 * y.toNatClampNeg)) ((z).toNatClampNeg) ((u).toNatClampNeg) ((v).toInt64) F67) :: gO q65 (r (2 * y.toNatClampNeg)) (r (2 * y.toNatClampNeg + 1)) q66 :: mw κ a r f (va_up q 3 t61) (tb a) w) H locs := by rw [hw9] at hB; exact hB
              refine W.eq (g2 := F0 m 86 ls []) rfl ?_
              refine lv_goto (tgt := 100) hx hb dX10_add_86 (by decide) ?_
              refine lv_aload hx hb dX10_add_100 (lv_at hl 0 rfl) ?_
              refine call_V (n := 0) (k0 := 1) (As := []) (rest := []) hX hB (k_X7_isLet κ l (lA κ q66 ((r (2 * y.toNatClampNeg)) * 5) (ac (r (2 * y.toNatClampNeg)) ((z).toNatClampNeg) ((u).toNatClampNeg) ((v).toInt64) F67) :: gO q65 (r (2 * y.toNatClampNeg)) (r (2 * y.toNatClampNeg + 1)) q66 :: mw κ a r f (va_up q 3 t61) (tb a) w) 1 0 q65 q66 (r (2 * y.toNatClampNeg)) (r (2 * y.toNatClampNeg + 1)) (ac (r (2 * y.toNatClampNeg)) ((z).toNatClampNeg) ((u).toNatClampNeg) ((v).toInt64) F67) rfl rfl ⟨by omega, by omega, by omega, by omega⟩) ⟨rfl, by decide, by decide, by decide +kernel⟩ wm_6_79 wm_6_80 wm_6_81 wm_1_7 wm_6_82 ⟨Nat.le_of_ble_eq_true rfl, Nat.le_of_ble_eq_true rfl⟩ ⟨Nat.le_of_ble_eq_true rfl, Nat.le_of_ble_eq_true rfl⟩ rfl rfl rfl rfl hl.1 rfl (Nat.le_of_ble_eq_true rfl) dX10_add_102 (fun o w' H locs hp hB => ?_)
              obtain ⟨x83, rfl, hf84, hf85, hw9⟩ := hp
              replace hB : Bd κ A s (lA κ q66 ((r (2 * y.toNatClampNeg)) * 5) (ac (r (2 * y.toNatClampNeg)) ((z).toNatClampNeg) ((u).toNatClampNeg) ((v).toInt64) F67) :: gO q65 (r (2 * y.toNatClampNeg)) (r (2 * y.toNatClampNeg + 1)) q66 :: mw κ a r f (va_up q 3 t61) (tb a) w) H locs := by rw [hw9] at hB; exact hB
              rcases hf84 with rfl | rfl
              · refine W.eq (g2 := F0 m 105 ls [.int 0]) rfl ?_
                refine lv_if_eq (tgt := 118) hx hb dX10_add_105 (by decide) (fun _ => ?_) (fun c86 => False.elim (by revert c86; decide))
                refine lv_aload_n hx hb dX10_add_118 rfl (lv_at hl 1 rfl) ?_
                refine call_V (n := 0) (k0 := 2) (As := []) (rest := []) hX hB (k_X10_no κ l (lA κ q66 ((r (2 * y.toNatClampNeg)) * 5) (ac (r (2 * y.toNatClampNeg)) ((z).toNatClampNeg) ((u).toNatClampNeg) ((v).toInt64) F67) :: gO q65 (r (2 * y.toNatClampNeg)) (r (2 * y.toNatClampNeg + 1)) q66 :: mw κ a r f (va_up q 3 t61) (tb a) w) 2 (a 0) (a 1) ((va_up q 3 t61) 0) ((va_up q 3 t61) 1) ((va_up q 3 t61) 2) ((va_up q 3 t61) 3) (mw0x (a := a) (r := r) (f := f) (q := (va_up q 3 t61)) (T := tb a) (w := w) rfl)) ⟨rfl, by decide, by decide, by decide +kernel⟩ wm_6_85 wm_6_87 wp_36 wm_1_6 wm_6_88 ⟨Nat.le_of_ble_eq_true rfl, Nat.le_of_ble_eq_true rfl⟩ ⟨Nat.le_of_ble_eq_true rfl, Nat.le_of_ble_eq_true rfl⟩ (mw0x (a := a) (r := r) (f := f) (q := (va_up q 3 t61)) (T := tb a) (w := w) rfl) rfl rfl rfl hl.1 rfl (Nat.le_of_ble_eq_true rfl) dX10_add_119 (fun o w' H locs hp hB => ?_)
                obtain ⟨rfl, hw9⟩ := hp
                replace hB : Bd κ A s (lA κ q66 ((r (2 * y.toNatClampNeg)) * 5) (ac (r (2 * y.toNatClampNeg)) ((z).toNatClampNeg) ((u).toNatClampNeg) ((v).toInt64) F67) :: gO q65 (r (2 * y.toNatClampNeg)) (r (2 * y.toNatClampNeg + 1)) q66 :: mw κ a r f (va_up (va_up q 3 t61) 1 (((va_up q 3 t61) 1) + 1)) (tb a) w) H locs := by exact Bd_eq (congrArg (List.cons _) (congrArg (List.cons _) (mwQ1x rfl _))) (by rw [hw9] at hB; exact hB)
                refine W.eq (g2 := F0 m 122 ls [.int (-9)]) rfl ?_
                replace hB : Bd κ A s (lA κ q66 ((r (2 * y.toNatClampNeg)) * 5) (ac (r (2 * y.toNatClampNeg)) ((z).toNatClampNeg) ((u).toNatClampNeg) ((v).toInt64) F67) :: mw κ a r f (va_up (va_up q 3 t61) 1 (((va_up q 3 t61) 1) + 1)) (tb a) w) H locs := Bd_del 1 hB
                replace hB : Bd κ A s (mw κ a r f (va_up (va_up q 3 t61) 1 (((va_up q 3 t61) 1) + 1)) (tb a) w) H locs := Bd_del 0 hB
                rw [← hQ]
                exact end_i hX hB hA3 rfl rfl ⟨(-9), a, r, f, (va_up (va_up q 3 t61) 1 (((va_up q 3 t61) 1) + 1)), rfl, rfl, hm, rfl, rfl⟩ (Nat.le_of_ble_eq_true rfl) (Nat.le_of_ble_eq_true rfl) dX10_add_122
              · refine W.eq (g2 := F0 m 105 ls [.int 1]) rfl ?_
                refine lv_if_eq (tgt := 118) hx hb dX10_add_105 (by decide) (fun c87 => False.elim (by revert c87; decide)) (fun _ => ?_)
                refine lv_aload_n hx hb dX10_add_108 rfl (lv_at hl 1 rfl) ?_
                refine lv_iload_n hx hb dX10_add_109 rfl (lv_at hl 2 rfl) ?_
                refine lv_aload hx hb dX10_add_110 (lv_at hl 0 rfl) ?_
                refine call_V (n := 2) (k0 := 2) (As := [.int y, .ref q65]) (rest := []) hX hB (k_X10_changed κ l w a r f (va_up q 3 t61) y q65 q66 (r (2 * y.toNatClampNeg)) (r (2 * y.toNatClampNeg + 1)) (ac (r (2 * y.toNatClampNeg)) ((z).toNatClampNeg) ((u).toNatClampNeg) ((v).toInt64) F67) hm ⟨by omega, by omega, by omega, by omega⟩ (by assumption) (by assumption) (by omega) (hf85 rfl)) ⟨rfl, by decide, by decide, by decide +kernel⟩ wm_6_51 wm_6_53 wp_35 wm_1_6 wm_6_54 ⟨Nat.le_of_ble_eq_true rfl, Nat.le_of_ble_eq_true rfl⟩ ⟨Nat.le_of_ble_eq_true rfl, Nat.le_of_ble_eq_true rfl⟩ (mw0x (a := a) (r := r) (f := f) (q := (va_up q 3 t61)) (T := tb a) (w := w) rfl) rfl rfl rfl hl.1 rfl (Nat.le_of_ble_eq_true rfl) dX10_add_112 (fun o w' H locs hp hB => ?_)
                obtain ⟨x88, an89, rn90, fn91, qn92, rfl, hf93, hf94, hf95, hw9⟩ := hp
                replace hB : Bd κ A s (mw κ an89 rn90 fn91 qn92 (tb an89) w) H locs := by rw [hw9] at hB; exact hB
                refine W.eq (g2 := F0 m 115 ls [.int x88]) rfl ?_
                refine lv_goto (tgt := 122) hx hb dX10_add_115 (by decide) ?_
                rw [← hQ]
                exact end_i hX hB hA3 rfl rfl ⟨x88, an89, rn90, fn91, qn92, rfl, (hf93.trans rfl), hf94, (hf95.trans rfl), rfl⟩ (Nat.le_of_ble_eq_true rfl) (Nat.le_of_ble_eq_true rfl) dX10_add_122
          · refine lv_iconst (v := 1) hx hb dX10_add_47 (by decide) ?_
            refine lv_goto (tgt := 52) hx hb dX10_add_48 (by decide) ?_
            refine call_V (n := 2) (k0 := 0) (As := [.int 0, .int 1]) (rest := []) hX hB (k_X10_isThrown_ κ l (mw κ a r f q (tb a) w) 0 (a 0) (a 1) (q 0) (q 1) (q 2) (q 3) 0 1 (mw0x (a := a) (r := r) (f := f) (q := q) (T := tb a) (w := w) rfl)) ⟨rfl, by decide, by decide, by decide +kernel⟩ wm_5_188 wm_5_190 wp_27 wm_1_6 wm_5_191 ⟨Nat.le_of_ble_eq_true rfl, Nat.le_of_ble_eq_true rfl⟩ ⟨Nat.le_of_ble_eq_true rfl, Nat.le_of_ble_eq_true rfl⟩ (mw0x (a := a) (r := r) (f := f) (q := q) (T := tb a) (w := w) rfl) rfl rfl rfl hl.1 rfl (Nat.le_of_ble_eq_true rfl) dX10_add_52 (fun o w' H locs hp hB => ?_)
            obtain ⟨x96, t97, rfl, hf98, hw9⟩ := hp
            replace hB : Bd κ A s (mw κ a r f (va_up q 3 t97) (tb a) w) H locs := by exact Bd_eq (mwQ3x rfl _) (by rw [hw9] at hB; exact hB)
            obtain rfl : x96 = 1 := hf98.trans (by decide)
            refine W.eq (g2 := F0 m 55 ls [.int 1]) rfl ?_
            refine lv_if_eq (tgt := 60) hx hb dX10_add_55 (by decide) (fun c99 => False.elim (by revert c99; decide)) (fun _ => ?_)
            refine lv_iconst (v := 0) hx hb dX10_add_58 (by decide) ?_
            rw [← hQ]
            exact end_i hX hB hA3 rfl rfl ⟨0, a, r, f, (va_up q 3 t97), rfl, rfl, hm, rfl, rfl⟩ (Nat.le_of_ble_eq_true rfl) (Nat.le_of_ble_eq_true rfl) dX10_add_59
set_option maxHeartbeats 4000000 in
set_option maxRecDepth 100000 in
theorem k_X10_widen (κ : Kt) (l : Launch) (w : va_W) (a r : Nat → Nat) (f : Nat → Nat → Int64) (q : Nat → Int32) (y : Int32) (c0 : Int32) (hm : mok r f) : CM κ l yX10_widen cX10_widen 5 (some .int) 3 71 2 23 [.ref (a 0), .int y, .int c0] (mw κ a r f q (tb a) w) (fun o w' => ∃ (x : Int32) (a' : Nat → Nat) (r' : Nat → Nat) (f' : Nat → Nat → Int64) (q' : Nat → Int32), o = some (.int x) ∧ (a' 0 = a 0) ∧ (mok r' f') ∧ (q' 2 = q 2) ∧ w' = mw κ a' r' f' q' (tb a') w) := by
  refine CM_begin (plainFor_of_name (by decide)) (Nat.le_of_ble_eq_true rfl) ?_
  intro p e s m args below meth c A Q hX hnm hA3 hQ hB ls hl
  have hx := hX.1.1
  have hb := hX.1.2.1
  have hl : lv_has ls 5 [(0, .ref (a 0)), (1, .int y), (2, .int c0)] := hl
  refine lv_aload_n hx hb dX10_widen_0 rfl (lv_at hl 0 rfl) ?_
  refine lv_iload_n hx hb dX10_widen_1 rfl (lv_at hl 1 rfl) ?_
  refine call_S (n := 1) (As := [.int y]) (rest := [.ref (a 0)]) hX hB (k_X10_isTable κ l (mw κ a r f q (tb a) w) y) ⟨by decide, by decide, by decide +kernel⟩ wm_5_182 wm_5_183 wm_1_6 wm_5_184 ⟨Nat.le_of_ble_eq_true rfl, Nat.le_of_ble_eq_true rfl⟩ ⟨Nat.le_of_ble_eq_true rfl, Nat.le_of_ble_eq_true rfl⟩ rfl hl.1 rfl (Nat.le_of_ble_eq_true rfl) dX10_widen_2 (fun o w' H locs hp hB => ?_)
  obtain ⟨z1, rfl, hf2, hw9⟩ := hp
  replace hB : Bd κ A s (mw κ a r f q (tb a) w) H locs := by rw [hw9] at hB; exact hB
  rcases hf2 with rfl | ⟨rfl, hz3a, hz3b⟩
  · refine W.eq (g2 := F0 m 5 ls [.int 0, .ref (a 0)]) rfl ?_
    refine lv_if_ne (tgt := 12) hx hb dX10_widen_5 (by decide) (fun c4 => False.elim (by revert c4; decide)) (fun _ => ?_)
    refine lv_iconst (v := 1) hx hb dX10_widen_8 (by decide) ?_
    refine lv_goto (tgt := 13) hx hb dX10_widen_9 (by decide) ?_
    refine call_V (n := 1) (k0 := 0) (As := [.int 1]) (rest := []) hX hB (k_X10_isThrown__ κ l (mw κ a r f q (tb a) w) 0 (a 0) (a 1) (q 0) (q 1) (q 2) (q 3) 1 (mw0x (a := a) (r := r) (f := f) (q := q) (T := tb a) (w := w) rfl)) ⟨rfl, by decide, by decide, by decide +kernel⟩ wm_6_11 wm_6_13 wp_33 wm_1_6 wm_6_14 ⟨Nat.le_of_ble_eq_true rfl, Nat.le_of_ble_eq_true rfl⟩ ⟨Nat.le_of_ble_eq_true rfl, Nat.le_of_ble_eq_true rfl⟩ (mw0x (a := a) (r := r) (f := f) (q := q) (T := tb a) (w := w) rfl) rfl rfl rfl hl.1 rfl (Nat.le_of_ble_eq_true rfl) dX10_widen_13 (fun o w' H locs hp hB => ?_)
    obtain ⟨x5, t6, rfl, hf7, hw9⟩ := hp
    replace hB : Bd κ A s (mw κ a r f (va_up q 3 t6) (tb a) w) H locs := by exact Bd_eq (mwQ3x rfl _) (by rw [hw9] at hB; exact hB)
    obtain rfl : x5 = 1 := hf7.trans (by decide)
    refine W.eq (g2 := F0 m 16 ls [.int 1]) rfl ?_
    refine lv_if_eq (tgt := 21) hx hb dX10_widen_16 (by decide) (fun c8 => False.elim (by revert c8; decide)) (fun _ => ?_)
    refine lv_iconst (v := 0) hx hb dX10_widen_19 (by decide) ?_
    rw [← hQ]
    exact end_i hX hB hA3 rfl rfl ⟨0, a, r, f, (va_up q 3 t6), rfl, rfl, hm, rfl, rfl⟩ (Nat.le_of_ble_eq_true rfl) (Nat.le_of_ble_eq_true rfl) dX10_widen_20
  · refine W.eq (g2 := F0 m 5 ls [.int 1, .ref (a 0)]) rfl ?_
    refine lv_if_ne (tgt := 12) hx hb dX10_widen_5 (by decide) (fun _ => ?_) (fun c9 => False.elim (by revert c9; decide))
    refine lv_iconst (v := 0) hx hb dX10_widen_12 (by decide) ?_
    refine call_V (n := 1) (k0 := 0) (As := [.int 0]) (rest := []) hX hB (k_X10_isThrown__ κ l (mw κ a r f q (tb a) w) 0 (a 0) (a 1) (q 0) (q 1) (q 2) (q 3) 0 (mw0x (a := a) (r := r) (f := f) (q := q) (T := tb a) (w := w) rfl)) ⟨rfl, by decide, by decide, by decide +kernel⟩ wm_6_11 wm_6_13 wp_33 wm_1_6 wm_6_14 ⟨Nat.le_of_ble_eq_true rfl, Nat.le_of_ble_eq_true rfl⟩ ⟨Nat.le_of_ble_eq_true rfl, Nat.le_of_ble_eq_true rfl⟩ (mw0x (a := a) (r := r) (f := f) (q := q) (T := tb a) (w := w) rfl) rfl rfl rfl hl.1 rfl (Nat.le_of_ble_eq_true rfl) dX10_widen_13 (fun o w' H locs hp hB => ?_)
    obtain ⟨x10, t11, rfl, hf12, hw9⟩ := hp
    replace hB : Bd κ A s (mw κ a r f (va_up q 3 t11) (tb a) w) H locs := by exact Bd_eq (mwQ3x rfl _) (by rw [hw9] at hB; exact hB)
    obtain rfl : x10 = 0 := hf12.trans (by decide)
    refine W.eq (g2 := F0 m 16 ls [.int 0]) rfl ?_
    refine lv_if_eq (tgt := 21) hx hb dX10_widen_16 (by decide) (fun _ => ?_) (fun c13 => False.elim (by revert c13; decide))
    refine lv_aload_n hx hb dX10_widen_21 rfl (lv_at hl 0 rfl) ?_
    refine gf (k0 := 0) hX hB (mw0x (a := a) (r := r) (f := f) (q := (va_up q 3 t11)) (T := tb a) (w := w) rfl) rfl in10 0 (by decide) wm_5_162 rfl rfl dX10_widen_22 ?_
    refine lv_iload_n hx hb dX10_widen_25 rfl (lv_at hl 1 rfl) ?_
    refine aaldM (k0 := 1) hX hB (mw1 (a := a) (r := r) (f := f) (q := (va_up q 3 t11)) (T := tb a) (w := w)) (vp_in_mk (by assumption) (by assumption)) rfl dX10_widen_26 ?_
    have hb14 := mok_r hm y.toNatClampNeg (by omega)
    refine lv_astore_n (lv' := [(3, .ref (a (2 + 2 * y.toNatClampNeg))), (0, .ref (a 0)), (1, .int y), (2, .int c0)]) hx hb dX10_widen_27 rfl hl (by decide) rfl (fun ls hl => ?_)
    refine lv_iload_n hx hb dX10_widen_28 rfl (lv_at hl 3 rfl) ?_
    refine lv_if_eq (tgt := 39) hx hb dX10_widen_29 (by decide) (fun c15 => ?_) (fun c15 => ?_)
    · refine lv_aload_n hx hb dX10_widen_39 rfl (lv_at hl 0 rfl) ?_
      refine gf (k0 := 2 + 2 * y.toNatClampNeg) hX hB (mwG (i := y.toNatClampNeg) (a := a) (r := r) (f := f) (q := (va_up q 3 t11)) (T := tb a) (w := w) (by omega)) rfl in7 0 (by decide) wm_5_148 rfl rfl dX10_widen_40 ?_
      refine lv_iconst (v := 1) hx hb dX10_widen_43 (by decide) ?_
      refine lv_iadd hx hb dX10_widen_44 ?_
      refine eqi (y := nI ((r (2 * y.toNatClampNeg)) + 1)) (nI_add (r (2 * y.toNatClampNeg)) 1) ?_
      refine lv_istore (lv' := [(4, .int (nI ((r (2 * y.toNatClampNeg)) + 1))), (3, .ref (a (2 + 2 * y.toNatClampNeg))), (0, .ref (a 0)), (1, .int y), (2, .int c0)]) hx hb dX10_widen_45 hl (by decide) rfl (fun ls hl => ?_)
      refine lv_iload hx hb dX10_widen_47 (lv_at hl 0 rfl) ?_
      refine lv_iconst (v := 4) hx hb dX10_widen_49 (by decide) ?_
      refine lv_icmp_le (tgt := 58) hx hb dX10_widen_50 (by decide) (fun c16 => ?_) (fun c16 => ?_)
      · replace c16 : nI ((r (2 * y.toNatClampNeg)) + 1) ≤ nI 4 := c16
        rw [nleP (by omega) (by omega)] at c16
        refine lv_aload_n hx hb dX10_widen_58 rfl (lv_at hl 2 rfl) ?_
        refine gf (k0 := 0) hX hB (mw0x (a := a) (r := r) (f := f) (q := (va_up q 3 t11)) (T := tb a) (w := w) rfl) rfl in10 0 (by decide) wm_5_162 rfl rfl dX10_widen_59 ?_
        refine lv_iload_n hx hb dX10_widen_62 rfl (lv_at hl 3 rfl) ?_
        refine lv_aload_n hx hb dX10_widen_63 rfl (lv_at hl 1 rfl) ?_
        refine lv_iload_n hx hb dX10_widen_64 rfl (lv_at hl 4 rfl) ?_
        refine lv_if_eq (tgt := 75) hx hb dX10_widen_65 (by decide) (fun _ => ?_) (fun c17 => False.elim (c17 c15))
        refine lv_iload hx hb dX10_widen_75 (lv_at hl 0 rfl) ?_
        refine lv_iload_n hx hb dX10_widen_77 rfl (lv_at hl 4 rfl) ?_
        refine lv_if_eq (tgt := 86) hx hb dX10_widen_78 (by decide) (fun _ => ?_) (fun c18 => False.elim (c18 c15))
        refine lv_aload_n hx hb dX10_widen_86 rfl (lv_at hl 1 rfl) ?_
        refine gf (k0 := 2 + 2 * y.toNatClampNeg) hX hB (mwG (i := y.toNatClampNeg) (a := a) (r := r) (f := f) (q := (va_up q 3 t11)) (T := tb a) (w := w) (by omega)) rfl in7 1 (by decide) wm_5_152 rfl rfl dX10_widen_87 ?_
        refine lv_bipush (v := 9) hx hb dX10_widen_90 (by decide) ?_
        refine lv_bipush (v := 9) hx hb dX10_widen_92 (by decide) ?_
        refine call_S (n := 5) (As := [.ref (a (2 + 2 * y.toNatClampNeg)), .int (nI ((r (2 * y.toNatClampNeg)) + 1)), .int (nI (r (2 * y.toNatClampNeg + 1))), .int 9, .int 9]) (rest := [.int y, .ref (a 1)]) hX hB (k_X10_shaped κ l (mw κ a r f (va_up q 3 t11) (tb a) w) (2 + 2 * y.toNatClampNeg) (3 + 2 * y.toNatClampNeg) (a (2 + 2 * y.toNatClampNeg)) (a (3 + 2 * y.toNatClampNeg)) (r (2 * y.toNatClampNeg)) (r (2 * y.toNatClampNeg + 1)) (f y.toNatClampNeg) (nI ((r (2 * y.toNatClampNeg)) + 1)) ((r (2 * y.toNatClampNeg)) + 1) (nI (r (2 * y.toNatClampNeg + 1))) (r (2 * y.toNatClampNeg + 1)) 9 9 (mwG (i := y.toNatClampNeg) (a := a) (r := r) (f := f) (q := (va_up q 3 t11)) (T := tb a) (w := w) (by omega)) (mwA (i := y.toNatClampNeg) (a := a) (r := r) (f := f) (q := (va_up q 3 t11)) (T := tb a) (w := w) (by omega)) (mok_shp (i := y.toNatClampNeg) hm (by omega)) rfl rfl (by omega) ((hm _ (by omega)).2)) ⟨by decide, by decide, by decide +kernel⟩ wm_6_93 wm_6_94 wm_1_6 wm_6_95 ⟨Nat.le_of_ble_eq_true rfl, Nat.le_of_ble_eq_true rfl⟩ ⟨Nat.le_of_ble_eq_true rfl, Nat.le_of_ble_eq_true rfl⟩ rfl hl.1 rfl (Nat.le_of_ble_eq_true rfl) dX10_widen_94 (fun o w' H locs hp hB => ?_)
        obtain ⟨q19, q20, F21, rfl, hf22, hw9⟩ := hp
        replace hB : Bd κ A s (lA κ q20 (((r (2 * y.toNatClampNeg)) + 1) * 5) F21 :: gO q19 ((r (2 * y.toNatClampNeg)) + 1) (r (2 * y.toNatClampNeg + 1)) q20 :: mw κ a r f (va_up q 3 t11) (tb a) w) H locs := by rw [hw9] at hB; exact hB
        refine W.eq (g2 := F0 m 97 ls [.ref q19, .int y, .ref (a 1)]) rfl ?_
        refine astM (f := tb a) (k0 := 3) (k1 := 1) hX hB (mw1 (a := a) (r := r) (f := f) (q := (va_up q 3 t11)) (T := tb a) (w := w)) rfl (vp_in_mk (by assumption) (by assumption)) (w1 := lA κ q20 (((r (2 * y.toNatClampNeg)) + 1) * 5) F21 :: gO q19 ((r (2 * y.toNatClampNeg)) + 1) (r (2 * y.toNatClampNeg + 1)) q20 :: mw κ a r f (va_up q 3 t11) (va_up (tb a) y.toNatClampNeg (some q19)) w) (congrArg (List.cons _) (congrArg (List.cons _) (mwST _))) dX10_widen_97 (fun H locs hB => ?_)
        obtain ⟨a23, ha24, hg25, hB⟩ := Bd_repl2 (t := y.toNatClampNeg) (by omega) hB
        have hba23 := mok_r hm y.toNatClampNeg (by omega)
        refine lv_aload_n hx hb dX10_widen_98 rfl (lv_at hl 2 rfl) ?_
        refine lv_iload hx hb dX10_widen_99 (lv_at hl 0 rfl) ?_
        refine call_V (n := 1) (k0 := 0) (As := [.int (nI ((r (2 * y.toNatClampNeg)) + 1))]) (rest := []) hX hB (k_X10_told κ l (mw κ a23 (va_up (va_up r (2 * y.toNatClampNeg) ((r (2 * y.toNatClampNeg)) + 1)) (2 * y.toNatClampNeg + 1) (r (2 * y.toNatClampNeg + 1))) (va_up f y.toNatClampNeg F21) (va_up q 3 t11) (tb a23) w) 0 (a 0) (a23 1) ((va_up q 3 t11) 0) ((va_up q 3 t11) 1) ((va_up q 3 t11) 2) ((va_up q 3 t11) 3) (nI ((r (2 * y.toNatClampNeg)) + 1)) (mw0x (a := a23) (r := (va_up (va_up r (2 * y.toNatClampNeg) ((r (2 * y.toNatClampNeg)) + 1)) (2 * y.toNatClampNeg + 1) (r (2 * y.toNatClampNeg + 1)))) (f := (va_up f y.toNatClampNeg F21)) (q := (va_up q 3 t11)) (T := tb a23) (w := w) (ha24.trans rfl))) ⟨rfl, by decide, by decide, by decide +kernel⟩ wm_5_204 wm_5_206 wp_30 wm_1_6 wm_5_207 ⟨Nat.le_of_ble_eq_true rfl, Nat.le_of_ble_eq_true rfl⟩ ⟨Nat.le_of_ble_eq_true rfl, Nat.le_of_ble_eq_true rfl⟩ (mw0x (a := a23) (r := (va_up (va_up r (2 * y.toNatClampNeg) ((r (2 * y.toNatClampNeg)) + 1)) (2 * y.toNatClampNeg + 1) (r (2 * y.toNatClampNeg + 1)))) (f := (va_up f y.toNatClampNeg F21)) (q := (va_up q 3 t11)) (T := tb a23) (w := w) (ha24.trans rfl)) rfl rfl rfl hl.1 rfl (Nat.le_of_ble_eq_true rfl) dX10_widen_101 (fun o w' H locs hp hB => ?_)
        obtain ⟨rfl, hw9⟩ := hp
        replace hB : Bd κ A s (mw κ a23 (va_up (va_up r (2 * y.toNatClampNeg) ((r (2 * y.toNatClampNeg)) + 1)) (2 * y.toNatClampNeg + 1) (r (2 * y.toNatClampNeg + 1))) (va_up f y.toNatClampNeg F21) (va_up (va_up q 3 t11) 0 (((va_up q 3 t11) 0) + 1)) (tb a23) w) H locs := by exact Bd_eq (mwQ0x (ha24.trans rfl) _) (by rw [hw9] at hB; exact hB)
        refine W.eq (g2 := F0 m 104 ls [.int (nI ((r (2 * y.toNatClampNeg)) + 1))]) rfl ?_
        rw [← hQ]
        exact end_i hX hB hA3 rfl rfl ⟨(nI ((r (2 * y.toNatClampNeg)) + 1)), a23, (va_up (va_up r (2 * y.toNatClampNeg) ((r (2 * y.toNatClampNeg)) + 1)) (2 * y.toNatClampNeg + 1) (r (2 * y.toNatClampNeg + 1))), (va_up f y.toNatClampNeg F21), (va_up (va_up q 3 t11) 0 (((va_up q 3 t11) 0) + 1)), rfl, (ha24.trans rfl), (mok_repl (t := y.toNatClampNeg) (R := ((r (2 * y.toNatClampNeg)) + 1)) (C := (r (2 * y.toNatClampNeg + 1))) (F := F21) hm ⟨by omega, by omega, by omega, by omega⟩ hf22), rfl, rfl⟩ (Nat.le_of_ble_eq_true rfl) (Nat.le_of_ble_eq_true rfl) dX10_widen_104
      · replace c16 : ¬ nI ((r (2 * y.toNatClampNeg)) + 1) ≤ nI 4 := c16
        rw [nleP (by omega) (by omega)] at c16
        refine lv_aload_n hx hb dX10_widen_53 rfl (lv_at hl 2 rfl) ?_
        refine call_V (n := 0) (k0 := 0) (As := []) (rest := []) hX hB (k_X10_no κ l (mw κ a r f (va_up q 3 t11) (tb a) w) 0 (a 0) (a 1) ((va_up q 3 t11) 0) ((va_up q 3 t11) 1) ((va_up q 3 t11) 2) ((va_up q 3 t11) 3) (mw0x (a := a) (r := r) (f := f) (q := (va_up q 3 t11)) (T := tb a) (w := w) rfl)) ⟨rfl, by decide, by decide, by decide +kernel⟩ wm_6_85 wm_6_87 wp_36 wm_1_6 wm_6_88 ⟨Nat.le_of_ble_eq_true rfl, Nat.le_of_ble_eq_true rfl⟩ ⟨Nat.le_of_ble_eq_true rfl, Nat.le_of_ble_eq_true rfl⟩ (mw0x (a := a) (r := r) (f := f) (q := (va_up q 3 t11)) (T := tb a) (w := w) rfl) rfl rfl rfl hl.1 rfl (Nat.le_of_ble_eq_true rfl) dX10_widen_54 (fun o w' H locs hp hB => ?_)
        obtain ⟨rfl, hw9⟩ := hp
        replace hB : Bd κ A s (mw κ a r f (va_up (va_up q 3 t11) 1 (((va_up q 3 t11) 1) + 1)) (tb a) w) H locs := by exact Bd_eq (mwQ1x rfl _) (by rw [hw9] at hB; exact hB)
        refine W.eq (g2 := F0 m 57 ls [.int (-9)]) rfl ?_
        rw [← hQ]
        exact end_i hX hB hA3 rfl rfl ⟨(-9), a, r, f, (va_up (va_up q 3 t11) 1 (((va_up q 3 t11) 1) + 1)), rfl, rfl, hm, rfl, rfl⟩ (Nat.le_of_ble_eq_true rfl) (Nat.le_of_ble_eq_true rfl) dX10_widen_57
    · refine lv_aload_n hx hb dX10_widen_32 rfl (lv_at hl 0 rfl) ?_
      refine gf (k0 := 2 + 2 * y.toNatClampNeg) hX hB (mwG (i := y.toNatClampNeg) (a := a) (r := r) (f := f) (q := (va_up q 3 t11)) (T := tb a) (w := w) (by omega)) rfl in7 1 (by decide) wm_5_152 rfl rfl dX10_widen_33 ?_
      refine lv_goto (tgt := 43) hx hb dX10_widen_36 (by decide) ?_
      refine lv_iconst (v := 1) hx hb dX10_widen_43 (by decide) ?_
      refine lv_iadd hx hb dX10_widen_44 ?_
      refine eqi (y := nI ((r (2 * y.toNatClampNeg + 1)) + 1)) (nI_add (r (2 * y.toNatClampNeg + 1)) 1) ?_
      refine lv_istore (lv' := [(4, .int (nI ((r (2 * y.toNatClampNeg + 1)) + 1))), (3, .ref (a (2 + 2 * y.toNatClampNeg))), (0, .ref (a 0)), (1, .int y), (2, .int c0)]) hx hb dX10_widen_45 hl (by decide) rfl (fun ls hl => ?_)
      refine lv_iload hx hb dX10_widen_47 (lv_at hl 0 rfl) ?_
      refine lv_iconst (v := 4) hx hb dX10_widen_49 (by decide) ?_
      refine lv_icmp_le (tgt := 58) hx hb dX10_widen_50 (by decide) (fun c26 => ?_) (fun c26 => ?_)
      · replace c26 : nI ((r (2 * y.toNatClampNeg + 1)) + 1) ≤ nI 4 := c26
        rw [nleP (by omega) (by omega)] at c26
        refine lv_aload_n hx hb dX10_widen_58 rfl (lv_at hl 2 rfl) ?_
        refine gf (k0 := 0) hX hB (mw0x (a := a) (r := r) (f := f) (q := (va_up q 3 t11)) (T := tb a) (w := w) rfl) rfl in10 0 (by decide) wm_5_162 rfl rfl dX10_widen_59 ?_
        refine lv_iload_n hx hb dX10_widen_62 rfl (lv_at hl 3 rfl) ?_
        refine lv_aload_n hx hb dX10_widen_63 rfl (lv_at hl 1 rfl) ?_
        refine lv_iload_n hx hb dX10_widen_64 rfl (lv_at hl 4 rfl) ?_
        refine lv_if_eq (tgt := 75) hx hb dX10_widen_65 (by decide) (fun c27 => False.elim (c15 c27)) (fun _ => ?_)
        refine lv_aload_n hx hb dX10_widen_68 rfl (lv_at hl 1 rfl) ?_
        refine gf (k0 := 2 + 2 * y.toNatClampNeg) hX hB (mwG (i := y.toNatClampNeg) (a := a) (r := r) (f := f) (q := (va_up q 3 t11)) (T := tb a) (w := w) (by omega)) rfl in7 0 (by decide) wm_5_148 rfl rfl dX10_widen_69 ?_
        refine lv_goto (tgt := 77) hx hb dX10_widen_72 (by decide) ?_
        refine lv_iload_n hx hb dX10_widen_77 rfl (lv_at hl 4 rfl) ?_
        refine lv_if_eq (tgt := 86) hx hb dX10_widen_78 (by decide) (fun c28 => False.elim (c15 c28)) (fun _ => ?_)
        refine lv_iload hx hb dX10_widen_81 (lv_at hl 0 rfl) ?_
        refine lv_goto (tgt := 90) hx hb dX10_widen_83 (by decide) ?_
        refine lv_bipush (v := 9) hx hb dX10_widen_90 (by decide) ?_
        refine lv_bipush (v := 9) hx hb dX10_widen_92 (by decide) ?_
        refine call_S (n := 5) (As := [.ref (a (2 + 2 * y.toNatClampNeg)), .int (nI (r (2 * y.toNatClampNeg))), .int (nI ((r (2 * y.toNatClampNeg + 1)) + 1)), .int 9, .int 9]) (rest := [.int y, .ref (a 1)]) hX hB (k_X10_shaped κ l (mw κ a r f (va_up q 3 t11) (tb a) w) (2 + 2 * y.toNatClampNeg) (3 + 2 * y.toNatClampNeg) (a (2 + 2 * y.toNatClampNeg)) (a (3 + 2 * y.toNatClampNeg)) (r (2 * y.toNatClampNeg)) (r (2 * y.toNatClampNeg + 1)) (f y.toNatClampNeg) (nI (r (2 * y.toNatClampNeg))) (r (2 * y.toNatClampNeg)) (nI ((r (2 * y.toNatClampNeg + 1)) + 1)) ((r (2 * y.toNatClampNeg + 1)) + 1) 9 9 (mwG (i := y.toNatClampNeg) (a := a) (r := r) (f := f) (q := (va_up q 3 t11)) (T := tb a) (w := w) (by omega)) (mwA (i := y.toNatClampNeg) (a := a) (r := r) (f := f) (q := (va_up q 3 t11)) (T := tb a) (w := w) (by omega)) (mok_shp (i := y.toNatClampNeg) hm (by omega)) rfl rfl (by omega) ((hm _ (by omega)).2)) ⟨by decide, by decide, by decide +kernel⟩ wm_6_93 wm_6_94 wm_1_6 wm_6_95 ⟨Nat.le_of_ble_eq_true rfl, Nat.le_of_ble_eq_true rfl⟩ ⟨Nat.le_of_ble_eq_true rfl, Nat.le_of_ble_eq_true rfl⟩ rfl hl.1 rfl (Nat.le_of_ble_eq_true rfl) dX10_widen_94 (fun o w' H locs hp hB => ?_)
        obtain ⟨q29, q30, F31, rfl, hf32, hw9⟩ := hp
        replace hB : Bd κ A s (lA κ q30 ((r (2 * y.toNatClampNeg)) * 5) F31 :: gO q29 (r (2 * y.toNatClampNeg)) ((r (2 * y.toNatClampNeg + 1)) + 1) q30 :: mw κ a r f (va_up q 3 t11) (tb a) w) H locs := by rw [hw9] at hB; exact hB
        refine W.eq (g2 := F0 m 97 ls [.ref q29, .int y, .ref (a 1)]) rfl ?_
        refine astM (f := tb a) (k0 := 3) (k1 := 1) hX hB (mw1 (a := a) (r := r) (f := f) (q := (va_up q 3 t11)) (T := tb a) (w := w)) rfl (vp_in_mk (by assumption) (by assumption)) (w1 := lA κ q30 ((r (2 * y.toNatClampNeg)) * 5) F31 :: gO q29 (r (2 * y.toNatClampNeg)) ((r (2 * y.toNatClampNeg + 1)) + 1) q30 :: mw κ a r f (va_up q 3 t11) (va_up (tb a) y.toNatClampNeg (some q29)) w) (congrArg (List.cons _) (congrArg (List.cons _) (mwST _))) dX10_widen_97 (fun H locs hB => ?_)
        obtain ⟨a33, ha34, hg35, hB⟩ := Bd_repl2 (t := y.toNatClampNeg) (by omega) hB
        have hba33 := mok_r hm y.toNatClampNeg (by omega)
        refine lv_aload_n hx hb dX10_widen_98 rfl (lv_at hl 2 rfl) ?_
        refine lv_iload hx hb dX10_widen_99 (lv_at hl 0 rfl) ?_
        refine call_V (n := 1) (k0 := 0) (As := [.int (nI ((r (2 * y.toNatClampNeg + 1)) + 1))]) (rest := []) hX hB (k_X10_told κ l (mw κ a33 (va_up (va_up r (2 * y.toNatClampNeg) (r (2 * y.toNatClampNeg))) (2 * y.toNatClampNeg + 1) ((r (2 * y.toNatClampNeg + 1)) + 1)) (va_up f y.toNatClampNeg F31) (va_up q 3 t11) (tb a33) w) 0 (a 0) (a33 1) ((va_up q 3 t11) 0) ((va_up q 3 t11) 1) ((va_up q 3 t11) 2) ((va_up q 3 t11) 3) (nI ((r (2 * y.toNatClampNeg + 1)) + 1)) (mw0x (a := a33) (r := (va_up (va_up r (2 * y.toNatClampNeg) (r (2 * y.toNatClampNeg))) (2 * y.toNatClampNeg + 1) ((r (2 * y.toNatClampNeg + 1)) + 1))) (f := (va_up f y.toNatClampNeg F31)) (q := (va_up q 3 t11)) (T := tb a33) (w := w) (ha34.trans rfl))) ⟨rfl, by decide, by decide, by decide +kernel⟩ wm_5_204 wm_5_206 wp_30 wm_1_6 wm_5_207 ⟨Nat.le_of_ble_eq_true rfl, Nat.le_of_ble_eq_true rfl⟩ ⟨Nat.le_of_ble_eq_true rfl, Nat.le_of_ble_eq_true rfl⟩ (mw0x (a := a33) (r := (va_up (va_up r (2 * y.toNatClampNeg) (r (2 * y.toNatClampNeg))) (2 * y.toNatClampNeg + 1) ((r (2 * y.toNatClampNeg + 1)) + 1))) (f := (va_up f y.toNatClampNeg F31)) (q := (va_up q 3 t11)) (T := tb a33) (w := w) (ha34.trans rfl)) rfl rfl rfl hl.1 rfl (Nat.le_of_ble_eq_true rfl) dX10_widen_101 (fun o w' H locs hp hB => ?_)
        obtain ⟨rfl, hw9⟩ := hp
        replace hB : Bd κ A s (mw κ a33 (va_up (va_up r (2 * y.toNatClampNeg) (r (2 * y.toNatClampNeg))) (2 * y.toNatClampNeg + 1) ((r (2 * y.toNatClampNeg + 1)) + 1)) (va_up f y.toNatClampNeg F31) (va_up (va_up q 3 t11) 0 (((va_up q 3 t11) 0) + 1)) (tb a33) w) H locs := by exact Bd_eq (mwQ0x (ha34.trans rfl) _) (by rw [hw9] at hB; exact hB)
        refine W.eq (g2 := F0 m 104 ls [.int (nI ((r (2 * y.toNatClampNeg + 1)) + 1))]) rfl ?_
        rw [← hQ]
        exact end_i hX hB hA3 rfl rfl ⟨(nI ((r (2 * y.toNatClampNeg + 1)) + 1)), a33, (va_up (va_up r (2 * y.toNatClampNeg) (r (2 * y.toNatClampNeg))) (2 * y.toNatClampNeg + 1) ((r (2 * y.toNatClampNeg + 1)) + 1)), (va_up f y.toNatClampNeg F31), (va_up (va_up q 3 t11) 0 (((va_up q 3 t11) 0) + 1)), rfl, (ha34.trans rfl), (mok_repl (t := y.toNatClampNeg) (R := (r (2 * y.toNatClampNeg))) (C := ((r (2 * y.toNatClampNeg + 1)) + 1)) (F := F31) hm ⟨by omega, by omega, by omega, by omega⟩ hf32), rfl, rfl⟩ (Nat.le_of_ble_eq_true rfl) (Nat.le_of_ble_eq_true rfl) dX10_widen_104
      · replace c26 : ¬ nI ((r (2 * y.toNatClampNeg + 1)) + 1) ≤ nI 4 := c26
        rw [nleP (by omega) (by omega)] at c26
        refine lv_aload_n hx hb dX10_widen_53 rfl (lv_at hl 2 rfl) ?_
        refine call_V (n := 0) (k0 := 0) (As := []) (rest := []) hX hB (k_X10_no κ l (mw κ a r f (va_up q 3 t11) (tb a) w) 0 (a 0) (a 1) ((va_up q 3 t11) 0) ((va_up q 3 t11) 1) ((va_up q 3 t11) 2) ((va_up q 3 t11) 3) (mw0x (a := a) (r := r) (f := f) (q := (va_up q 3 t11)) (T := tb a) (w := w) rfl)) ⟨rfl, by decide, by decide, by decide +kernel⟩ wm_6_85 wm_6_87 wp_36 wm_1_6 wm_6_88 ⟨Nat.le_of_ble_eq_true rfl, Nat.le_of_ble_eq_true rfl⟩ ⟨Nat.le_of_ble_eq_true rfl, Nat.le_of_ble_eq_true rfl⟩ (mw0x (a := a) (r := r) (f := f) (q := (va_up q 3 t11)) (T := tb a) (w := w) rfl) rfl rfl rfl hl.1 rfl (Nat.le_of_ble_eq_true rfl) dX10_widen_54 (fun o w' H locs hp hB => ?_)
        obtain ⟨rfl, hw9⟩ := hp
        replace hB : Bd κ A s (mw κ a r f (va_up (va_up q 3 t11) 1 (((va_up q 3 t11) 1) + 1)) (tb a) w) H locs := by exact Bd_eq (mwQ1x rfl _) (by rw [hw9] at hB; exact hB)
        refine W.eq (g2 := F0 m 57 ls [.int (-9)]) rfl ?_
        rw [← hQ]
        exact end_i hX hB hA3 rfl rfl ⟨(-9), a, r, f, (va_up (va_up q 3 t11) 1 (((va_up q 3 t11) 1) + 1)), rfl, rfl, hm, rfl, rfl⟩ (Nat.le_of_ble_eq_true rfl) (Nat.le_of_ble_eq_true rfl) dX10_widen_57
set_option maxHeartbeats 4000000 in
set_option maxRecDepth 100000 in
theorem k_X10_drop (κ : Kt) (l : Launch) (w : va_W) (a r : Nat → Nat) (f : Nat → Nat → Int64) (q : Nat → Int32) (y : Int32) (c0 : Int32) (z : Int32) (hm : mok r f) : CM κ l yX10_drop cX10_drop 6 (some .int) 3 71 2 23 [.ref (a 0), .int y, .int c0, .int z] (mw κ a r f q (tb a) w) (fun o w' => ∃ (x : Int32) (a' : Nat → Nat) (r' : Nat → Nat) (f' : Nat → Nat → Int64) (q' : Nat → Int32), o = some (.int x) ∧ (a' 0 = a 0) ∧ (mok r' f') ∧ (q' 2 = q 2) ∧ w' = mw κ a' r' f' q' (tb a') w) := by
  refine CM_begin (plainFor_of_name (by decide)) (Nat.le_of_ble_eq_true rfl) ?_
  intro p e s m args below meth c A Q hX hnm hA3 hQ hB ls hl
  have hx := hX.1.1
  have hb := hX.1.2.1
  have hl : lv_has ls 6 [(0, .ref (a 0)), (1, .int y), (2, .int c0), (3, .int z)] := hl
  refine lv_aload_n hx hb dX10_drop_0 rfl (lv_at hl 0 rfl) ?_
  refine lv_aload_n hx hb dX10_drop_1 rfl (lv_at hl 0 rfl) ?_
  refine lv_iload_n hx hb dX10_drop_2 rfl (lv_at hl 1 rfl) ?_
  refine lv_iload_n hx hb dX10_drop_3 rfl (lv_at hl 2 rfl) ?_
  refine lv_iload_n hx hb dX10_drop_4 rfl (lv_at hl 3 rfl) ?_
  refine call_V (n := 3) (k0 := 0) (As := [.int y, .int c0, .int z]) (rest := [.ref (a 0)]) hX hB (k_X10_isLine κ l w a r f q y c0 z hm) ⟨rfl, by decide, by decide, by decide +kernel⟩ wm_6_38 wm_6_40 wp_34 wm_1_6 wm_6_41 ⟨Nat.le_of_ble_eq_true rfl, Nat.le_of_ble_eq_true rfl⟩ ⟨Nat.le_of_ble_eq_true rfl, Nat.le_of_ble_eq_true rfl⟩ (mw0x (a := a) (r := r) (f := f) (q := q) (T := tb a) (w := w) rfl) rfl rfl rfl hl.1 rfl (Nat.le_of_ble_eq_true rfl) dX10_drop_5 (fun o w' H locs hp hB => ?_)
  obtain ⟨x1, rfl, hf2, hw9⟩ := hp
  replace hB : Bd κ A s (mw κ a r f q (tb a) w) H locs := by rw [hw9] at hB; exact hB
  rcases hf2 with rfl | ⟨rfl, hz3a, hz3b, hz3c, hz3d, hz3e⟩
  · refine W.eq (g2 := F0 m 8 ls [.int 0, .ref (a 0)]) rfl ?_
    refine lv_if_ne (tgt := 15) hx hb dX10_drop_8 (by decide) (fun c4 => False.elim (by revert c4; decide)) (fun _ => ?_)
    refine lv_iconst (v := 1) hx hb dX10_drop_11 (by decide) ?_
    refine lv_goto (tgt := 16) hx hb dX10_drop_12 (by decide) ?_
    refine call_V (n := 1) (k0 := 0) (As := [.int 1]) (rest := []) hX hB (k_X10_isThrown__ κ l (mw κ a r f q (tb a) w) 0 (a 0) (a 1) (q 0) (q 1) (q 2) (q 3) 1 (mw0x (a := a) (r := r) (f := f) (q := q) (T := tb a) (w := w) rfl)) ⟨rfl, by decide, by decide, by decide +kernel⟩ wm_6_11 wm_6_13 wp_33 wm_1_6 wm_6_14 ⟨Nat.le_of_ble_eq_true rfl, Nat.le_of_ble_eq_true rfl⟩ ⟨Nat.le_of_ble_eq_true rfl, Nat.le_of_ble_eq_true rfl⟩ (mw0x (a := a) (r := r) (f := f) (q := q) (T := tb a) (w := w) rfl) rfl rfl rfl hl.1 rfl (Nat.le_of_ble_eq_true rfl) dX10_drop_16 (fun o w' H locs hp hB => ?_)
    obtain ⟨x5, t6, rfl, hf7, hw9⟩ := hp
    replace hB : Bd κ A s (mw κ a r f (va_up q 3 t6) (tb a) w) H locs := by exact Bd_eq (mwQ3x rfl _) (by rw [hw9] at hB; exact hB)
    obtain rfl : x5 = 1 := hf7.trans (by decide)
    refine W.eq (g2 := F0 m 19 ls [.int 1]) rfl ?_
    refine lv_if_eq (tgt := 24) hx hb dX10_drop_19 (by decide) (fun c8 => False.elim (by revert c8; decide)) (fun _ => ?_)
    refine lv_iconst (v := 0) hx hb dX10_drop_22 (by decide) ?_
    rw [← hQ]
    exact end_i hX hB hA3 rfl rfl ⟨0, a, r, f, (va_up q 3 t6), rfl, rfl, hm, rfl, rfl⟩ (Nat.le_of_ble_eq_true rfl) (Nat.le_of_ble_eq_true rfl) dX10_drop_23
  · refine W.eq (g2 := F0 m 8 ls [.int 1, .ref (a 0)]) rfl ?_
    refine lv_if_ne (tgt := 15) hx hb dX10_drop_8 (by decide) (fun _ => ?_) (fun c9 => False.elim (by revert c9; decide))
    refine lv_iconst (v := 0) hx hb dX10_drop_15 (by decide) ?_
    refine call_V (n := 1) (k0 := 0) (As := [.int 0]) (rest := []) hX hB (k_X10_isThrown__ κ l (mw κ a r f q (tb a) w) 0 (a 0) (a 1) (q 0) (q 1) (q 2) (q 3) 0 (mw0x (a := a) (r := r) (f := f) (q := q) (T := tb a) (w := w) rfl)) ⟨rfl, by decide, by decide, by decide +kernel⟩ wm_6_11 wm_6_13 wp_33 wm_1_6 wm_6_14 ⟨Nat.le_of_ble_eq_true rfl, Nat.le_of_ble_eq_true rfl⟩ ⟨Nat.le_of_ble_eq_true rfl, Nat.le_of_ble_eq_true rfl⟩ (mw0x (a := a) (r := r) (f := f) (q := q) (T := tb a) (w := w) rfl) rfl rfl rfl hl.1 rfl (Nat.le_of_ble_eq_true rfl) dX10_drop_16 (fun o w' H locs hp hB => ?_)
    obtain ⟨x10, t11, rfl, hf12, hw9⟩ := hp
    replace hB : Bd κ A s (mw κ a r f (va_up q 3 t11) (tb a) w) H locs := by exact Bd_eq (mwQ3x rfl _) (by rw [hw9] at hB; exact hB)
    obtain rfl : x10 = 0 := hf12.trans (by decide)
    refine W.eq (g2 := F0 m 19 ls [.int 0]) rfl ?_
    refine lv_if_eq (tgt := 24) hx hb dX10_drop_19 (by decide) (fun _ => ?_) (fun c13 => False.elim (by revert c13; decide))
    refine lv_aload_n hx hb dX10_drop_24 rfl (lv_at hl 0 rfl) ?_
    refine gf (k0 := 0) hX hB (mw0x (a := a) (r := r) (f := f) (q := (va_up q 3 t11)) (T := tb a) (w := w) rfl) rfl in10 0 (by decide) wm_5_162 rfl rfl dX10_drop_25 ?_
    refine lv_iload_n hx hb dX10_drop_28 rfl (lv_at hl 1 rfl) ?_
    refine aaldM (k0 := 1) hX hB (mw1 (a := a) (r := r) (f := f) (q := (va_up q 3 t11)) (T := tb a) (w := w)) (vp_in_mk (by assumption) (by assumption)) rfl dX10_drop_29 ?_
    have hb14 := mok_r hm y.toNatClampNeg (by omega)
    refine lv_astore (lv' := [(4, .ref (a (2 + 2 * y.toNatClampNeg))), (0, .ref (a 0)), (1, .int y), (2, .int c0), (3, .int z)]) hx hb dX10_drop_30 hl (by decide) rfl (fun ls hl => ?_)
    refine lv_iload_n hx hb dX10_drop_32 rfl (lv_at hl 3 rfl) ?_
    refine lv_if_eq (tgt := 44) hx hb dX10_drop_33 (by decide) (fun c15 => ?_) (fun c15 => ?_)
    · have hz3l := hz3d c15
      refine lv_aload hx hb dX10_drop_44 (lv_at hl 0 rfl) ?_
      refine gf (k0 := 2 + 2 * y.toNatClampNeg) hX hB (mwG (i := y.toNatClampNeg) (a := a) (r := r) (f := f) (q := (va_up q 3 t11)) (T := tb a) (w := w) (by omega)) rfl in7 0 (by decide) wm_5_148 rfl rfl dX10_drop_46 ?_
      refine lv_iconst (v := 1) hx hb dX10_drop_49 (by decide) ?_
      refine lv_isub hx hb dX10_drop_50 ?_
      refine eqi (y := nI ((r (2 * y.toNatClampNeg)) - 1)) (nI_sub (a := r (2 * y.toNatClampNeg)) (b := 1) (by omega)) ?_
      refine lv_istore (lv' := [(5, .int (nI ((r (2 * y.toNatClampNeg)) - 1))), (4, .ref (a (2 + 2 * y.toNatClampNeg))), (0, .ref (a 0)), (1, .int y), (2, .int c0), (3, .int z)]) hx hb dX10_drop_51 hl (by decide) rfl (fun ls hl => ?_)
      refine lv_iload hx hb dX10_drop_53 (lv_at hl 0 rfl) ?_
      refine lv_if_ne (tgt := 63) hx hb dX10_drop_55 (by decide) (fun c16 => ?_) (fun c16 => ?_)
      · replace c16 : ¬ nI ((r (2 * y.toNatClampNeg)) - 1) = nI 0 := c16
        rw [neqP (by omega) (by omega)] at c16
        refine lv_aload_n hx hb dX10_drop_63 rfl (lv_at hl 2 rfl) ?_
        refine gf (k0 := 0) hX hB (mw0x (a := a) (r := r) (f := f) (q := (va_up q 3 t11)) (T := tb a) (w := w) rfl) rfl in10 0 (by decide) wm_5_162 rfl rfl dX10_drop_64 ?_
        refine lv_iload_n hx hb dX10_drop_67 rfl (lv_at hl 3 rfl) ?_
        refine lv_aload hx hb dX10_drop_68 (lv_at hl 1 rfl) ?_
        refine lv_iload_n hx hb dX10_drop_70 rfl (lv_at hl 4 rfl) ?_
        refine lv_if_eq (tgt := 82) hx hb dX10_drop_71 (by decide) (fun _ => ?_) (fun c17 => False.elim (c17 c15))
        refine lv_iload hx hb dX10_drop_82 (lv_at hl 0 rfl) ?_
        refine lv_iload_n hx hb dX10_drop_84 rfl (lv_at hl 4 rfl) ?_
        refine lv_if_eq (tgt := 93) hx hb dX10_drop_85 (by decide) (fun _ => ?_) (fun c18 => False.elim (c18 c15))
        refine lv_aload hx hb dX10_drop_93 (lv_at hl 1 rfl) ?_
        refine gf (k0 := 2 + 2 * y.toNatClampNeg) hX hB (mwG (i := y.toNatClampNeg) (a := a) (r := r) (f := f) (q := (va_up q 3 t11)) (T := tb a) (w := w) (by omega)) rfl in7 1 (by decide) wm_5_152 rfl rfl dX10_drop_95 ?_
        refine lv_iload_n hx hb dX10_drop_98 rfl (lv_at hl 4 rfl) ?_
        refine lv_if_eq (tgt := 107) hx hb dX10_drop_99 (by decide) (fun _ => ?_) (fun c19 => False.elim (c19 c15))
        refine lv_iload_n hx hb dX10_drop_107 rfl (lv_at hl 5 rfl) ?_
        refine lv_iload_n hx hb dX10_drop_108 rfl (lv_at hl 4 rfl) ?_
        refine lv_if_eq (tgt := 116) hx hb dX10_drop_109 (by decide) (fun _ => ?_) (fun c20 => False.elim (c20 c15))
        refine lv_bipush (v := 9) hx hb dX10_drop_116 (by decide) ?_
        refine call_S (n := 5) (As := [.ref (a (2 + 2 * y.toNatClampNeg)), .int (nI ((r (2 * y.toNatClampNeg)) - 1)), .int (nI (r (2 * y.toNatClampNeg + 1))), .int z, .int 9]) (rest := [.int y, .ref (a 1)]) hX hB (k_X10_shaped κ l (mw κ a r f (va_up q 3 t11) (tb a) w) (2 + 2 * y.toNatClampNeg) (3 + 2 * y.toNatClampNeg) (a (2 + 2 * y.toNatClampNeg)) (a (3 + 2 * y.toNatClampNeg)) (r (2 * y.toNatClampNeg)) (r (2 * y.toNatClampNeg + 1)) (f y.toNatClampNeg) (nI ((r (2 * y.toNatClampNeg)) - 1)) ((r (2 * y.toNatClampNeg)) - 1) (nI (r (2 * y.toNatClampNeg + 1))) (r (2 * y.toNatClampNeg + 1)) z 9 (mwG (i := y.toNatClampNeg) (a := a) (r := r) (f := f) (q := (va_up q 3 t11)) (T := tb a) (w := w) (by omega)) (mwA (i := y.toNatClampNeg) (a := a) (r := r) (f := f) (q := (va_up q 3 t11)) (T := tb a) (w := w) (by omega)) (mok_shp (i := y.toNatClampNeg) hm (by omega)) rfl rfl (by omega) ((hm _ (by omega)).2)) ⟨by decide, by decide, by decide +kernel⟩ wm_6_93 wm_6_94 wm_1_6 wm_6_95 ⟨Nat.le_of_ble_eq_true rfl, Nat.le_of_ble_eq_true rfl⟩ ⟨Nat.le_of_ble_eq_true rfl, Nat.le_of_ble_eq_true rfl⟩ rfl hl.1 rfl (Nat.le_of_ble_eq_true rfl) dX10_drop_118 (fun o w' H locs hp hB => ?_)
        obtain ⟨q21, q22, F23, rfl, hf24, hw9⟩ := hp
        replace hB : Bd κ A s (lA κ q22 (((r (2 * y.toNatClampNeg)) - 1) * 5) F23 :: gO q21 ((r (2 * y.toNatClampNeg)) - 1) (r (2 * y.toNatClampNeg + 1)) q22 :: mw κ a r f (va_up q 3 t11) (tb a) w) H locs := by rw [hw9] at hB; exact hB
        refine W.eq (g2 := F0 m 121 ls [.ref q21, .int y, .ref (a 1)]) rfl ?_
        refine astM (f := tb a) (k0 := 3) (k1 := 1) hX hB (mw1 (a := a) (r := r) (f := f) (q := (va_up q 3 t11)) (T := tb a) (w := w)) rfl (vp_in_mk (by assumption) (by assumption)) (w1 := lA κ q22 (((r (2 * y.toNatClampNeg)) - 1) * 5) F23 :: gO q21 ((r (2 * y.toNatClampNeg)) - 1) (r (2 * y.toNatClampNeg + 1)) q22 :: mw κ a r f (va_up q 3 t11) (va_up (tb a) y.toNatClampNeg (some q21)) w) (congrArg (List.cons _) (congrArg (List.cons _) (mwST _))) dX10_drop_121 (fun H locs hB => ?_)
        obtain ⟨a25, ha26, hg27, hB⟩ := Bd_repl2 (t := y.toNatClampNeg) (by omega) hB
        have hba25 := mok_r hm y.toNatClampNeg (by omega)
        refine lv_aload_n hx hb dX10_drop_122 rfl (lv_at hl 2 rfl) ?_
        refine lv_iload hx hb dX10_drop_123 (lv_at hl 0 rfl) ?_
        refine call_V (n := 1) (k0 := 0) (As := [.int (nI ((r (2 * y.toNatClampNeg)) - 1))]) (rest := []) hX hB (k_X10_told κ l (mw κ a25 (va_up (va_up r (2 * y.toNatClampNeg) ((r (2 * y.toNatClampNeg)) - 1)) (2 * y.toNatClampNeg + 1) (r (2 * y.toNatClampNeg + 1))) (va_up f y.toNatClampNeg F23) (va_up q 3 t11) (tb a25) w) 0 (a 0) (a25 1) ((va_up q 3 t11) 0) ((va_up q 3 t11) 1) ((va_up q 3 t11) 2) ((va_up q 3 t11) 3) (nI ((r (2 * y.toNatClampNeg)) - 1)) (mw0x (a := a25) (r := (va_up (va_up r (2 * y.toNatClampNeg) ((r (2 * y.toNatClampNeg)) - 1)) (2 * y.toNatClampNeg + 1) (r (2 * y.toNatClampNeg + 1)))) (f := (va_up f y.toNatClampNeg F23)) (q := (va_up q 3 t11)) (T := tb a25) (w := w) (ha26.trans rfl))) ⟨rfl, by decide, by decide, by decide +kernel⟩ wm_5_204 wm_5_206 wp_30 wm_1_6 wm_5_207 ⟨Nat.le_of_ble_eq_true rfl, Nat.le_of_ble_eq_true rfl⟩ ⟨Nat.le_of_ble_eq_true rfl, Nat.le_of_ble_eq_true rfl⟩ (mw0x (a := a25) (r := (va_up (va_up r (2 * y.toNatClampNeg) ((r (2 * y.toNatClampNeg)) - 1)) (2 * y.toNatClampNeg + 1) (r (2 * y.toNatClampNeg + 1)))) (f := (va_up f y.toNatClampNeg F23)) (q := (va_up q 3 t11)) (T := tb a25) (w := w) (ha26.trans rfl)) rfl rfl rfl hl.1 rfl (Nat.le_of_ble_eq_true rfl) dX10_drop_125 (fun o w' H locs hp hB => ?_)
        obtain ⟨rfl, hw9⟩ := hp
        replace hB : Bd κ A s (mw κ a25 (va_up (va_up r (2 * y.toNatClampNeg) ((r (2 * y.toNatClampNeg)) - 1)) (2 * y.toNatClampNeg + 1) (r (2 * y.toNatClampNeg + 1))) (va_up f y.toNatClampNeg F23) (va_up (va_up q 3 t11) 0 (((va_up q 3 t11) 0) + 1)) (tb a25) w) H locs := by exact Bd_eq (mwQ0x (ha26.trans rfl) _) (by rw [hw9] at hB; exact hB)
        refine W.eq (g2 := F0 m 128 ls [.int (nI ((r (2 * y.toNatClampNeg)) - 1))]) rfl ?_
        rw [← hQ]
        exact end_i hX hB hA3 rfl rfl ⟨(nI ((r (2 * y.toNatClampNeg)) - 1)), a25, (va_up (va_up r (2 * y.toNatClampNeg) ((r (2 * y.toNatClampNeg)) - 1)) (2 * y.toNatClampNeg + 1) (r (2 * y.toNatClampNeg + 1))), (va_up f y.toNatClampNeg F23), (va_up (va_up q 3 t11) 0 (((va_up q 3 t11) 0) + 1)), rfl, (ha26.trans rfl), (mok_repl (t := y.toNatClampNeg) (R := ((r (2 * y.toNatClampNeg)) - 1)) (C := (r (2 * y.toNatClampNeg + 1))) (F := F23) hm ⟨by omega, by omega, by omega, by omega⟩ hf24), rfl, rfl⟩ (Nat.le_of_ble_eq_true rfl) (Nat.le_of_ble_eq_true rfl) dX10_drop_128
      · replace c16 : nI ((r (2 * y.toNatClampNeg)) - 1) = nI 0 := c16
        rw [neqP (by omega) (by omega)] at c16
        refine lv_aload_n hx hb dX10_drop_58 rfl (lv_at hl 2 rfl) ?_
        refine call_V (n := 0) (k0 := 0) (As := []) (rest := []) hX hB (k_X10_no κ l (mw κ a r f (va_up q 3 t11) (tb a) w) 0 (a 0) (a 1) ((va_up q 3 t11) 0) ((va_up q 3 t11) 1) ((va_up q 3 t11) 2) ((va_up q 3 t11) 3) (mw0x (a := a) (r := r) (f := f) (q := (va_up q 3 t11)) (T := tb a) (w := w) rfl)) ⟨rfl, by decide, by decide, by decide +kernel⟩ wm_6_85 wm_6_87 wp_36 wm_1_6 wm_6_88 ⟨Nat.le_of_ble_eq_true rfl, Nat.le_of_ble_eq_true rfl⟩ ⟨Nat.le_of_ble_eq_true rfl, Nat.le_of_ble_eq_true rfl⟩ (mw0x (a := a) (r := r) (f := f) (q := (va_up q 3 t11)) (T := tb a) (w := w) rfl) rfl rfl rfl hl.1 rfl (Nat.le_of_ble_eq_true rfl) dX10_drop_59 (fun o w' H locs hp hB => ?_)
        obtain ⟨rfl, hw9⟩ := hp
        replace hB : Bd κ A s (mw κ a r f (va_up (va_up q 3 t11) 1 (((va_up q 3 t11) 1) + 1)) (tb a) w) H locs := by exact Bd_eq (mwQ1x rfl _) (by rw [hw9] at hB; exact hB)
        refine W.eq (g2 := F0 m 62 ls [.int (-9)]) rfl ?_
        rw [← hQ]
        exact end_i hX hB hA3 rfl rfl ⟨(-9), a, r, f, (va_up (va_up q 3 t11) 1 (((va_up q 3 t11) 1) + 1)), rfl, rfl, hm, rfl, rfl⟩ (Nat.le_of_ble_eq_true rfl) (Nat.le_of_ble_eq_true rfl) dX10_drop_62
    · have hz3l := hz3e c15
      refine lv_aload hx hb dX10_drop_36 (lv_at hl 0 rfl) ?_
      refine gf (k0 := 2 + 2 * y.toNatClampNeg) hX hB (mwG (i := y.toNatClampNeg) (a := a) (r := r) (f := f) (q := (va_up q 3 t11)) (T := tb a) (w := w) (by omega)) rfl in7 1 (by decide) wm_5_152 rfl rfl dX10_drop_38 ?_
      refine lv_goto (tgt := 49) hx hb dX10_drop_41 (by decide) ?_
      refine lv_iconst (v := 1) hx hb dX10_drop_49 (by decide) ?_
      refine lv_isub hx hb dX10_drop_50 ?_
      refine eqi (y := nI ((r (2 * y.toNatClampNeg + 1)) - 1)) (nI_sub (a := r (2 * y.toNatClampNeg + 1)) (b := 1) (by omega)) ?_
      refine lv_istore (lv' := [(5, .int (nI ((r (2 * y.toNatClampNeg + 1)) - 1))), (4, .ref (a (2 + 2 * y.toNatClampNeg))), (0, .ref (a 0)), (1, .int y), (2, .int c0), (3, .int z)]) hx hb dX10_drop_51 hl (by decide) rfl (fun ls hl => ?_)
      refine lv_iload hx hb dX10_drop_53 (lv_at hl 0 rfl) ?_
      refine lv_if_ne (tgt := 63) hx hb dX10_drop_55 (by decide) (fun c28 => ?_) (fun c28 => ?_)
      · replace c28 : ¬ nI ((r (2 * y.toNatClampNeg + 1)) - 1) = nI 0 := c28
        rw [neqP (by omega) (by omega)] at c28
        refine lv_aload_n hx hb dX10_drop_63 rfl (lv_at hl 2 rfl) ?_
        refine gf (k0 := 0) hX hB (mw0x (a := a) (r := r) (f := f) (q := (va_up q 3 t11)) (T := tb a) (w := w) rfl) rfl in10 0 (by decide) wm_5_162 rfl rfl dX10_drop_64 ?_
        refine lv_iload_n hx hb dX10_drop_67 rfl (lv_at hl 3 rfl) ?_
        refine lv_aload hx hb dX10_drop_68 (lv_at hl 1 rfl) ?_
        refine lv_iload_n hx hb dX10_drop_70 rfl (lv_at hl 4 rfl) ?_
        refine lv_if_eq (tgt := 82) hx hb dX10_drop_71 (by decide) (fun c29 => False.elim (c15 c29)) (fun _ => ?_)
        refine lv_aload hx hb dX10_drop_74 (lv_at hl 1 rfl) ?_
        refine gf (k0 := 2 + 2 * y.toNatClampNeg) hX hB (mwG (i := y.toNatClampNeg) (a := a) (r := r) (f := f) (q := (va_up q 3 t11)) (T := tb a) (w := w) (by omega)) rfl in7 0 (by decide) wm_5_148 rfl rfl dX10_drop_76 ?_
        refine lv_goto (tgt := 84) hx hb dX10_drop_79 (by decide) ?_
        refine lv_iload_n hx hb dX10_drop_84 rfl (lv_at hl 4 rfl) ?_
        refine lv_if_eq (tgt := 93) hx hb dX10_drop_85 (by decide) (fun c30 => False.elim (c15 c30)) (fun _ => ?_)
        refine lv_iload hx hb dX10_drop_88 (lv_at hl 0 rfl) ?_
        refine lv_goto (tgt := 98) hx hb dX10_drop_90 (by decide) ?_
        refine lv_iload_n hx hb dX10_drop_98 rfl (lv_at hl 4 rfl) ?_
        refine lv_if_eq (tgt := 107) hx hb dX10_drop_99 (by decide) (fun c31 => False.elim (c15 c31)) (fun _ => ?_)
        refine lv_bipush (v := 9) hx hb dX10_drop_102 (by decide) ?_
        refine lv_goto (tgt := 108) hx hb dX10_drop_104 (by decide) ?_
        refine lv_iload_n hx hb dX10_drop_108 rfl (lv_at hl 4 rfl) ?_
        refine lv_if_eq (tgt := 116) hx hb dX10_drop_109 (by decide) (fun c32 => False.elim (c15 c32)) (fun _ => ?_)
        refine lv_iload_n hx hb dX10_drop_112 rfl (lv_at hl 5 rfl) ?_
        refine lv_goto (tgt := 118) hx hb dX10_drop_113 (by decide) ?_
        refine call_S (n := 5) (As := [.ref (a (2 + 2 * y.toNatClampNeg)), .int (nI (r (2 * y.toNatClampNeg))), .int (nI ((r (2 * y.toNatClampNeg + 1)) - 1)), .int 9, .int z]) (rest := [.int y, .ref (a 1)]) hX hB (k_X10_shaped κ l (mw κ a r f (va_up q 3 t11) (tb a) w) (2 + 2 * y.toNatClampNeg) (3 + 2 * y.toNatClampNeg) (a (2 + 2 * y.toNatClampNeg)) (a (3 + 2 * y.toNatClampNeg)) (r (2 * y.toNatClampNeg)) (r (2 * y.toNatClampNeg + 1)) (f y.toNatClampNeg) (nI (r (2 * y.toNatClampNeg))) (r (2 * y.toNatClampNeg)) (nI ((r (2 * y.toNatClampNeg + 1)) - 1)) ((r (2 * y.toNatClampNeg + 1)) - 1) 9 z (mwG (i := y.toNatClampNeg) (a := a) (r := r) (f := f) (q := (va_up q 3 t11)) (T := tb a) (w := w) (by omega)) (mwA (i := y.toNatClampNeg) (a := a) (r := r) (f := f) (q := (va_up q 3 t11)) (T := tb a) (w := w) (by omega)) (mok_shp (i := y.toNatClampNeg) hm (by omega)) rfl rfl (by omega) ((hm _ (by omega)).2)) ⟨by decide, by decide, by decide +kernel⟩ wm_6_93 wm_6_94 wm_1_6 wm_6_95 ⟨Nat.le_of_ble_eq_true rfl, Nat.le_of_ble_eq_true rfl⟩ ⟨Nat.le_of_ble_eq_true rfl, Nat.le_of_ble_eq_true rfl⟩ rfl hl.1 rfl (Nat.le_of_ble_eq_true rfl) dX10_drop_118 (fun o w' H locs hp hB => ?_)
        obtain ⟨q33, q34, F35, rfl, hf36, hw9⟩ := hp
        replace hB : Bd κ A s (lA κ q34 ((r (2 * y.toNatClampNeg)) * 5) F35 :: gO q33 (r (2 * y.toNatClampNeg)) ((r (2 * y.toNatClampNeg + 1)) - 1) q34 :: mw κ a r f (va_up q 3 t11) (tb a) w) H locs := by rw [hw9] at hB; exact hB
        refine W.eq (g2 := F0 m 121 ls [.ref q33, .int y, .ref (a 1)]) rfl ?_
        refine astM (f := tb a) (k0 := 3) (k1 := 1) hX hB (mw1 (a := a) (r := r) (f := f) (q := (va_up q 3 t11)) (T := tb a) (w := w)) rfl (vp_in_mk (by assumption) (by assumption)) (w1 := lA κ q34 ((r (2 * y.toNatClampNeg)) * 5) F35 :: gO q33 (r (2 * y.toNatClampNeg)) ((r (2 * y.toNatClampNeg + 1)) - 1) q34 :: mw κ a r f (va_up q 3 t11) (va_up (tb a) y.toNatClampNeg (some q33)) w) (congrArg (List.cons _) (congrArg (List.cons _) (mwST _))) dX10_drop_121 (fun H locs hB => ?_)
        obtain ⟨a37, ha38, hg39, hB⟩ := Bd_repl2 (t := y.toNatClampNeg) (by omega) hB
        have hba37 := mok_r hm y.toNatClampNeg (by omega)
        refine lv_aload_n hx hb dX10_drop_122 rfl (lv_at hl 2 rfl) ?_
        refine lv_iload hx hb dX10_drop_123 (lv_at hl 0 rfl) ?_
        refine call_V (n := 1) (k0 := 0) (As := [.int (nI ((r (2 * y.toNatClampNeg + 1)) - 1))]) (rest := []) hX hB (k_X10_told κ l (mw κ a37 (va_up (va_up r (2 * y.toNatClampNeg) (r (2 * y.toNatClampNeg))) (2 * y.toNatClampNeg + 1) ((r (2 * y.toNatClampNeg + 1)) - 1)) (va_up f y.toNatClampNeg F35) (va_up q 3 t11) (tb a37) w) 0 (a 0) (a37 1) ((va_up q 3 t11) 0) ((va_up q 3 t11) 1) ((va_up q 3 t11) 2) ((va_up q 3 t11) 3) (nI ((r (2 * y.toNatClampNeg + 1)) - 1)) (mw0x (a := a37) (r := (va_up (va_up r (2 * y.toNatClampNeg) (r (2 * y.toNatClampNeg))) (2 * y.toNatClampNeg + 1) ((r (2 * y.toNatClampNeg + 1)) - 1))) (f := (va_up f y.toNatClampNeg F35)) (q := (va_up q 3 t11)) (T := tb a37) (w := w) (ha38.trans rfl))) ⟨rfl, by decide, by decide, by decide +kernel⟩ wm_5_204 wm_5_206 wp_30 wm_1_6 wm_5_207 ⟨Nat.le_of_ble_eq_true rfl, Nat.le_of_ble_eq_true rfl⟩ ⟨Nat.le_of_ble_eq_true rfl, Nat.le_of_ble_eq_true rfl⟩ (mw0x (a := a37) (r := (va_up (va_up r (2 * y.toNatClampNeg) (r (2 * y.toNatClampNeg))) (2 * y.toNatClampNeg + 1) ((r (2 * y.toNatClampNeg + 1)) - 1))) (f := (va_up f y.toNatClampNeg F35)) (q := (va_up q 3 t11)) (T := tb a37) (w := w) (ha38.trans rfl)) rfl rfl rfl hl.1 rfl (Nat.le_of_ble_eq_true rfl) dX10_drop_125 (fun o w' H locs hp hB => ?_)
        obtain ⟨rfl, hw9⟩ := hp
        replace hB : Bd κ A s (mw κ a37 (va_up (va_up r (2 * y.toNatClampNeg) (r (2 * y.toNatClampNeg))) (2 * y.toNatClampNeg + 1) ((r (2 * y.toNatClampNeg + 1)) - 1)) (va_up f y.toNatClampNeg F35) (va_up (va_up q 3 t11) 0 (((va_up q 3 t11) 0) + 1)) (tb a37) w) H locs := by exact Bd_eq (mwQ0x (ha38.trans rfl) _) (by rw [hw9] at hB; exact hB)
        refine W.eq (g2 := F0 m 128 ls [.int (nI ((r (2 * y.toNatClampNeg + 1)) - 1))]) rfl ?_
        rw [← hQ]
        exact end_i hX hB hA3 rfl rfl ⟨(nI ((r (2 * y.toNatClampNeg + 1)) - 1)), a37, (va_up (va_up r (2 * y.toNatClampNeg) (r (2 * y.toNatClampNeg))) (2 * y.toNatClampNeg + 1) ((r (2 * y.toNatClampNeg + 1)) - 1)), (va_up f y.toNatClampNeg F35), (va_up (va_up q 3 t11) 0 (((va_up q 3 t11) 0) + 1)), rfl, (ha38.trans rfl), (mok_repl (t := y.toNatClampNeg) (R := (r (2 * y.toNatClampNeg))) (C := ((r (2 * y.toNatClampNeg + 1)) - 1)) (F := F35) hm ⟨by omega, by omega, by omega, by omega⟩ hf36), rfl, rfl⟩ (Nat.le_of_ble_eq_true rfl) (Nat.le_of_ble_eq_true rfl) dX10_drop_128
      · replace c28 : nI ((r (2 * y.toNatClampNeg + 1)) - 1) = nI 0 := c28
        rw [neqP (by omega) (by omega)] at c28
        refine lv_aload_n hx hb dX10_drop_58 rfl (lv_at hl 2 rfl) ?_
        refine call_V (n := 0) (k0 := 0) (As := []) (rest := []) hX hB (k_X10_no κ l (mw κ a r f (va_up q 3 t11) (tb a) w) 0 (a 0) (a 1) ((va_up q 3 t11) 0) ((va_up q 3 t11) 1) ((va_up q 3 t11) 2) ((va_up q 3 t11) 3) (mw0x (a := a) (r := r) (f := f) (q := (va_up q 3 t11)) (T := tb a) (w := w) rfl)) ⟨rfl, by decide, by decide, by decide +kernel⟩ wm_6_85 wm_6_87 wp_36 wm_1_6 wm_6_88 ⟨Nat.le_of_ble_eq_true rfl, Nat.le_of_ble_eq_true rfl⟩ ⟨Nat.le_of_ble_eq_true rfl, Nat.le_of_ble_eq_true rfl⟩ (mw0x (a := a) (r := r) (f := f) (q := (va_up q 3 t11)) (T := tb a) (w := w) rfl) rfl rfl rfl hl.1 rfl (Nat.le_of_ble_eq_true rfl) dX10_drop_59 (fun o w' H locs hp hB => ?_)
        obtain ⟨rfl, hw9⟩ := hp
        replace hB : Bd κ A s (mw κ a r f (va_up (va_up q 3 t11) 1 (((va_up q 3 t11) 1) + 1)) (tb a) w) H locs := by exact Bd_eq (mwQ1x rfl _) (by rw [hw9] at hB; exact hB)
        refine W.eq (g2 := F0 m 62 ls [.int (-9)]) rfl ?_
        rw [← hQ]
        exact end_i hX hB hA3 rfl rfl ⟨(-9), a, r, f, (va_up (va_up q 3 t11) 1 (((va_up q 3 t11) 1) + 1)), rfl, rfl, hm, rfl, rfl⟩ (Nat.le_of_ble_eq_true rfl) (Nat.le_of_ble_eq_true rfl) dX10_drop_62
