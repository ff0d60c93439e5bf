theorem sm_01 {x : Int64} (h : x = 0 ∨ x = 1) : sm x := by rcases h with rfl | rfl <;> constructor <;> decide
theorem sm_i {v : Int32} (h1 : ¬ v < -20) (h2 : ¬ 20 < v) : sm v.toInt64 := by
  rw [i32_lt] at h1 h2
  rw [show (-20 : Int32).toInt = -20 from rfl] at h1
  rw [show (20 : Int32).toInt = 20 from rfl] at h2
  constructor
  · rw [Int64.le_iff_toInt_le, Int32.toInt_toInt64]
    show (-20 : Int) ≤ _
    omega
  · rw [Int64.le_iff_toInt_le, Int32.toInt_toInt64]
    show _ ≤ (20 : Int)
    omega
theorem sm_neg {x : Int64} (h : sm x) : sm (-x) := by
  have h1 := neg_int (sm_ng h)
  have h2 := Int64.le_iff_toInt_le.mp h.1
  have h3 := Int64.le_iff_toInt_le.mp h.2
  constructor
  · rw [Int64.le_iff_toInt_le, h1]
    rw [show (20 : Int64).toInt = 20 from rfl] at h3
    show (-20 : Int) ≤ _
    omega
  · rw [Int64.le_iff_toInt_le, h1]
    rw [show (-20 : Int64).toInt = -20 from rfl] at h2
    show _ ≤ (20 : Int)
    omega
theorem sm_xr {R C i j : Nat} {f : Nat → Int64} (hi : i < R) (hj : j < R) (h : ∀ k, k < R * 5 → sm (f k)) : ∀ k, k < R * 5 → sm (xr C i j f k) := by
  intro k hk
  unfold xr
  split
  · exact h _ (by omega)
  · split
    · exact h _ (by omega)
    · exact h k hk
theorem sm_xc {R i j : Nat} {f : Nat → Int64} (hi : i < 5) (hj : j < 5) (h : ∀ k, k < R * 5 → sm (f k)) : ∀ k, k < R * 5 → sm (xc R i j f k) := by
  intro k hk
  unfold xc
  split
  · exact h _ (by omega)
  · split
    · exact h _ (by omega)
    · exact h k hk
theorem sm_tr {R C i : Nat} {f : Nat → Int64} (h : ∀ k, k < R * 5 → sm (f k)) : ∀ k, k < R * 5 → sm (tr C i f k) := by
  intro k hk
  unfold tr
  split
  · exact sm_neg (h _ hk)
  · exact h k hk
theorem ne_nat {x y : Int32} (hx : 0 ≤ x) (hy : 0 ≤ y) (h : ¬ x = y) : x.toNatClampNeg ≠ y.toNatClampNeg := fun e => h (by rw [nI_rep hx, nI_rep hy, e])

noncomputable def D_X10_isLine (r : Nat → Nat) (f : Nat → Nat → Int64) (q : Nat → Int32) (y : Int32) (c0 : Int32) (z : Int32) : Int32 := (if c0 = 0 then bnd1 (D_X10_isRow r f q y z) (fun (x2 : Int32) => (if x2 = 0 then 0 else 1)) else bnd1 (D_X10_isColumn r f q y z) (fun (x6 : Int32) => (if x6 = 0 then 0 else 1)))
theorem D_X10_isLine_s {r : Nat → Nat} {f : Nat → Nat → Int64} {q : Nat → Int32} {y : Int32} {c0 : Int32} {z : Int32} : D_X10_isLine r f q y c0 z = (if c0 = 0 then bnd1 (D_X10_isRow r f q y z) (fun (x2 : Int32) => (if x2 = 0 then 0 else 1)) else bnd1 (D_X10_isColumn r f q y z) (fun (x6 : Int32) => (if x6 = 0 then 0 else 1))) := rfl
set_option maxHeartbeats 4000000 in
set_option maxRecDepth 100000 in
theorem k_X10_isLine (κ : Kt) (l : Launch) (w : va_W) (a r : Nat → Nat) (f : Nat → Nat → Int64) (q : Nat → Int32) (y : Int32) (c0 : Int32) (z : Int32) (hm : mok r f) (o_x : Int32) (hR : D_X10_isLine r f q y c0 z = o_x) : CM κ l yX10_isLine cX10_isLine 4 (some .boolean) 2 42 0 0 [.ref (a 0), .int y, .int c0, .int z] (mw κ a r f q (tb a) w) (fun o w' => o = some (.int o_x) ∧ (o_x = 0 ∨ o_x = 1 ∧ 0 ≤ y ∧ y.toNatClampNeg < 4 ∧ 0 ≤ z ∧ (c0 = 0 → z.toNatClampNeg < r (2 * y.toNatClampNeg)) ∧ (¬ c0 = 0 → z.toNatClampNeg < r (2 * y.toNatClampNeg + 1))) ∧ w' = mw κ a r f q (tb a) w) := by
  refine CM_begin (plainFor_of_name (by decide)) (Nat.le_of_ble_eq_true rfl) ?_
  intro p e s m args below meth c A Q hX hnm hA3 hQ hB ls hl
  have hx := hX.1.1
  have hb := hX.1.2.1
  have hl : lv_has ls 4 [(0, .ref (a 0)), (1, .int y), (2, .int c0), (3, .int z)] := hl
  replace hR := (D_X10_isLine_s).symm.trans hR
  refine lv_iload_n hx hb dX10_isLine_0 rfl (lv_at hl 2 rfl) ?_
  refine lv_if_eq (tgt := 13) hx hb dX10_isLine_1 (by decide) (fun c1 => ?_) (fun c1 => ?_)
  · replace hR := ifp c1 hR
    refine lv_aload_n hx hb dX10_isLine_13 rfl (lv_at hl 0 rfl) ?_
    refine lv_iload_n hx hb dX10_isLine_14 rfl (lv_at hl 1 rfl) ?_
    refine lv_iload_n hx hb dX10_isLine_15 rfl (lv_at hl 3 rfl) ?_
    obtain ⟨x2, hd3⟩ := ex1 (D_X10_isRow r f q y z)
    replace hR := bnd1_use hd3 hR
    refine call_V (n := 2) (k0 := 0) (As := [.int y, .int z]) (rest := []) hX hB (k_X10_isRow κ l w a r f q y z hm x2 hd3) ⟨rfl, by decide, by decide, by decide +kernel⟩ wm_5_229 wm_5_231 wp_31 wm_1_6 wm_5_232 ⟨Nat.le_of_ble_eq_true rfl, Nat.le_of_ble_eq_true rfl⟩ ⟨Nat.le_of_ble_eq_true rfl, Nat.le_of_ble_eq_true rfl⟩ (mw0x (a := a) (r := r) (f := f) (q := q) (T := tb a) (w := w) rfl) rfl rfl rfl hl.1 rfl (Nat.le_of_ble_eq_true rfl) dX10_isLine_16 (fun o w' H locs hp hB => ?_)
    obtain ⟨rfl, hf4, hw9⟩ := hp
    replace hB : Bd κ A s (mw κ a r f q (tb a) w) H locs := by rw [hw9] at hB; exact hB
    rcases hf4 with rfl | ⟨rfl, hz5a, hz5b, hz5c, hz5d⟩
    · replace hR := ifp rfl hR
      refine W.eq (g2 := F0 m 19 ls [.int 0]) rfl ?_
      rw [← hQ]
      exact end_i hX hB hA3 rfl rfl (by obtain rfl := hR; exact ⟨rfl, (Or.inl rfl), rfl⟩) (Nat.le_of_ble_eq_true rfl) (Nat.le_of_ble_eq_true rfl) dX10_isLine_19
    · replace hR := ifn (by decide) hR
      refine W.eq (g2 := F0 m 19 ls [.int 1]) rfl ?_
      rw [← hQ]
      exact end_i hX hB hA3 rfl rfl (by obtain rfl := hR; exact ⟨rfl, (Or.inr ⟨rfl, by assumption, by assumption, by assumption, (by first | exact fun _ => by assumption | exact fun h => absurd h (by assumption)), (by first | exact fun _ => by assumption | exact fun h => absurd (by assumption) h)⟩), rfl⟩) (Nat.le_of_ble_eq_true rfl) (Nat.le_of_ble_eq_true rfl) dX10_isLine_19
  · replace hR := ifn c1 hR
    refine lv_aload_n hx hb dX10_isLine_4 rfl (lv_at hl 0 rfl) ?_
    refine lv_iload_n hx hb dX10_isLine_5 rfl (lv_at hl 1 rfl) ?_
    refine lv_iload_n hx hb dX10_isLine_6 rfl (lv_at hl 3 rfl) ?_
    obtain ⟨x6, hd7⟩ := ex1 (D_X10_isColumn r f q y z)
    replace hR := bnd1_use hd7 hR
    refine call_V (n := 2) (k0 := 0) (As := [.int y, .int z]) (rest := []) hX hB (k_X10_isColumn κ l w a r f q y z hm x6 hd7) ⟨rfl, by decide, by decide, by decide +kernel⟩ wm_5_233 wm_5_235 wp_32 wm_1_6 wm_5_236 ⟨Nat.le_of_ble_eq_true rfl, Nat.le_of_ble_eq_true rfl⟩ ⟨Nat.le_of_ble_eq_true rfl, Nat.le_of_ble_eq_true rfl⟩ (mw0x (a := a) (r := r) (f := f) (q := q) (T := tb a) (w := w) rfl) rfl rfl rfl hl.1 rfl (Nat.le_of_ble_eq_true rfl) dX10_isLine_7 (fun o w' H locs hp hB => ?_)
    obtain ⟨rfl, hf8, hw9⟩ := hp
    replace hB : Bd κ A s (mw κ a r f q (tb a) w) H locs := by rw [hw9] at hB; exact hB
    rcases hf8 with rfl | ⟨rfl, hz9a, hz9b, hz9c, hz9d⟩
    · replace hR := ifp rfl hR
      refine W.eq (g2 := F0 m 10 ls [.int 0]) rfl ?_
      refine lv_goto (tgt := 19) hx hb dX10_isLine_10 (by decide) ?_
      rw [← hQ]
      exact end_i hX hB hA3 rfl rfl (by obtain rfl := hR; exact ⟨rfl, (Or.inl rfl), rfl⟩) (Nat.le_of_ble_eq_true rfl) (Nat.le_of_ble_eq_true rfl) dX10_isLine_19
    · replace hR := ifn (by decide) hR
      refine W.eq (g2 := F0 m 10 ls [.int 1]) rfl ?_
      refine lv_goto (tgt := 19) hx hb dX10_isLine_10 (by decide) ?_
      rw [← hQ]
      exact end_i hX hB hA3 rfl rfl (by obtain rfl := hR; exact ⟨rfl, (Or.inr ⟨rfl, by assumption, by assumption, by assumption, (by first | exact fun _ => by assumption | exact fun h => absurd h (by assumption)), (by first | exact fun _ => by assumption | exact fun h => absurd (by assumption) h)⟩), rfl⟩) (Nat.le_of_ble_eq_true rfl) (Nat.le_of_ble_eq_true rfl) dX10_isLine_19
noncomputable def D_X10_become (r : Nat → Nat) (f : Nat → Nat → Int64) (q : Nat → Int32) (y : Int32) (R_o : Nat) (C_o : Nat) (f_o : Nat → Int64) : Int32 × (Nat → Nat) × (Nat → Nat → Int64) × (Nat → Int32) := bnd1 (D_X7_isLet R_o C_o f_o) (fun (x1 : Int32) => (if x1 = 0 then (-9, r, f, va_up q 1 ((q 1) + 1)) else bnd1 (D_X7_others ((va_up (va_up r (2 * y.toNatClampNeg) R_o) (2 * y.toNatClampNeg + 1) C_o) (2 * y.toNatClampNeg)) ((va_up (va_up r (2 * y.toNatClampNeg) R_o) (2 * y.toNatClampNeg + 1) C_o) (2 * y.toNatClampNeg + 1)) ((va_up f y.toNatClampNeg f_o) y.toNatClampNeg)) (fun (x10 : Int32) => (x10, va_up (va_up r (2 * y.toNatClampNeg) R_o) (2 * y.toNatClampNeg + 1) C_o, va_up f y.toNatClampNeg f_o, va_up q 0 ((q 0) + 1)))))
theorem D_X10_become_s {r : Nat → Nat} {f : Nat → Nat → Int64} {q : Nat → Int32} {y : Int32} {R_o : Nat} {C_o : Nat} {f_o : Nat → Int64} : D_X10_become r f q y R_o C_o f_o = bnd1 (D_X7_isLet R_o C_o f_o) (fun (x1 : Int32) => (if x1 = 0 then (-9, r, f, va_up q 1 ((q 1) + 1)) else bnd1 (D_X7_others ((va_up (va_up r (2 * y.toNatClampNeg) R_o) (2 * y.toNatClampNeg + 1) C_o) (2 * y.toNatClampNeg)) ((va_up (va_up r (2 * y.toNatClampNeg) R_o) (2 * y.toNatClampNeg + 1) C_o) (2 * y.toNatClampNeg + 1)) ((va_up f y.toNatClampNeg f_o) y.toNatClampNeg)) (fun (x10 : Int32) => (x10, va_up (va_up r (2 * y.toNatClampNeg) R_o) (2 * y.toNatClampNeg + 1) C_o, va_up f y.toNatClampNeg f_o, va_up q 0 ((q 0) + 1))))) := rfl
set_option maxHeartbeats 4000000 in
set_option maxRecDepth 100000 in
theorem k_X10_become (κ : Kt) (l : Launch) (w : va_W) (a r : Nat → Nat) (f : Nat → Nat → Int64) (q : Nat → Int32) (y : Int32) (g_o b_o R_o C_o : Nat) (f_o : Nat → Int64) (hm : mok r f) (ho : 1 ≤ R_o ∧ R_o ≤ 4 ∧ 1 ≤ C_o ∧ C_o ≤ 4) (hy0 : 0 ≤ y) (hy4 : y.toNatClampNeg < 4) (o_x : Int32) (o_r' : Nat → Nat) (o_f' : Nat → Nat → Int64) (o_q' : Nat → Int32) (hR : D_X10_become r f q y R_o C_o f_o = (o_x, o_r', o_f', o_q')) : CM κ l yX10_become cX10_become 3 (some .int) 1 26 0 0 [.ref (a 0), .int y, .ref g_o] (lA κ b_o (R_o * 5) f_o :: gO g_o R_o C_o b_o :: mw κ a r f q (tb a) w) (fun o w' => ∃ (a' : Nat → Nat), o = some (.int o_x) ∧ (a' 0 = a 0) ∧ (mok o_r' o_f') ∧ (o_q' 2 = q 2) ∧ w' = mw κ a' o_r' o_f' o_q' (tb a') w) := by
  refine CM_begin (plainFor_of_name (by decide)) (Nat.le_of_ble_eq_true rfl) ?_
  intro p e s m args below meth c A Q hX hnm hA3 hQ hB ls hl
  have hx := hX.1.1
  have hb := hX.1.2.1
  have hl : lv_has ls 3 [(0, .ref (a 0)), (1, .int y), (2, .ref g_o)] := hl
  obtain ⟨ho1, ho2, ho3, ho4⟩ := ho
  replace hR := (D_X10_become_s).symm.trans hR
  refine lv_aload_n hx hb dX10_become_0 rfl (lv_at hl 2 rfl) ?_
  obtain ⟨x1, hd2⟩ := ex1 (D_X7_isLet R_o C_o f_o)
  replace hR := bnd1_use hd2 hR
  refine call_V (n := 0) (k0 := 1) (As := []) (rest := []) hX hB (k_X7_isLet κ l (lA κ b_o (R_o * 5) f_o :: gO g_o R_o C_o b_o :: mw κ a r f q (tb a) w) 1 0 g_o b_o R_o C_o f_o rfl rfl ⟨by omega, by omega, by omega, by omega⟩ x1 hd2) ⟨rfl, by decide, by decide, by decide +kernel⟩ wm_6_83 wm_6_84 wm_6_85 wm_1_7 wm_6_86 ⟨Nat.le_of_ble_eq_true rfl, Nat.le_of_ble_eq_true rfl⟩ ⟨Nat.le_of_ble_eq_true rfl, Nat.le_of_ble_eq_true rfl⟩ rfl rfl rfl rfl hl.1 rfl (Nat.le_of_ble_eq_true rfl) dX10_become_1 (fun o w' H locs hp hB => ?_)
  obtain ⟨rfl, hf3, hf4, hw9⟩ := hp
  replace hB : Bd κ A s (lA κ b_o (R_o * 5) f_o :: gO g_o R_o C_o b_o :: mw κ a r f q (tb a) w) H locs := by rw [hw9] at hB; exact hB
  rcases hf3 with rfl | rfl
  · replace hR := ifp rfl hR
    refine W.eq (g2 := F0 m 4 ls [.int 0]) rfl ?_
    refine lv_if_ne (tgt := 12) hx hb dX10_become_4 (by decide) (fun c5 => False.elim (by revert c5; decide)) (fun _ => ?_)
    refine lv_aload_n hx hb dX10_become_7 rfl (lv_at hl 0 rfl) ?_
    refine call_V (n := 0) (k0 := 2) (As := []) (rest := []) hX hB (k_X10_no κ l (lA κ b_o (R_o * 5) f_o :: gO g_o R_o C_o b_o :: mw κ a r f q (tb a) w) 2 (a 0) (a 1) (q 0) (q 1) (q 2) (q 3) (mw0x (a := a) (r := r) (f := f) (q := q) (T := tb a) (w := w) rfl)) ⟨rfl, by decide, by decide, by decide +kernel⟩ wm_6_89 wm_6_91 wp_36 wm_1_6 wm_6_92 ⟨Nat.le_of_ble_eq_true rfl, Nat.le_of_ble_eq_true rfl⟩ ⟨Nat.le_of_ble_eq_true rfl, Nat.le_of_ble_eq_true rfl⟩ (mw0x (a := a) (r := r) (f := f) (q := q) (T := tb a) (w := w) rfl) rfl rfl rfl hl.1 rfl (Nat.le_of_ble_eq_true rfl) dX10_become_8 (fun o w' H locs hp hB => ?_)
    obtain ⟨rfl, hw9⟩ := hp
    replace hB : Bd κ A s (lA κ b_o (R_o * 5) f_o :: gO g_o R_o C_o b_o :: mw κ a r f (va_up q 1 ((q 1) + 1)) (tb a) w) H locs := by exact Bd_eq (congrArg (List.cons _) (congrArg (List.cons _) (mwQ1x rfl _))) (by rw [hw9] at hB; exact hB)
    refine W.eq (g2 := F0 m 11 ls [.int (-9)]) rfl ?_
    replace hB : Bd κ A s (lA κ b_o (R_o * 5) f_o :: mw κ a r f (va_up q 1 ((q 1) + 1)) (tb a) w) H locs := Bd_del 1 hB
    replace hB : Bd κ A s (mw κ a r f (va_up q 1 ((q 1) + 1)) (tb a) w) H locs := Bd_del 0 hB
    rw [← hQ]
    exact end_i hX hB hA3 rfl rfl (by obtain ⟨rfl, rfl, rfl, rfl⟩ := pr4 hR; exact ⟨a, rfl, rfl, hm, rfl, rfl⟩) (Nat.le_of_ble_eq_true rfl) (Nat.le_of_ble_eq_true rfl) dX10_become_11
  · replace hR := ifn (by decide) hR
    refine W.eq (g2 := F0 m 4 ls [.int 1]) rfl ?_
    refine lv_if_ne (tgt := 12) hx hb dX10_become_4 (by decide) (fun _ => ?_) (fun c6 => False.elim (by revert c6; decide))
    refine lv_aload_n hx hb dX10_become_12 rfl (lv_at hl 0 rfl) ?_
    refine gf (k0 := 2) hX hB (mw0x (a := a) (r := r) (f := f) (q := q) (T := tb a) (w := w) rfl) rfl in10 0 (by decide) wm_5_162 rfl rfl dX10_become_13 ?_
    refine lv_iload_n hx hb dX10_become_16 rfl (lv_at hl 1 rfl) ?_
    refine lv_aload_n hx hb dX10_become_17 rfl (lv_at hl 2 rfl) ?_
    refine astM (f := tb a) (k0 := 3) (k1 := 1) hX hB (mw1 (a := a) (r := r) (f := f) (q := q) (T := tb a) (w := w)) rfl (vp_in_mk (by assumption) (by assumption)) (w1 := lA κ b_o (R_o * 5) f_o :: gO g_o R_o C_o b_o :: mw κ a r f q (va_up (tb a) y.toNatClampNeg (some g_o)) w) (congrArg (List.cons _) (congrArg (List.cons _) (mwST _))) dX10_become_18 (fun H locs hB => ?_)
    obtain ⟨a7, ha8, hg9, hB⟩ := Bd_repl2 (t := y.toNatClampNeg) (by omega) hB
    have hba7 := mok_r hm y.toNatClampNeg (by omega)
    refine lv_aload_n hx hb dX10_become_19 rfl (lv_at hl 0 rfl) ?_
    refine lv_aload_n hx hb dX10_become_20 rfl (lv_at hl 2 rfl) ?_
    obtain ⟨x10, hd11⟩ := ex1 (D_X7_others ((va_up (va_up r (2 * y.toNatClampNeg) R_o) (2 * y.toNatClampNeg + 1) C_o) (2 * y.toNatClampNeg)) ((va_up (va_up r (2 * y.toNatClampNeg) R_o) (2 * y.toNatClampNeg + 1) C_o) (2 * y.toNatClampNeg + 1)) ((va_up f y.toNatClampNeg f_o) y.toNatClampNeg))
    replace hR := bnd1_use hd11 hR
    refine call_V (n := 0) (k0 := (2 + 2 * y.toNatClampNeg)) (As := []) (rest := [.ref (a 0)]) hX hB (k_X7_others κ l (mw κ a7 (va_up (va_up r (2 * y.toNatClampNeg) R_o) (2 * y.toNatClampNeg + 1) C_o) (va_up f y.toNatClampNeg f_o) q (tb a7) w) (2 + 2 * y.toNatClampNeg) (3 + 2 * y.toNatClampNeg) g_o (a7 (3 + 2 * y.toNatClampNeg)) ((va_up (va_up r (2 * y.toNatClampNeg) R_o) (2 * y.toNatClampNeg + 1) C_o) (2 * y.toNatClampNeg)) ((va_up (va_up r (2 * y.toNatClampNeg) R_o) (2 * y.toNatClampNeg + 1) C_o) (2 * y.toNatClampNeg + 1)) ((va_up f y.toNatClampNeg f_o) y.toNatClampNeg) (mwGx (i := y.toNatClampNeg) (a := a7) (r := (va_up (va_up r (2 * y.toNatClampNeg) R_o) (2 * y.toNatClampNeg + 1) C_o)) (f := (va_up f y.toNatClampNeg f_o)) (q := q) (T := tb a7) (w := w) (by omega) hg9) (mwA (i := y.toNatClampNeg) (a := a7) (r := (va_up (va_up r (2 * y.toNatClampNeg) R_o) (2 * y.toNatClampNeg + 1) C_o)) (f := (va_up f y.toNatClampNeg f_o)) (q := q) (T := tb a7) (w := w) (by omega)) (mok_shp (i := y.toNatClampNeg) (mok_repl (t := y.toNatClampNeg) (R := R_o) (C := C_o) (F := f_o) hm ⟨by omega, by omega, by omega, by omega⟩ (hf4 rfl)) (by omega)) x10 hd11) ⟨rfl, by decide, by decide, by decide +kernel⟩ wm_5_204 wm_5_205 wm_5_206 wm_1_7 wm_5_207 ⟨Nat.le_of_ble_eq_true rfl, Nat.le_of_ble_eq_true rfl⟩ ⟨Nat.le_of_ble_eq_true rfl, Nat.le_of_ble_eq_true rfl⟩ (mwGx (i := y.toNatClampNeg) (a := a7) (r := (va_up (va_up r (2 * y.toNatClampNeg) R_o) (2 * y.toNatClampNeg + 1) C_o)) (f := (va_up f y.toNatClampNeg f_o)) (q := q) (T := tb a7) (w := w) (by omega) hg9) rfl rfl rfl hl.1 rfl (Nat.le_of_ble_eq_true rfl) dX10_become_21 (fun o w' H locs hp hB => ?_)
    obtain ⟨rfl, hw9⟩ := hp
    replace hB : Bd κ A s (mw κ a7 (va_up (va_up r (2 * y.toNatClampNeg) R_o) (2 * y.toNatClampNeg + 1) C_o) (va_up f y.toNatClampNeg f_o) q (tb a7) w) H locs := by rw [hw9] at hB; exact hB
    refine W.eq (g2 := F0 m 24 ls [.int x10, .ref (a 0)]) rfl ?_
    refine call_V (n := 1) (k0 := 0) (As := [.int x10]) (rest := []) hX hB (k_X10_told κ l (mw κ a7 (va_up (va_up r (2 * y.toNatClampNeg) R_o) (2 * y.toNatClampNeg + 1) C_o) (va_up f y.toNatClampNeg f_o) q (tb a7) w) 0 (a 0) (a7 1) (q 0) (q 1) (q 2) (q 3) x10 (mw0x (a := a7) (r := (va_up (va_up r (2 * y.toNatClampNeg) R_o) (2 * y.toNatClampNeg + 1) C_o)) (f := (va_up f y.toNatClampNeg f_o)) (q := q) (T := tb a7) (w := w) (ha8.trans rfl))) ⟨rfl, by decide, by decide, by decide +kernel⟩ wm_5_208 wm_5_210 wp_30 wm_1_6 wm_5_211 ⟨Nat.le_of_ble_eq_true rfl, Nat.le_of_ble_eq_true rfl⟩ ⟨Nat.le_of_ble_eq_true rfl, Nat.le_of_ble_eq_true rfl⟩ (mw0x (a := a7) (r := (va_up (va_up r (2 * y.toNatClampNeg) R_o) (2 * y.toNatClampNeg + 1) C_o)) (f := (va_up f y.toNatClampNeg f_o)) (q := q) (T := tb a7) (w := w) (ha8.trans rfl)) rfl rfl rfl hl.1 rfl (Nat.le_of_ble_eq_true rfl) dX10_become_24 (fun o w' H locs hp hB => ?_)
    obtain ⟨rfl, hw9⟩ := hp
    replace hB : Bd κ A s (mw κ a7 (va_up (va_up r (2 * y.toNatClampNeg) R_o) (2 * y.toNatClampNeg + 1) C_o) (va_up f y.toNatClampNeg f_o) (va_up q 0 ((q 0) + 1)) (tb a7) w) H locs := by exact Bd_eq (mwQ0x (ha8.trans rfl) _) (by rw [hw9] at hB; exact hB)
    refine W.eq (g2 := F0 m 27 ls [.int x10]) rfl ?_
    rw [← hQ]
    exact end_i hX hB hA3 rfl rfl (by obtain ⟨rfl, rfl, rfl, rfl⟩ := pr4 hR; exact ⟨a7, rfl, (ha8.trans rfl), (mok_repl (t := y.toNatClampNeg) (R := R_o) (C := C_o) (F := f_o) hm ⟨by omega, by omega, by omega, by omega⟩ (hf4 rfl)), rfl, rfl⟩) (Nat.le_of_ble_eq_true rfl) (Nat.le_of_ble_eq_true rfl) dX10_become_27
noncomputable def D_X10_lay (r : Nat → Nat) (f : Nat → Nat → Int64) (q : Nat → Int32) (y : Int32) (R_o : Nat) (C_o : Nat) (f_o : Nat → Int64) : Int32 × (Nat → Nat) × (Nat → Nat → Int64) × (Nat → Int32) := bnd1 (D_X7_others (r (2 * y.toNatClampNeg)) (r (2 * y.toNatClampNeg + 1)) (f y.toNatClampNeg)) (fun (x2 : Int32) => (x2, va_up (va_up r (2 * y.toNatClampNeg) R_o) (2 * y.toNatClampNeg + 1) C_o, va_up f y.toNatClampNeg f_o, va_up q 0 ((q 0) + 1)))
theorem D_X10_lay_s {r : Nat → Nat} {f : Nat → Nat → Int64} {q : Nat → Int32} {y : Int32} {R_o : Nat} {C_o : Nat} {f_o : Nat → Int64} : D_X10_lay r f q y R_o C_o f_o = bnd1 (D_X7_others (r (2 * y.toNatClampNeg)) (r (2 * y.toNatClampNeg + 1)) (f y.toNatClampNeg)) (fun (x2 : Int32) => (x2, va_up (va_up r (2 * y.toNatClampNeg) R_o) (2 * y.toNatClampNeg + 1) C_o, va_up f y.toNatClampNeg f_o, va_up q 0 ((q 0) + 1))) := rfl
set_option maxHeartbeats 4000000 in
set_option maxRecDepth 100000 in
theorem k_X10_lay (κ : Kt) (l : Launch) (w : va_W) (a r : Nat → Nat) (f : Nat → Nat → Int64) (q : Nat → Int32) (y : Int32) (g_o b_o R_o C_o : Nat) (f_o : Nat → Int64) (hm : mok r f) (ho : 1 ≤ R_o ∧ R_o ≤ 4 ∧ 1 ≤ C_o ∧ C_o ≤ 4) (hy0 : 0 ≤ y) (hy4 : y.toNatClampNeg < 4) (hso : ∀ k, k < R_o * 5 → sm (f_o k)) (o_x : Int32) (o_r' : Nat → Nat) (o_f' : Nat → Nat → Int64) (o_q' : Nat → Int32) (hR : D_X10_lay r f q y R_o C_o f_o = (o_x, o_r', o_f', o_q')) : CM κ l yX10_lay cX10_lay 4 (some .int) 1 26 0 0 [.ref (a 0), .int y, .ref g_o] (lA κ b_o (R_o * 5) f_o :: gO g_o R_o C_o b_o :: mw κ a r f q (tb a) w) (fun o w' => ∃ (a' : Nat → Nat), o = some (.int o_x) ∧ (a' 0 = a 0) ∧ (mok o_r' o_f') ∧ (o_q' 2 = q 2) ∧ w' = mw κ a' o_r' o_f' o_q' (tb a') w) := by
  refine CM_begin (plainFor_of_name (by decide)) (Nat.le_of_ble_eq_true rfl) ?_
  intro p e s m args below meth c A Q hX hnm hA3 hQ hB ls hl
  have hx := hX.1.1
  have hb := hX.1.2.1
  have hl : lv_has ls 4 [(0, .ref (a 0)), (1, .int y), (2, .ref g_o)] := hl
  obtain ⟨ho1, ho2, ho3, ho4⟩ := ho
  replace hR := (D_X10_lay_s).symm.trans hR
  refine lv_aload_n hx hb dX10_lay_0 rfl (lv_at hl 0 rfl) ?_
  refine gf (k0 := 2) hX hB (mw0x (a := a) (r := r) (f := f) (q := q) (T := tb a) (w := w) rfl) rfl in10 0 (by decide) wm_5_162 rfl rfl dX10_lay_1 ?_
  refine lv_iload_n hx hb dX10_lay_4 rfl (lv_at hl 1 rfl) ?_
  refine aaldM (k0 := 3) hX hB (mw1 (a := a) (r := r) (f := f) (q := q) (T := tb a) (w := w)) (vp_in_mk (by assumption) (by assumption)) rfl dX10_lay_5 ?_
  have hb1 := mok_r hm y.toNatClampNeg (by omega)
  obtain ⟨x2, hd3⟩ := ex1 (D_X7_others (r (2 * y.toNatClampNeg)) (r (2 * y.toNatClampNeg + 1)) (f y.toNatClampNeg))
  replace hR := bnd1_use hd3 hR
  refine call_V (n := 0) (k0 := (2 + 2 * y.toNatClampNeg + 2)) (As := []) (rest := []) hX hB (k_X7_others κ l (lA κ b_o (R_o * 5) f_o :: gO g_o R_o C_o b_o :: mw κ a r f q (tb a) w) (2 + 2 * y.toNatClampNeg + 2) (3 + 2 * y.toNatClampNeg + 2) (a (2 + 2 * y.toNatClampNeg)) (a (3 + 2 * y.toNatClampNeg)) (r (2 * y.toNatClampNeg)) (r (2 * y.toNatClampNeg + 1)) (f y.toNatClampNeg) (mwG (i := y.toNatClampNeg) (a := a) (r := r) (f := f) (q := q) (T := tb a) (w := w) (by omega)) (mwA (i := y.toNatClampNeg) (a := a) (r := r) (f := f) (q := q) (T := tb a) (w := w) (by omega)) (mok_shp (i := y.toNatClampNeg) hm (by omega)) x2 hd3) ⟨rfl, by decide, by decide, by decide +kernel⟩ wm_5_204 wm_5_205 wm_5_206 wm_1_7 wm_5_207 ⟨Nat.le_of_ble_eq_true rfl, Nat.le_of_ble_eq_true rfl⟩ ⟨Nat.le_of_ble_eq_true rfl, Nat.le_of_ble_eq_true rfl⟩ (mwG (i := y.toNatClampNeg) (a := a) (r := r) (f := f) (q := q) (T := tb a) (w := w) (by omega)) rfl rfl rfl hl.1 rfl (Nat.le_of_ble_eq_true rfl) dX10_lay_6 (fun o w' H locs hp hB => ?_)
  obtain ⟨rfl, hw9⟩ := hp
  replace hB : Bd κ A s (lA κ b_o (R_o * 5) f_o :: gO g_o R_o C_o b_o :: mw κ a r f q (tb a) w) H locs := by rw [hw9] at hB; exact hB
  refine W.eq (g2 := F0 m 9 ls [.int x2]) rfl ?_
  refine lv_istore_n (lv' := [(3, .int x2), (0, .ref (a 0)), (1, .int y), (2, .ref g_o)]) hx hb dX10_lay_9 rfl hl (by decide) rfl (fun ls hl => ?_)
  refine lv_aload_n hx hb dX10_lay_10 rfl (lv_at hl 1 rfl) ?_
  refine gf (k0 := 2) hX hB (mw0x (a := a) (r := r) (f := f) (q := q) (T := tb a) (w := w) rfl) rfl in10 0 (by decide) wm_5_162 rfl rfl dX10_lay_11 ?_
  refine lv_iload_n hx hb dX10_lay_14 rfl (lv_at hl 2 rfl) ?_
  refine lv_aload_n hx hb dX10_lay_15 rfl (lv_at hl 3 rfl) ?_
  refine astM (f := tb a) (k0 := 3) (k1 := 1) hX hB (mw1 (a := a) (r := r) (f := f) (q := q) (T := tb a) (w := w)) rfl (vp_in_mk (by assumption) (by assumption)) (w1 := lA κ b_o (R_o * 5) f_o :: gO g_o R_o C_o b_o :: mw κ a r f q (va_up (tb a) y.toNatClampNeg (some g_o)) w) (congrArg (List.cons _) (congrArg (List.cons _) (mwST _))) dX10_lay_16 (fun H locs hB => ?_)
  obtain ⟨a4, ha5, hg6, hB⟩ := Bd_repl2 (t := y.toNatClampNeg) (by omega) hB
  have hba4 := mok_r hm y.toNatClampNeg (by omega)
  refine lv_aload_n hx hb dX10_lay_17 rfl (lv_at hl 1 rfl) ?_
  refine lv_iload_n hx hb dX10_lay_18 rfl (lv_at hl 0 rfl) ?_
  refine call_V (n := 1) (k0 := 0) (As := [.int x2]) (rest := []) hX hB (k_X10_told κ l (mw κ a4 (va_up (va_up r (2 * y.toNatClampNeg) R_o) (2 * y.toNatClampNeg + 1) C_o) (va_up f y.toNatClampNeg f_o) q (tb a4) w) 0 (a 0) (a4 1) (q 0) (q 1) (q 2) (q 3) x2 (mw0x (a := a4) (r := (va_up (va_up r (2 * y.toNatClampNeg) R_o) (2 * y.toNatClampNeg + 1) C_o)) (f := (va_up f y.toNatClampNeg f_o)) (q := q) (T := tb a4) (w := w) (ha5.trans rfl))) ⟨rfl, by decide, by decide, by decide +kernel⟩ wm_5_208 wm_5_210 wp_30 wm_1_6 wm_5_211 ⟨Nat.le_of_ble_eq_true rfl, Nat.le_of_ble_eq_true rfl⟩ ⟨Nat.le_of_ble_eq_true rfl, Nat.le_of_ble_eq_true rfl⟩ (mw0x (a := a4) (r := (va_up (va_up r (2 * y.toNatClampNeg) R_o) (2 * y.toNatClampNeg + 1) C_o)) (f := (va_up f y.toNatClampNeg f_o)) (q := q) (T := tb a4) (w := w) (ha5.trans rfl)) rfl rfl rfl hl.1 rfl (Nat.le_of_ble_eq_true rfl) dX10_lay_19 (fun o w' H locs hp hB => ?_)
  obtain ⟨rfl, hw9⟩ := hp
  replace hB : Bd κ A s (mw κ a4 (va_up (va_up r (2 * y.toNatClampNeg) R_o) (2 * y.toNatClampNeg + 1) C_o) (va_up f y.toNatClampNeg f_o) (va_up q 0 ((q 0) + 1)) (tb a4) w) H locs := by exact Bd_eq (mwQ0x (ha5.trans rfl) _) (by rw [hw9] at hB; exact hB)
  refine W.eq (g2 := F0 m 22 ls [.int x2]) rfl ?_
  rw [← hQ]
  exact end_i hX hB hA3 rfl rfl (by obtain ⟨rfl, rfl, rfl, rfl⟩ := pr4 hR; exact ⟨a4, rfl, (ha5.trans rfl), (mok_repl (t := y.toNatClampNeg) (R := R_o) (C := C_o) (F := f_o) hm ⟨by omega, by omega, by omega, by omega⟩ hso), rfl, rfl⟩) (Nat.le_of_ble_eq_true rfl) (Nat.le_of_ble_eq_true rfl) dX10_lay_22
noncomputable def D_X10_changed (r : Nat → Nat) (f : Nat → Nat → Int64) (q : Nat → Int32) (y : Int32) (R_o : Nat) (C_o : Nat) (f_o : Nat → Int64) : Int32 × (Nat → Nat) × (Nat → Nat → Int64) × (Nat → Int32) := bnd1 (D_X7_unlike R_o C_o f_o (r (2 * y.toNatClampNeg)) (r (2 * y.toNatClampNeg + 1)) (f y.toNatClampNeg)) (fun (x2 : Int32) => (x2, va_up (va_up r (2 * y.toNatClampNeg) R_o) (2 * y.toNatClampNeg + 1) C_o, va_up f y.toNatClampNeg f_o, va_up q 0 ((q 0) + 1)))
theorem D_X10_changed_s {r : Nat → Nat} {f : Nat → Nat → Int64} {q : Nat → Int32} {y : Int32} {R_o : Nat} {C_o : Nat} {f_o : Nat → Int64} : D_X10_changed r f q y R_o C_o f_o = bnd1 (D_X7_unlike R_o C_o f_o (r (2 * y.toNatClampNeg)) (r (2 * y.toNatClampNeg + 1)) (f y.toNatClampNeg)) (fun (x2 : Int32) => (x2, va_up (va_up r (2 * y.toNatClampNeg) R_o) (2 * y.toNatClampNeg + 1) C_o, va_up f y.toNatClampNeg f_o, va_up q 0 ((q 0) + 1))) := rfl
set_option maxHeartbeats 4000000 in
set_option maxRecDepth 100000 in
theorem k_X10_changed (κ : Kt) (l : Launch) (w : va_W) (a r : Nat → Nat) (f : Nat → Nat → Int64) (q : Nat → Int32) (y : Int32) (g_o b_o R_o C_o : Nat) (f_o : Nat → Int64) (hm : mok r f) (ho : 1 ≤ R_o ∧ R_o ≤ 4 ∧ 1 ≤ C_o ∧ C_o ≤ 4) (hy0 : 0 ≤ y) (hy4 : y.toNatClampNeg < 4) (hrr : R_o = r (2 * y.toNatClampNeg)) (hso : ∀ k, k < R_o * 5 → sm (f_o k)) (o_x : Int32) (o_r' : Nat → Nat) (o_f' : Nat → Nat → Int64) (o_q' : Nat → Int32) (hR : D_X10_changed r f q y R_o C_o f_o = (o_x, o_r', o_f', o_q')) : CM κ l yX10_changed cX10_changed 4 (some .int) 1 23 0 0 [.ref (a 0), .int y, .ref g_o] (lA κ b_o (R_o * 5) f_o :: gO g_o R_o C_o b_o :: mw κ a r f q (tb a) w) (fun o w' => ∃ (a' : Nat → Nat), o = some (.int o_x) ∧ (a' 0 = a 0) ∧ (mok o_r' o_f') ∧ (o_q' 2 = q 2) ∧ w' = mw κ a' o_r' o_f' o_q' (tb a') w) := by
  refine CM_begin (plainFor_of_name (by decide)) (Nat.le_of_ble_eq_true rfl) ?_
  intro p e s m args below meth c A Q hX hnm hA3 hQ hB ls hl
  have hx := hX.1.1
  have hb := hX.1.2.1
  have hl : lv_has ls 4 [(0, .ref (a 0)), (1, .int y), (2, .ref g_o)] := hl
  obtain ⟨ho1, ho2, ho3, ho4⟩ := ho
  replace hR := (D_X10_changed_s).symm.trans hR
  refine lv_aload_n hx hb dX10_changed_0 rfl (lv_at hl 2 rfl) ?_
  refine lv_aload_n hx hb dX10_changed_1 rfl (lv_at hl 0 rfl) ?_
  refine gf (k0 := 2) hX hB (mw0x (a := a) (r := r) (f := f) (q := q) (T := tb a) (w := w) rfl) rfl in10 0 (by decide) wm_5_162 rfl rfl dX10_changed_2 ?_
  refine lv_iload_n hx hb dX10_changed_5 rfl (lv_at hl 1 rfl) ?_
  refine aaldM (k0 := 3) hX hB (mw1 (a := a) (r := r) (f := f) (q := q) (T := tb a) (w := w)) (vp_in_mk (by assumption) (by assumption)) rfl dX10_changed_6 ?_
  have hb1 := mok_r hm y.toNatClampNeg (by omega)
  obtain ⟨x2, hd3⟩ := ex1 (D_X7_unlike R_o C_o f_o (r (2 * y.toNatClampNeg)) (r (2 * y.toNatClampNeg + 1)) (f y.toNatClampNeg))
  replace hR := bnd1_use hd3 hR
  refine call_V (n := 1) (k0 := 1) (As := [.ref (a (2 + 2 * y.toNatClampNeg))]) (rest := []) hX hB (k_X7_unlike κ l (lA κ b_o (R_o * 5) f_o :: gO g_o R_o C_o b_o :: mw κ a r f q (tb a) w) 1 0 g_o b_o R_o C_o f_o (2 + 2 * y.toNatClampNeg + 2) (3 + 2 * y.toNatClampNeg + 2) (a (2 + 2 * y.toNatClampNeg)) (a (3 + 2 * y.toNatClampNeg)) (r (2 * y.toNatClampNeg)) (r (2 * y.toNatClampNeg + 1)) (f y.toNatClampNeg) rfl rfl ⟨by omega, by omega, by omega, by omega⟩ (mwG (i := y.toNatClampNeg) (a := a) (r := r) (f := f) (q := q) (T := tb a) (w := w) (by omega)) (mwA (i := y.toNatClampNeg) (a := a) (r := r) (f := f) (q := q) (T := tb a) (w := w) (by omega)) (mok_shp (i := y.toNatClampNeg) hm (by omega)) (by omega) x2 hd3) ⟨rfl, by decide, by decide, by decide +kernel⟩ wm_6_59 wm_6_60 wm_6_61 wm_1_7 wm_6_62 ⟨Nat.le_of_ble_eq_true rfl, Nat.le_of_ble_eq_true rfl⟩ ⟨Nat.le_of_ble_eq_true rfl, Nat.le_of_ble_eq_true rfl⟩ rfl rfl rfl rfl hl.1 rfl (Nat.le_of_ble_eq_true rfl) dX10_changed_7 (fun o w' H locs hp hB => ?_)
  obtain ⟨rfl, hw9⟩ := hp
  replace hB : Bd κ A s (lA κ b_o (R_o * 5) f_o :: gO g_o R_o C_o b_o :: mw κ a r f q (tb a) w) H locs := by rw [hw9] at hB; exact hB
  refine W.eq (g2 := F0 m 10 ls [.int x2]) rfl ?_
  refine lv_istore_n (lv' := [(3, .int x2), (0, .ref (a 0)), (1, .int y), (2, .ref g_o)]) hx hb dX10_changed_10 rfl hl (by decide) rfl (fun ls hl => ?_)
  refine lv_aload_n hx hb dX10_changed_11 rfl (lv_at hl 1 rfl) ?_
  refine gf (k0 := 2) hX hB (mw0x (a := a) (r := r) (f := f) (q := q) (T := tb a) (w := w) rfl) rfl in10 0 (by decide) wm_5_162 rfl rfl dX10_changed_12 ?_
  refine lv_iload_n hx hb dX10_changed_15 rfl (lv_at hl 2 rfl) ?_
  refine lv_aload_n hx hb dX10_changed_16 rfl (lv_at hl 3 rfl) ?_
  refine astM (f := tb a) (k0 := 3) (k1 := 1) hX hB (mw1 (a := a) (r := r) (f := f) (q := q) (T := tb a) (w := w)) rfl (vp_in_mk (by assumption) (by assumption)) (w1 := lA κ b_o (R_o * 5) f_o :: gO g_o R_o C_o b_o :: mw κ a r f q (va_up (tb a) y.toNatClampNeg (some g_o)) w) (congrArg (List.cons _) (congrArg (List.cons _) (mwST _))) dX10_changed_17 (fun H locs hB => ?_)
  obtain ⟨a4, ha5, hg6, hB⟩ := Bd_repl2 (t := y.toNatClampNeg) (by omega) hB
  have hba4 := mok_r hm y.toNatClampNeg (by omega)
  refine lv_aload_n hx hb dX10_changed_18 rfl (lv_at hl 1 rfl) ?_
  refine lv_iload_n hx hb dX10_changed_19 rfl (lv_at hl 0 rfl) ?_
  refine call_V (n := 1) (k0 := 0) (As := [.int x2]) (rest := []) hX hB (k_X10_told κ l (mw κ a4 (va_up (va_up r (2 * y.toNatClampNeg) R_o) (2 * y.toNatClampNeg + 1) C_o) (va_up f y.toNatClampNeg f_o) q (tb a4) w) 0 (a 0) (a4 1) (q 0) (q 1) (q 2) (q 3) x2 (mw0x (a := a4) (r := (va_up (va_up r (2 * y.toNatClampNeg) R_o) (2 * y.toNatClampNeg + 1) C_o)) (f := (va_up f y.toNatClampNeg f_o)) (q := q) (T := tb a4) (w := w) (ha5.trans rfl))) ⟨rfl, by decide, by decide, by decide +kernel⟩ wm_5_208 wm_5_210 wp_30 wm_1_6 wm_5_211 ⟨Nat.le_of_ble_eq_true rfl, Nat.le_of_ble_eq_true rfl⟩ ⟨Nat.le_of_ble_eq_true rfl, Nat.le_of_ble_eq_true rfl⟩ (mw0x (a := a4) (r := (va_up (va_up r (2 * y.toNatClampNeg) R_o) (2 * y.toNatClampNeg + 1) C_o)) (f := (va_up f y.toNatClampNeg f_o)) (q := q) (T := tb a4) (w := w) (ha5.trans rfl)) rfl rfl rfl hl.1 rfl (Nat.le_of_ble_eq_true rfl) dX10_changed_20 (fun o w' H locs hp hB => ?_)
  obtain ⟨rfl, hw9⟩ := hp
  replace hB : Bd κ A s (mw κ a4 (va_up (va_up r (2 * y.toNatClampNeg) R_o) (2 * y.toNatClampNeg + 1) C_o) (va_up f y.toNatClampNeg f_o) (va_up q 0 ((q 0) + 1)) (tb a4) w) H locs := by exact Bd_eq (mwQ0x (ha5.trans rfl) _) (by rw [hw9] at hB; exact hB)
  refine W.eq (g2 := F0 m 23 ls [.int x2]) rfl ?_
  rw [← hQ]
  exact end_i hX hB hA3 rfl rfl (by obtain ⟨rfl, rfl, rfl, rfl⟩ := pr4 hR; exact ⟨a4, rfl, (ha5.trans rfl), (mok_repl (t := y.toNatClampNeg) (R := R_o) (C := C_o) (F := f_o) hm ⟨by omega, by omega, by omega, by omega⟩ hso), rfl, rfl⟩) (Nat.le_of_ble_eq_true rfl) (Nat.le_of_ble_eq_true rfl) dX10_changed_23
noncomputable def D_X10_make (r : Nat → Nat) (f : Nat → Nat → Int64) (q : Nat → Int32) (y : Int32) (z : Int32) (u : Int32) : Int32 × (Nat → Nat) × (Nat → Nat → Int64) × (Nat → Int32) := bnd1 (D_X10_isTable y) (fun (z1 : Int32) => (if z1 = 0 then bnd1 (D_X10_isShort z) (fun (z6 : Int32) => (if z6 = 0 then bnd2 (D_X10_isThrown_ (q 0) (q 1) (q 2) (q 3) 1 1) (fun (x11 : Int32) (t12 : Int32) => (0, r, f, va_up q 3 t12)) else bnd1 (D_X10_isShort u) (fun (z17 : Int32) => (if z17 = 0 then bnd2 (D_X10_isThrown_ (q 0) (q 1) (q 2) (q 3) 1 1) (fun (x22 : Int32) (t23 : Int32) => (0, r, f, va_up q 3 t23)) else bnd2 (D_X10_isThrown_ (q 0) (q 1) (q 2) (q 3) 1 0) (fun (x28 : Int32) (t29 : Int32) => (0, r, f, va_up q 3 t29)))))) else bnd1 (D_X10_isShort z) (fun (z34 : Int32) => (if z34 = 0 then bnd2 (D_X10_isThrown_ (q 0) (q 1) (q 2) (q 3) 0 1) (fun (x39 : Int32) (t40 : Int32) => (0, r, f, va_up q 3 t40)) else bnd1 (D_X10_isShort u) (fun (z45 : Int32) => (if z45 = 0 then bnd2 (D_X10_isThrown_ (q 0) (q 1) (q 2) (q 3) 0 1) (fun (x50 : Int32) (t51 : Int32) => (0, r, f, va_up q 3 t51)) else bnd2 (D_X10_isThrown_ (q 0) (q 1) (q 2) (q 3) 0 0) (fun (x56 : Int32) (t57 : Int32) => bnd4 (D_X10_lay r f (va_up q 3 t57) y ((z).toNatClampNeg) ((u).toNatClampNeg) (fun _ => 0)) (fun (x63 : Int32) (rn65 : Nat → Nat) (fn66 : Nat → Nat → Int64) (qn67 : Nat → Int32) => (x63, rn65, fn66, qn67)))))))))
theorem D_X10_make_s {r : Nat → Nat} {f : Nat → Nat → Int64} {q : Nat → Int32} {y : Int32} {z : Int32} {u : Int32} : D_X10_make r f q y z u = bnd1 (D_X10_isTable y) (fun (z1 : Int32) => (if z1 = 0 then bnd1 (D_X10_isShort z) (fun (z6 : Int32) => (if z6 = 0 then bnd2 (D_X10_isThrown_ (q 0) (q 1) (q 2) (q 3) 1 1) (fun (x11 : Int32) (t12 : Int32) => (0, r, f, va_up q 3 t12)) else bnd1 (D_X10_isShort u) (fun (z17 : Int32) => (if z17 = 0 then bnd2 (D_X10_isThrown_ (q 0) (q 1) (q 2) (q 3) 1 1) (fun (x22 : Int32) (t23 : Int32) => (0, r, f, va_up q 3 t23)) else bnd2 (D_X10_isThrown_ (q 0) (q 1) (q 2) (q 3) 1 0) (fun (x28 : Int32) (t29 : Int32) => (0, r, f, va_up q 3 t29)))))) else bnd1 (D_X10_isShort z) (fun (z34 : Int32) => (if z34 = 0 then bnd2 (D_X10_isThrown_ (q 0) (q 1) (q 2) (q 3) 0 1) (fun (x39 : Int32) (t40 : Int32) => (0, r, f, va_up q 3 t40)) else bnd1 (D_X10_isShort u) (fun (z45 : Int32) => (if z45 = 0 then bnd2 (D_X10_isThrown_ (q 0) (q 1) (q 2) (q 3) 0 1) (fun (x50 : Int32) (t51 : Int32) => (0, r, f, va_up q 3 t51)) else bnd2 (D_X10_isThrown_ (q 0) (q 1) (q 2) (q 3) 0 0) (fun (x56 : Int32) (t57 : Int32) => bnd4 (D_X10_lay r f (va_up q 3 t57) y ((z).toNatClampNeg) ((u).toNatClampNeg) (fun _ => 0)) (fun (x63 : Int32) (rn65 : Nat → Nat) (fn66 : Nat → Nat → Int64) (qn67 : Nat → Int32) => (x63, rn65, fn66, qn67))))))))) := rfl
set_option maxHeartbeats 4000000 in
set_option maxRecDepth 100000 in
theorem k_X10_make (κ : Kt) (l : Launch) (w : va_W) (a r : Nat → Nat) (f : Nat → Nat → Int64) (q : Nat → Int32) (y : Int32) (z : Int32) (u : Int32) (hm : mok r f) (o_x : Int32) (o_r' : Nat → Nat) (o_f' : Nat → Nat → Int64) (o_q' : Nat → Int32) (hR : D_X10_make r f q y z u = (o_x, o_r', o_f', o_q')) : CM κ l yX10_make cX10_make 4 (some .int) 2 49 2 23 [.ref (a 0), .int y, .int z, .int u] (mw κ a r f q (tb a) w) (fun o w' => ∃ (a' : Nat → Nat), o = some (.int o_x) ∧ (a' 0 = a 0) ∧ (mok o_r' o_f') ∧ (o_q' 2 = q 2) ∧ w' = mw κ a' o_r' o_f' o_q' (tb a') w) := by
  refine CM_begin (plainFor_of_name (by decide)) (Nat.le_of_ble_eq_true rfl) ?_
  intro p e s m args below meth c A Q hX hnm hA3 hQ hB ls hl
  have hx := hX.1.1
  have hb := hX.1.2.1
  have hl : lv_has ls 4 [(0, .ref (a 0)), (1, .int y), (2, .int z), (3, .int u)] := hl
  replace hR := (D_X10_make_s).symm.trans hR
  refine lv_aload_n hx hb dX10_make_0 rfl (lv_at hl 0 rfl) ?_
  refine lv_iload_n hx hb dX10_make_1 rfl (lv_at hl 1 rfl) ?_
  obtain ⟨z1, hd2⟩ := ex1 (D_X10_isTable y)
  replace hR := bnd1_use hd2 hR
  refine call_S (n := 1) (As := [.int y]) (rest := [.ref (a 0)]) hX hB (k_X10_isTable κ l (mw κ a r f q (tb a) w) y z1 hd2) ⟨by decide, by decide, by decide +kernel⟩ wm_5_186 wm_5_187 wm_1_6 wm_5_188 ⟨Nat.le_of_ble_eq_true rfl, Nat.le_of_ble_eq_true rfl⟩ ⟨Nat.le_of_ble_eq_true rfl, Nat.le_of_ble_eq_true rfl⟩ rfl hl.1 rfl (Nat.le_of_ble_eq_true rfl) dX10_make_2 (fun o w' H locs hp hB => ?_)
  obtain ⟨rfl, hf3, hw9⟩ := hp
  replace hB : Bd κ A s (mw κ a r f q (tb a) w) H locs := by rw [hw9] at hB; exact hB
  rcases hf3 with rfl | ⟨rfl, hz4a, hz4b⟩
  · replace hR := ifp rfl hR
    refine W.eq (g2 := F0 m 5 ls [.int 0, .ref (a 0)]) rfl ?_
    refine lv_if_ne (tgt := 12) hx hb dX10_make_5 (by decide) (fun c5 => False.elim (by revert c5; decide)) (fun _ => ?_)
    refine lv_iconst (v := 1) hx hb dX10_make_8 (by decide) ?_
    refine lv_goto (tgt := 13) hx hb dX10_make_9 (by decide) ?_
    refine lv_iload_n hx hb dX10_make_13 rfl (lv_at hl 2 rfl) ?_
    obtain ⟨z6, hd7⟩ := ex1 (D_X10_isShort z)
    replace hR := bnd1_use hd7 hR
    refine call_S (n := 1) (As := [.int z]) (rest := [.int 1, .ref (a 0)]) hX hB (k_X10_isShort κ l (mw κ a r f q (tb a) w) z z6 hd7) ⟨by decide, by decide, by decide +kernel⟩ wm_5_189 wm_5_190 wm_1_6 wm_5_191 ⟨Nat.le_of_ble_eq_true rfl, Nat.le_of_ble_eq_true rfl⟩ ⟨Nat.le_of_ble_eq_true rfl, Nat.le_of_ble_eq_true rfl⟩ rfl hl.1 rfl (Nat.le_of_ble_eq_true rfl) dX10_make_14 (fun o w' H locs hp hB => ?_)
    obtain ⟨rfl, hf8, hw9⟩ := hp
    replace hB : Bd κ A s (mw κ a r f q (tb a) w) H locs := by rw [hw9] at hB; exact hB
    rcases hf8 with rfl | ⟨rfl, hz9a, hz9b, hz9c⟩
    · replace hR := ifp rfl hR
      refine W.eq (g2 := F0 m 17 ls [.int 0, .int 1, .ref (a 0)]) rfl ?_
      refine lv_if_eq (tgt := 27) hx hb dX10_make_17 (by decide) (fun _ => ?_) (fun c10 => False.elim (by revert c10; decide))
      refine lv_iconst (v := 1) hx hb dX10_make_27 (by decide) ?_
      refine lv_goto (tgt := 32) hx hb dX10_make_28 (by decide) ?_
      obtain ⟨x11, t12, hd13⟩ := ex2 (D_X10_isThrown_ (q 0) (q 1) (q 2) (q 3) 1 1)
      replace hR := bnd2_use hd13 hR
      refine call_V (n := 2) (k0 := 0) (As := [.int 1, .int 1]) (rest := []) hX hB (k_X10_isThrown_ κ l (mw κ a r f q (tb a) w) 0 (a 0) (a 1) (q 0) (q 1) (q 2) (q 3) 1 1 (mw0x (a := a) (r := r) (f := f) (q := q) (T := tb a) (w := w) rfl) x11 t12 hd13) ⟨rfl, by decide, by decide, by decide +kernel⟩ wm_5_192 wm_5_194 wp_27 wm_1_6 wm_5_195 ⟨Nat.le_of_ble_eq_true rfl, Nat.le_of_ble_eq_true rfl⟩ ⟨Nat.le_of_ble_eq_true rfl, Nat.le_of_ble_eq_true rfl⟩ (mw0x (a := a) (r := r) (f := f) (q := q) (T := tb a) (w := w) rfl) rfl rfl rfl hl.1 rfl (Nat.le_of_ble_eq_true rfl) dX10_make_32 (fun o w' H locs hp hB => ?_)
      obtain ⟨rfl, hf14, hw9⟩ := hp
      replace hB : Bd κ A s (mw κ a r f (va_up q 3 t12) (tb a) w) H locs := by exact Bd_eq (mwQ3x rfl _) (by rw [hw9] at hB; exact hB)
      obtain rfl : x11 = 1 := hf14.trans (by decide)
      refine W.eq (g2 := F0 m 35 ls [.int 1]) rfl ?_
      refine lv_if_eq (tgt := 42) hx hb dX10_make_35 (by decide) (fun c15 => False.elim (by revert c15; decide)) (fun _ => ?_)
      refine lv_iconst (v := 0) hx hb dX10_make_38 (by decide) ?_
      refine lv_goto (tgt := 56) hx hb dX10_make_39 (by decide) ?_
      rw [← hQ]
      exact end_i hX hB hA3 rfl rfl (by obtain ⟨rfl, rfl, rfl, rfl⟩ := pr4 hR; exact ⟨a, rfl, rfl, hm, rfl, rfl⟩) (Nat.le_of_ble_eq_true rfl) (Nat.le_of_ble_eq_true rfl) dX10_make_56
    · replace hR := ifn (by decide) hR
      refine W.eq (g2 := F0 m 17 ls [.int 1, .int 1, .ref (a 0)]) rfl ?_
      refine lv_if_eq (tgt := 27) hx hb dX10_make_17 (by decide) (fun c16 => False.elim (by revert c16; decide)) (fun _ => ?_)
      refine lv_iload_n hx hb dX10_make_20 rfl (lv_at hl 3 rfl) ?_
      obtain ⟨z17, hd18⟩ := ex1 (D_X10_isShort u)
      replace hR := bnd1_use hd18 hR
      refine call_S (n := 1) (As := [.int u]) (rest := [.int 1, .ref (a 0)]) hX hB (k_X10_isShort κ l (mw κ a r f q (tb a) w) u z17 hd18) ⟨by decide, by decide, by decide +kernel⟩ wm_5_189 wm_5_190 wm_1_6 wm_5_191 ⟨Nat.le_of_ble_eq_true rfl, Nat.le_of_ble_eq_true rfl⟩ ⟨Nat.le_of_ble_eq_true rfl, Nat.le_of_ble_eq_true rfl⟩ rfl hl.1 rfl (Nat.le_of_ble_eq_true rfl) dX10_make_21 (fun o w' H locs hp hB => ?_)
      obtain ⟨rfl, hf19, hw9⟩ := hp
      replace hB : Bd κ A s (mw κ a r f q (tb a) w) H locs := by rw [hw9] at hB; exact hB
      rcases hf19 with rfl | ⟨rfl, hz20a, hz20b, hz20c⟩
      · replace hR := ifp rfl hR
        refine W.eq (g2 := F0 m 24 ls [.int 0, .int 1, .ref (a 0)]) rfl ?_
        refine lv_if_ne (tgt := 31) hx hb dX10_make_24 (by decide) (fun c21 => False.elim (by revert c21; decide)) (fun _ => ?_)
        refine lv_iconst (v := 1) hx hb dX10_make_27 (by decide) ?_
        refine lv_goto (tgt := 32) hx hb dX10_make_28 (by decide) ?_
        obtain ⟨x22, t23, hd24⟩ := ex2 (D_X10_isThrown_ (q 0) (q 1) (q 2) (q 3) 1 1)
        replace hR := bnd2_use hd24 hR
        refine call_V (n := 2) (k0 := 0) (As := [.int 1, .int 1]) (rest := []) hX hB (k_X10_isThrown_ κ l (mw κ a r f q (tb a) w) 0 (a 0) (a 1) (q 0) (q 1) (q 2) (q 3) 1 1 (mw0x (a := a) (r := r) (f := f) (q := q) (T := tb a) (w := w) rfl) x22 t23 hd24) ⟨rfl, by decide, by decide, by decide +kernel⟩ wm_5_192 wm_5_194 wp_27 wm_1_6 wm_5_195 ⟨Nat.le_of_ble_eq_true rfl, Nat.le_of_ble_eq_true rfl⟩ ⟨Nat.le_of_ble_eq_true rfl, Nat.le_of_ble_eq_true rfl⟩ (mw0x (a := a) (r := r) (f := f) (q := q) (T := tb a) (w := w) rfl) rfl rfl rfl hl.1 rfl (Nat.le_of_ble_eq_true rfl) dX10_make_32 (fun o w' H locs hp hB => ?_)
        obtain ⟨rfl, hf25, hw9⟩ := hp
        replace hB : Bd κ A s (mw κ a r f (va_up q 3 t23) (tb a) w) H locs := by exact Bd_eq (mwQ3x rfl _) (by rw [hw9] at hB; exact hB)
        obtain rfl : x22 = 1 := hf25.trans (by decide)
        refine W.eq (g2 := F0 m 35 ls [.int 1]) rfl ?_
        refine lv_if_eq (tgt := 42) hx hb dX10_make_35 (by decide) (fun c26 => False.elim (by revert c26; decide)) (fun _ => ?_)
        refine lv_iconst (v := 0) hx hb dX10_make_38 (by decide) ?_
        refine lv_goto (tgt := 56) hx hb dX10_make_39 (by decide) ?_
        rw [← hQ]
        exact end_i hX hB hA3 rfl rfl (by obtain ⟨rfl, rfl, rfl, rfl⟩ := pr4 hR; exact ⟨a, rfl, rfl, hm, rfl, rfl⟩) (Nat.le_of_ble_eq_true rfl) (Nat.le_of_ble_eq_true rfl) dX10_make_56
      · replace hR := ifn (by decide) hR
        refine W.eq (g2 := F0 m 24 ls [.int 1, .int 1, .ref (a 0)]) rfl ?_
        refine lv_if_ne (tgt := 31) hx hb dX10_make_24 (by decide) (fun _ => ?_) (fun c27 => False.elim (by revert c27; decide))
        refine lv_iconst (v := 0) hx hb dX10_make_31 (by decide) ?_
        obtain ⟨x28, t29, hd30⟩ := ex2 (D_X10_isThrown_ (q 0) (q 1) (q 2) (q 3) 1 0)
        replace hR := bnd2_use hd30 hR
        refine call_V (n := 2) (k0 := 0) (As := [.int 1, .int 0]) (rest := []) hX hB (k_X10_isThrown_ κ l (mw κ a r f q (tb a) w) 0 (a 0) (a 1) (q 0) (q 1) (q 2) (q 3) 1 0 (mw0x (a := a) (r := r) (f := f) (q := q) (T := tb a) (w := w) rfl) x28 t29 hd30) ⟨rfl, by decide, by decide, by decide +kernel⟩ wm_5_192 wm_5_194 wp_27 wm_1_6 wm_5_195 ⟨Nat.le_of_ble_eq_true rfl, Nat.le_of_ble_eq_true rfl⟩ ⟨Nat.le_of_ble_eq_true rfl, Nat.le_of_ble_eq_true rfl⟩ (mw0x (a := a) (r := r) (f := f) (q := q) (T := tb a) (w := w) rfl) rfl rfl rfl hl.1 rfl (Nat.le_of_ble_eq_true rfl) dX10_make_32 (fun o w' H locs hp hB => ?_)
        obtain ⟨rfl, hf31, hw9⟩ := hp
        replace hB : Bd κ A s (mw κ a r f (va_up q 3 t29) (tb a) w) H locs := by exact Bd_eq (mwQ3x rfl _) (by rw [hw9] at hB; exact hB)
        obtain rfl : x28 = 1 := hf31.trans (by decide)
        refine W.eq (g2 := F0 m 35 ls [.int 1]) rfl ?_
        refine lv_if_eq (tgt := 42) hx hb dX10_make_35 (by decide) (fun c32 => False.elim (by revert c32; decide)) (fun _ => ?_)
        refine lv_iconst (v := 0) hx hb dX10_make_38 (by decide) ?_
        refine lv_goto (tgt := 56) hx hb dX10_make_39 (by decide) ?_
        rw [← hQ]
        exact end_i hX hB hA3 rfl rfl (by obtain ⟨rfl, rfl, rfl, rfl⟩ := pr4 hR; exact ⟨a, rfl, rfl, hm, rfl, rfl⟩) (Nat.le_of_ble_eq_true rfl) (Nat.le_of_ble_eq_true rfl) dX10_make_56
  · replace hR := ifn (by decide) hR
    refine W.eq (g2 := F0 m 5 ls [.int 1, .ref (a 0)]) rfl ?_
    refine lv_if_ne (tgt := 12) hx hb dX10_make_5 (by decide) (fun _ => ?_) (fun c33 => False.elim (by revert c33; decide))
    refine lv_iconst (v := 0) hx hb dX10_make_12 (by decide) ?_
    refine lv_iload_n hx hb dX10_make_13 rfl (lv_at hl 2 rfl) ?_
    obtain ⟨z34, hd35⟩ := ex1 (D_X10_isShort z)
    replace hR := bnd1_use hd35 hR
    refine call_S (n := 1) (As := [.int z]) (rest := [.int 0, .ref (a 0)]) hX hB (k_X10_isShort κ l (mw κ a r f q (tb a) w) z z34 hd35) ⟨by decide, by decide, by decide +kernel⟩ wm_5_189 wm_5_190 wm_1_6 wm_5_191 ⟨Nat.le_of_ble_eq_true rfl, Nat.le_of_ble_eq_true rfl⟩ ⟨Nat.le_of_ble_eq_true rfl, Nat.le_of_ble_eq_true rfl⟩ rfl hl.1 rfl (Nat.le_of_ble_eq_true rfl) dX10_make_14 (fun o w' H locs hp hB => ?_)
    obtain ⟨rfl, hf36, hw9⟩ := hp
    replace hB : Bd κ A s (mw κ a r f q (tb a) w) H locs := by rw [hw9] at hB; exact hB
    rcases hf36 with rfl | ⟨rfl, hz37a, hz37b, hz37c⟩
    · replace hR := ifp rfl hR
      refine W.eq (g2 := F0 m 17 ls [.int 0, .int 0, .ref (a 0)]) rfl ?_
      refine lv_if_eq (tgt := 27) hx hb dX10_make_17 (by decide) (fun _ => ?_) (fun c38 => False.elim (by revert c38; decide))
      refine lv_iconst (v := 1) hx hb dX10_make_27 (by decide) ?_
      refine lv_goto (tgt := 32) hx hb dX10_make_28 (by decide) ?_
      obtain ⟨x39, t40, hd41⟩ := ex2 (D_X10_isThrown_ (q 0) (q 1) (q 2) (q 3) 0 1)
      replace hR := bnd2_use hd41 hR
      refine call_V (n := 2) (k0 := 0) (As := [.int 0, .int 1]) (rest := []) hX hB (k_X10_isThrown_ κ l (mw κ a r f q (tb a) w) 0 (a 0) (a 1) (q 0) (q 1) (q 2) (q 3) 0 1 (mw0x (a := a) (r := r) (f := f) (q := q) (T := tb a) (w := w) rfl) x39 t40 hd41) ⟨rfl, by decide, by decide, by decide +kernel⟩ wm_5_192 wm_5_194 wp_27 wm_1_6 wm_5_195 ⟨Nat.le_of_ble_eq_true rfl, Nat.le_of_ble_eq_true rfl⟩ ⟨Nat.le_of_ble_eq_true rfl, Nat.le_of_ble_eq_true rfl⟩ (mw0x (a := a) (r := r) (f := f) (q := q) (T := tb a) (w := w) rfl) rfl rfl rfl hl.1 rfl (Nat.le_of_ble_eq_true rfl) dX10_make_32 (fun o w' H locs hp hB => ?_)
      obtain ⟨rfl, hf42, hw9⟩ := hp
      replace hB : Bd κ A s (mw κ a r f (va_up q 3 t40) (tb a) w) H locs := by exact Bd_eq (mwQ3x rfl _) (by rw [hw9] at hB; exact hB)
      obtain rfl : x39 = 1 := hf42.trans (by decide)
      refine W.eq (g2 := F0 m 35 ls [.int 1]) rfl ?_
      refine lv_if_eq (tgt := 42) hx hb dX10_make_35 (by decide) (fun c43 => False.elim (by revert c43; decide)) (fun _ => ?_)
      refine lv_iconst (v := 0) hx hb dX10_make_38 (by decide) ?_
      refine lv_goto (tgt := 56) hx hb dX10_make_39 (by decide) ?_
      rw [← hQ]
      exact end_i hX hB hA3 rfl rfl (by obtain ⟨rfl, rfl, rfl, rfl⟩ := pr4 hR; exact ⟨a, rfl, rfl, hm, rfl, rfl⟩) (Nat.le_of_ble_eq_true rfl) (Nat.le_of_ble_eq_true rfl) dX10_make_56
    · replace hR := ifn (by decide) hR
      refine W.eq (g2 := F0 m 17 ls [.int 1, .int 0, .ref (a 0)]) rfl ?_
      refine lv_if_eq (tgt := 27) hx hb dX10_make_17 (by decide) (fun c44 => False.elim (by revert c44; decide)) (fun _ => ?_)
      refine lv_iload_n hx hb dX10_make_20 rfl (lv_at hl 3 rfl) ?_
      obtain ⟨z45, hd46⟩ := ex1 (D_X10_isShort u)
      replace hR := bnd1_use hd46 hR
      refine call_S (n := 1) (As := [.int u]) (rest := [.int 0, .ref (a 0)]) hX hB (k_X10_isShort κ l (mw κ a r f q (tb a) w) u z45 hd46) ⟨by decide, by decide, by decide +kernel⟩ wm_5_189 wm_5_190 wm_1_6 wm_5_191 ⟨Nat.le_of_ble_eq_true rfl, Nat.le_of_ble_eq_true rfl⟩ ⟨Nat.le_of_ble_eq_true rfl, Nat.le_of_ble_eq_true rfl⟩ rfl hl.1 rfl (Nat.le_of_ble_eq_true rfl) dX10_make_21 (fun o w' H locs hp hB => ?_)
      obtain ⟨rfl, hf47, hw9⟩ := hp
      replace hB : Bd κ A s (mw κ a r f q (tb a) w) H locs := by rw [hw9] at hB; exact hB
      rcases hf47 with rfl | ⟨rfl, hz48a, hz48b, hz48c⟩
      · replace hR := ifp rfl hR
        refine W.eq (g2 := F0 m 24 ls [.int 0, .int 0, .ref (a 0)]) rfl ?_
        refine lv_if_ne (tgt := 31) hx hb dX10_make_24 (by decide) (fun c49 => False.elim (by revert c49; decide)) (fun _ => ?_)
        refine lv_iconst (v := 1) hx hb dX10_make_27 (by decide) ?_
        refine lv_goto (tgt := 32) hx hb dX10_make_28 (by decide) ?_
        obtain ⟨x50, t51, hd52⟩ := ex2 (D_X10_isThrown_ (q 0) (q 1) (q 2) (q 3) 0 1)
        replace hR := bnd2_use hd52 hR
        refine call_V (n := 2) (k0 := 0) (As := [.int 0, .int 1]) (rest := []) hX hB (k_X10_isThrown_ κ l (mw κ a r f q (tb a) w) 0 (a 0) (a 1) (q 0) (q 1) (q 2) (q 3) 0 1 (mw0x (a := a) (r := r) (f := f) (q := q) (T := tb a) (w := w) rfl) x50 t51 hd52) ⟨rfl, by decide, by decide, by decide +kernel⟩ wm_5_192 wm_5_194 wp_27 wm_1_6 wm_5_195 ⟨Nat.le_of_ble_eq_true rfl, Nat.le_of_ble_eq_true rfl⟩ ⟨Nat.le_of_ble_eq_true rfl, Nat.le_of_ble_eq_true rfl⟩ (mw0x (a := a) (r := r) (f := f) (q := q) (T := tb a) (w := w) rfl) rfl rfl rfl hl.1 rfl (Nat.le_of_ble_eq_true rfl) dX10_make_32 (fun o w' H locs hp hB => ?_)
        obtain ⟨rfl, hf53, hw9⟩ := hp
        replace hB : Bd κ A s (mw κ a r f (va_up q 3 t51) (tb a) w) H locs := by exact Bd_eq (mwQ3x rfl _) (by rw [hw9] at hB; exact hB)
        obtain rfl : x50 = 1 := hf53.trans (by decide)
        refine W.eq (g2 := F0 m 35 ls [.int 1]) rfl ?_
        refine lv_if_eq (tgt := 42) hx hb dX10_make_35 (by decide) (fun c54 => False.elim (by revert c54; decide)) (fun _ => ?_)
        refine lv_iconst (v := 0) hx hb dX10_make_38 (by decide) ?_
        refine lv_goto (tgt := 56) hx hb dX10_make_39 (by decide) ?_
        rw [← hQ]
        exact end_i hX hB hA3 rfl rfl (by obtain ⟨rfl, rfl, rfl, rfl⟩ := pr4 hR; exact ⟨a, rfl, rfl, hm, rfl, rfl⟩) (Nat.le_of_ble_eq_true rfl) (Nat.le_of_ble_eq_true rfl) dX10_make_56
      · replace hR := ifn (by decide) hR
        refine W.eq (g2 := F0 m 24 ls [.int 1, .int 0, .ref (a 0)]) rfl ?_
        refine lv_if_ne (tgt := 31) hx hb dX10_make_24 (by decide) (fun _ => ?_) (fun c55 => False.elim (by revert c55; decide))
        refine lv_iconst (v := 0) hx hb dX10_make_31 (by decide) ?_
        obtain ⟨x56, t57, hd58⟩ := ex2 (D_X10_isThrown_ (q 0) (q 1) (q 2) (q 3) 0 0)
        replace hR := bnd2_use hd58 hR
        refine call_V (n := 2) (k0 := 0) (As := [.int 0, .int 0]) (rest := []) hX hB (k_X10_isThrown_ κ l (mw κ a r f q (tb a) w) 0 (a 0) (a 1) (q 0) (q 1) (q 2) (q 3) 0 0 (mw0x (a := a) (r := r) (f := f) (q := q) (T := tb a) (w := w) rfl) x56 t57 hd58) ⟨rfl, by decide, by decide, by decide +kernel⟩ wm_5_192 wm_5_194 wp_27 wm_1_6 wm_5_195 ⟨Nat.le_of_ble_eq_true rfl, Nat.le_of_ble_eq_true rfl⟩ ⟨Nat.le_of_ble_eq_true rfl, Nat.le_of_ble_eq_true rfl⟩ (mw0x (a := a) (r := r) (f := f) (q := q) (T := tb a) (w := w) rfl) rfl rfl rfl hl.1 rfl (Nat.le_of_ble_eq_true rfl) dX10_make_32 (fun o w' H locs hp hB => ?_)
        obtain ⟨rfl, hf59, hw9⟩ := hp
        replace hB : Bd κ A s (mw κ a r f (va_up q 3 t57) (tb a) w) H locs := by exact Bd_eq (mwQ3x rfl _) (by rw [hw9] at hB; exact hB)
        obtain rfl : x56 = 0 := hf59.trans (by decide)
        refine W.eq (g2 := F0 m 35 ls [.int 0]) rfl ?_
        refine lv_if_eq (tgt := 42) hx hb dX10_make_35 (by decide) (fun _ => ?_) (fun c60 => False.elim (by revert c60; decide))
        refine lv_aload_n hx hb dX10_make_42 rfl (lv_at hl 0 rfl) ?_
        refine lv_iload_n hx hb dX10_make_43 rfl (lv_at hl 1 rfl) ?_
        refine newO (fs := [.int 0, .int 0, .null]) hX hB (ci := 8) rfl in7 tyX7_ok wm_5_138 wm_5_140 wm_1_7 df8 (Nat.le_of_ble_eq_true rfl) (Nat.le_of_ble_eq_true rfl) dX10_make_44 (fun q61 H hB => ?_)
        refine lv_dup hx hb dX10_make_47 rfl ?_
        refine lv_iload_n hx hb dX10_make_48 rfl (lv_at hl 2 rfl) ?_
        refine lv_iload_n hx hb dX10_make_49 rfl (lv_at hl 3 rfl) ?_
        refine call_I (n := 2) (As := [.int z, .int u]) (rest := [.ref q61, .int y, .ref (a 0)]) hX hB (k_X7_init κ l (mw κ a r f (va_up q 3 t57) (tb a) w) q61 z ((z).toNatClampNeg) u ((u).toNatClampNeg) (nI_rep (by assumption)) (nI_rep (by assumption)) (by omega)) ⟨by decide, by decide, by decide +kernel⟩ rfl wm_5_141 wm_5_142 wm_1_7 wm_5_143 ⟨Nat.le_of_ble_eq_true rfl, Nat.le_of_ble_eq_true rfl⟩ ⟨Nat.le_of_ble_eq_true rfl, Nat.le_of_ble_eq_true rfl⟩ rfl hl.1 rfl (Nat.le_of_ble_eq_true rfl) dX10_make_50 (fun o w' H locs hp hB => ?_)
        obtain ⟨b62, rfl, hw9⟩ := hp
        replace hB : Bd κ A s (lA κ b62 (((z).toNatClampNeg) * 5) (fun _ => 0) :: gO q61 ((z).toNatClampNeg) ((u).toNatClampNeg) b62 :: mw κ a r f (va_up q 3 t57) (tb a) w) H locs := by rw [hw9] at hB; exact hB
        refine W.eq (g2 := F0 m 53 ls [.ref q61, .int y, .ref (a 0)]) rfl ?_
        obtain ⟨x63, rn65, fn66, qn67, hd68⟩ := ex4 (D_X10_lay r f (va_up q 3 t57) y ((z).toNatClampNeg) ((u).toNatClampNeg) (fun _ => 0))
        replace hR := bnd4_use hd68 hR
        refine call_V (n := 2) (k0 := 2) (As := [.int y, .ref q61]) (rest := []) hX hB (k_X10_lay κ l w a r f (va_up q 3 t57) y q61 b62 ((z).toNatClampNeg) ((u).toNatClampNeg) (fun _ => 0) hm ⟨by omega, by omega, by omega, by omega⟩ (by assumption) (by assumption) (fun _ _ => sm_0) x63 rn65 fn66 qn67 hd68) ⟨rfl, by decide, by decide, by decide +kernel⟩ wm_5_200 wm_5_202 wp_29 wm_1_6 wm_5_203 ⟨Nat.le_of_ble_eq_true rfl, Nat.le_of_ble_eq_true rfl⟩ ⟨Nat.le_of_ble_eq_true rfl, Nat.le_of_ble_eq_true rfl⟩ (mw0x (a := a) (r := r) (f := f) (q := (va_up q 3 t57)) (T := tb a) (w := w) rfl) rfl rfl rfl hl.1 rfl (Nat.le_of_ble_eq_true rfl) dX10_make_53 (fun o w' H locs hp hB => ?_)
        obtain ⟨an64, rfl, hf69, hf70, hf71, hw9⟩ := hp
        replace hB : Bd κ A s (mw κ an64 rn65 fn66 qn67 (tb an64) w) H locs := by rw [hw9] at hB; exact hB
        refine W.eq (g2 := F0 m 56 ls [.int x63]) rfl ?_
        rw [← hQ]
        exact end_i hX hB hA3 rfl rfl (by obtain ⟨rfl, rfl, rfl, rfl⟩ := pr4 hR; exact ⟨an64, rfl, (hf69.trans rfl), hf70, (hf71.trans rfl), rfl⟩) (Nat.le_of_ble_eq_true rfl) (Nat.le_of_ble_eq_true rfl) dX10_make_56
noncomputable def D_X10_unit (r : Nat → Nat) (f : Nat → Nat → Int64) (q : Nat → Int32) (y : Int32) (z : Int32) : Int32 × (Nat → Nat) × (Nat → Nat → Int64) × (Nat → Int32) := bnd1 (D_X10_isTable y) (fun (z1 : Int32) => (if z1 = 0 then bnd1 (D_X10_isShort z) (fun (z6 : Int32) => (if z6 = 0 then bnd2 (D_X10_isThrown_ (q 0) (q 1) (q 2) (q 3) 1 1) (fun (x11 : Int32) (t12 : Int32) => (0, r, f, va_up q 3 t12)) else bnd2 (D_X10_isThrown_ (q 0) (q 1) (q 2) (q 3) 1 0) (fun (x17 : Int32) (t18 : Int32) => (0, r, f, va_up q 3 t18)))) else bnd1 (D_X10_isShort z) (fun (z23 : Int32) => (if z23 = 0 then bnd2 (D_X10_isThrown_ (q 0) (q 1) (q 2) (q 3) 0 1) (fun (x28 : Int32) (t29 : Int32) => (0, r, f, va_up q 3 t29)) else bnd2 (D_X10_isThrown_ (q 0) (q 1) (q 2) (q 3) 0 0) (fun (x34 : Int32) (t35 : Int32) => bnd1 (D_X7_unit ((z).toNatClampNeg)) (fun (F41 : Nat → Int64) => bnd4 (D_X10_lay r f (va_up q 3 t35) y ((z).toNatClampNeg) ((z).toNatClampNeg) F41) (fun (x44 : Int32) (rn46 : Nat → Nat) (fn47 : Nat → Nat → Int64) (qn48 : Nat → Int32) => (x44, rn46, fn47, qn48))))))))
theorem D_X10_unit_s {r : Nat → Nat} {f : Nat → Nat → Int64} {q : Nat → Int32} {y : Int32} {z : Int32} : D_X10_unit r f q y z = bnd1 (D_X10_isTable y) (fun (z1 : Int32) => (if z1 = 0 then bnd1 (D_X10_isShort z) (fun (z6 : Int32) => (if z6 = 0 then bnd2 (D_X10_isThrown_ (q 0) (q 1) (q 2) (q 3) 1 1) (fun (x11 : Int32) (t12 : Int32) => (0, r, f, va_up q 3 t12)) else bnd2 (D_X10_isThrown_ (q 0) (q 1) (q 2) (q 3) 1 0) (fun (x17 : Int32) (t18 : Int32) => (0, r, f, va_up q 3 t18)))) else bnd1 (D_X10_isShort z) (fun (z23 : Int32) => (if z23 = 0 then bnd2 (D_X10_isThrown_ (q 0) (q 1) (q 2) (q 3) 0 1) (fun (x28 : Int32) (t29 : Int32) => (0, r, f, va_up q 3 t29)) else bnd2 (D_X10_isThrown_ (q 0) (q 1) (q 2) (q 3) 0 0) (fun (x34 : Int32) (t35 : Int32) => bnd1 (D_X7_unit ((z).toNatClampNeg)) (fun (F41 : Nat → Int64) => bnd4 (D_X10_lay r f (va_up q 3 t35) y ((z).toNatClampNeg) ((z).toNatClampNeg) F41) (fun (x44 : Int32) (rn46 : Nat → Nat) (fn47 : Nat → Nat → Int64) (qn48 : Nat → Int32) => (x44, rn46, fn47, qn48)))))))) := rfl
set_option maxHeartbeats 4000000 in
set_option maxRecDepth 100000 in
theorem k_X10_unit (κ : Kt) (l : Launch) (w : va_W) (a r : Nat → Nat) (f : Nat → Nat → Int64) (q : Nat → Int32) (y : Int32) (z : Int32) (hm : mok r f) (o_x : Int32) (o_r' : Nat → Nat) (o_f' : Nat → Nat → Int64) (o_q' : Nat → Int32) (hR : D_X10_unit r f q y z = (o_x, o_r', o_f', o_q')) : CM κ l yX10_unit cX10_unit 3 (some .int) 3 64 2 23 [.ref (a 0), .int y, .int z] (mw κ a r f q (tb a) w) (fun o w' => ∃ (a' : Nat → Nat), o = some (.int o_x) ∧ (a' 0 = a 0) ∧ (mok o_r' o_f') ∧ (o_q' 2 = q 2) ∧ w' = mw κ a' o_r' o_f' o_q' (tb a') w) := by
  refine CM_begin (plainFor_of_name (by decide)) (Nat.le_of_ble_eq_true rfl) ?_
  intro p e s m args below meth c A Q hX hnm hA3 hQ hB ls hl
  have hx := hX.1.1
  have hb := hX.1.2.1
  have hl : lv_has ls 3 [(0, .ref (a 0)), (1, .int y), (2, .int z)] := hl
  replace hR := (D_X10_unit_s).symm.trans hR
  refine lv_aload_n hx hb dX10_unit_0 rfl (lv_at hl 0 rfl) ?_
  refine lv_iload_n hx hb dX10_unit_1 rfl (lv_at hl 1 rfl) ?_
  obtain ⟨z1, hd2⟩ := ex1 (D_X10_isTable y)
  replace hR := bnd1_use hd2 hR
  refine call_S (n := 1) (As := [.int y]) (rest := [.ref (a 0)]) hX hB (k_X10_isTable κ l (mw κ a r f q (tb a) w) y z1 hd2) ⟨by decide, by decide, by decide +kernel⟩ wm_5_186 wm_5_187 wm_1_6 wm_5_188 ⟨Nat.le_of_ble_eq_true rfl, Nat.le_of_ble_eq_true rfl⟩ ⟨Nat.le_of_ble_eq_true rfl, Nat.le_of_ble_eq_true rfl⟩ rfl hl.1 rfl (Nat.le_of_ble_eq_true rfl) dX10_unit_2 (fun o w' H locs hp hB => ?_)
  obtain ⟨rfl, hf3, hw9⟩ := hp
  replace hB : Bd κ A s (mw κ a r f q (tb a) w) H locs := by rw [hw9] at hB; exact hB
  rcases hf3 with rfl | ⟨rfl, hz4a, hz4b⟩
  · replace hR := ifp rfl hR
    refine W.eq (g2 := F0 m 5 ls [.int 0, .ref (a 0)]) rfl ?_
    refine lv_if_ne (tgt := 12) hx hb dX10_unit_5 (by decide) (fun c5 => False.elim (by revert c5; decide)) (fun _ => ?_)
    refine lv_iconst (v := 1) hx hb dX10_unit_8 (by decide) ?_
    refine lv_goto (tgt := 13) hx hb dX10_unit_9 (by decide) ?_
    refine lv_iload_n hx hb dX10_unit_13 rfl (lv_at hl 2 rfl) ?_
    obtain ⟨z6, hd7⟩ := ex1 (D_X10_isShort z)
    replace hR := bnd1_use hd7 hR
    refine call_S (n := 1) (As := [.int z]) (rest := [.int 1, .ref (a 0)]) hX hB (k_X10_isShort κ l (mw κ a r f q (tb a) w) z z6 hd7) ⟨by decide, by decide, by decide +kernel⟩ wm_5_189 wm_5_190 wm_1_6 wm_5_191 ⟨Nat.le_of_ble_eq_true rfl, Nat.le_of_ble_eq_true rfl⟩ ⟨Nat.le_of_ble_eq_true rfl, Nat.le_of_ble_eq_true rfl⟩ rfl hl.1 rfl (Nat.le_of_ble_eq_true rfl) dX10_unit_14 (fun o w' H locs hp hB => ?_)
    obtain ⟨rfl, hf8, hw9⟩ := hp
    replace hB : Bd κ A s (mw κ a r f q (tb a) w) H locs := by rw [hw9] at hB; exact hB
    rcases hf8 with rfl | ⟨rfl, hz9a, hz9b, hz9c⟩
    · replace hR := ifp rfl hR
      refine W.eq (g2 := F0 m 17 ls [.int 0, .int 1, .ref (a 0)]) rfl ?_
      refine lv_if_ne (tgt := 24) hx hb dX10_unit_17 (by decide) (fun c10 => False.elim (by revert c10; decide)) (fun _ => ?_)
      refine lv_iconst (v := 1) hx hb dX10_unit_20 (by decide) ?_
      refine lv_goto (tgt := 25) hx hb dX10_unit_21 (by decide) ?_
      obtain ⟨x11, t12, hd13⟩ := ex2 (D_X10_isThrown_ (q 0) (q 1) (q 2) (q 3) 1 1)
      replace hR := bnd2_use hd13 hR
      refine call_V (n := 2) (k0 := 0) (As := [.int 1, .int 1]) (rest := []) hX hB (k_X10_isThrown_ κ l (mw κ a r f q (tb a) w) 0 (a 0) (a 1) (q 0) (q 1) (q 2) (q 3) 1 1 (mw0x (a := a) (r := r) (f := f) (q := q) (T := tb a) (w := w) rfl) x11 t12 hd13) ⟨rfl, by decide, by decide, by decide +kernel⟩ wm_5_192 wm_5_194 wp_27 wm_1_6 wm_5_195 ⟨Nat.le_of_ble_eq_true rfl, Nat.le_of_ble_eq_true rfl⟩ ⟨Nat.le_of_ble_eq_true rfl, Nat.le_of_ble_eq_true rfl⟩ (mw0x (a := a) (r := r) (f := f) (q := q) (T := tb a) (w := w) rfl) rfl rfl rfl hl.1 rfl (Nat.le_of_ble_eq_true rfl) dX10_unit_25 (fun o w' H locs hp hB => ?_)
      obtain ⟨rfl, hf14, hw9⟩ := hp
      replace hB : Bd κ A s (mw κ a r f (va_up q 3 t12) (tb a) w) H locs := by exact Bd_eq (mwQ3x rfl _) (by rw [hw9] at hB; exact hB)
      obtain rfl : x11 = 1 := hf14.trans (by decide)
      refine W.eq (g2 := F0 m 28 ls [.int 1]) rfl ?_
      refine lv_if_eq (tgt := 35) hx hb dX10_unit_28 (by decide) (fun c15 => False.elim (by revert c15; decide)) (fun _ => ?_)
      refine lv_iconst (v := 0) hx hb dX10_unit_31 (by decide) ?_
      refine lv_goto (tgt := 44) hx hb dX10_unit_32 (by decide) ?_
      rw [← hQ]
      exact end_i hX hB hA3 rfl rfl (by obtain ⟨rfl, rfl, rfl, rfl⟩ := pr4 hR; exact ⟨a, rfl, rfl, hm, rfl, rfl⟩) (Nat.le_of_ble_eq_true rfl) (Nat.le_of_ble_eq_true rfl) dX10_unit_44
    · replace hR := ifn (by decide) hR
      refine W.eq (g2 := F0 m 17 ls [.int 1, .int 1, .ref (a 0)]) rfl ?_
      refine lv_if_ne (tgt := 24) hx hb dX10_unit_17 (by decide) (fun _ => ?_) (fun c16 => False.elim (by revert c16; decide))
      refine lv_iconst (v := 0) hx hb dX10_unit_24 (by decide) ?_
      obtain ⟨x17, t18, hd19⟩ := ex2 (D_X10_isThrown_ (q 0) (q 1) (q 2) (q 3) 1 0)
      replace hR := bnd2_use hd19 hR
      refine call_V (n := 2) (k0 := 0) (As := [.int 1, .int 0]) (rest := []) hX hB (k_X10_isThrown_ κ l (mw κ a r f q (tb a) w) 0 (a 0) (a 1) (q 0) (q 1) (q 2) (q 3) 1 0 (mw0x (a := a) (r := r) (f := f) (q := q) (T := tb a) (w := w) rfl) x17 t18 hd19) ⟨rfl, by decide, by decide, by decide +kernel⟩ wm_5_192 wm_5_194 wp_27 wm_1_6 wm_5_195 ⟨Nat.le_of_ble_eq_true rfl, Nat.le_of_ble_eq_true rfl⟩ ⟨Nat.le_of_ble_eq_true rfl, Nat.le_of_ble_eq_true rfl⟩ (mw0x (a := a) (r := r) (f := f) (q := q) (T := tb a) (w := w) rfl) rfl rfl rfl hl.1 rfl (Nat.le_of_ble_eq_true rfl) dX10_unit_25 (fun o w' H locs hp hB => ?_)
      obtain ⟨rfl, hf20, hw9⟩ := hp
      replace hB : Bd κ A s (mw κ a r f (va_up q 3 t18) (tb a) w) H locs := by exact Bd_eq (mwQ3x rfl _) (by rw [hw9] at hB; exact hB)
      obtain rfl : x17 = 1 := hf20.trans (by decide)
      refine W.eq (g2 := F0 m 28 ls [.int 1]) rfl ?_
      refine lv_if_eq (tgt := 35) hx hb dX10_unit_28 (by decide) (fun c21 => False.elim (by revert c21; decide)) (fun _ => ?_)
      refine lv_iconst (v := 0) hx hb dX10_unit_31 (by decide) ?_
      refine lv_goto (tgt := 44) hx hb dX10_unit_32 (by decide) ?_
      rw [← hQ]
      exact end_i hX hB hA3 rfl rfl (by obtain ⟨rfl, rfl, rfl, rfl⟩ := pr4 hR; exact ⟨a, rfl, rfl, hm, rfl, rfl⟩) (Nat.le_of_ble_eq_true rfl) (Nat.le_of_ble_eq_true rfl) dX10_unit_44
  · replace hR := ifn (by decide) hR
    refine W.eq (g2 := F0 m 5 ls [.int 1, .ref (a 0)]) rfl ?_
    refine lv_if_ne (tgt := 12) hx hb dX10_unit_5 (by decide) (fun _ => ?_) (fun c22 => False.elim (by revert c22; decide))
    refine lv_iconst (v := 0) hx hb dX10_unit_12 (by decide) ?_
    refine lv_iload_n hx hb dX10_unit_13 rfl (lv_at hl 2 rfl) ?_
    obtain ⟨z23, hd24⟩ := ex1 (D_X10_isShort z)
    replace hR := bnd1_use hd24 hR
    refine call_S (n := 1) (As := [.int z]) (rest := [.int 0, .ref (a 0)]) hX hB (k_X10_isShort κ l (mw κ a r f q (tb a) w) z z23 hd24) ⟨by decide, by decide, by decide +kernel⟩ wm_5_189 wm_5_190 wm_1_6 wm_5_191 ⟨Nat.le_of_ble_eq_true rfl, Nat.le_of_ble_eq_true rfl⟩ ⟨Nat.le_of_ble_eq_true rfl, Nat.le_of_ble_eq_true rfl⟩ rfl hl.1 rfl (Nat.le_of_ble_eq_true rfl) dX10_unit_14 (fun o w' H locs hp hB => ?_)
    obtain ⟨rfl, hf25, hw9⟩ := hp
    replace hB : Bd κ A s (mw κ a r f q (tb a) w) H locs := by rw [hw9] at hB; exact hB
    rcases hf25 with rfl | ⟨rfl, hz26a, hz26b, hz26c⟩
    · replace hR := ifp rfl hR
      refine W.eq (g2 := F0 m 17 ls [.int 0, .int 0, .ref (a 0)]) rfl ?_
      refine lv_if_ne (tgt := 24) hx hb dX10_unit_17 (by decide) (fun c27 => False.elim (by revert c27; decide)) (fun _ => ?_)
      refine lv_iconst (v := 1) hx hb dX10_unit_20 (by decide) ?_
      refine lv_goto (tgt := 25) hx hb dX10_unit_21 (by decide) ?_
      obtain ⟨x28, t29, hd30⟩ := ex2 (D_X10_isThrown_ (q 0) (q 1) (q 2) (q 3) 0 1)
      replace hR := bnd2_use hd30 hR
      refine call_V (n := 2) (k0 := 0) (As := [.int 0, .int 1]) (rest := []) hX hB (k_X10_isThrown_ κ l (mw κ a r f q (tb a) w) 0 (a 0) (a 1) (q 0) (q 1) (q 2) (q 3) 0 1 (mw0x (a := a) (r := r) (f := f) (q := q) (T := tb a) (w := w) rfl) x28 t29 hd30) ⟨rfl, by decide, by decide, by decide +kernel⟩ wm_5_192 wm_5_194 wp_27 wm_1_6 wm_5_195 ⟨Nat.le_of_ble_eq_true rfl, Nat.le_of_ble_eq_true rfl⟩ ⟨Nat.le_of_ble_eq_true rfl, Nat.le_of_ble_eq_true rfl⟩ (mw0x (a := a) (r := r) (f := f) (q := q) (T := tb a) (w := w) rfl) rfl rfl rfl hl.1 rfl (Nat.le_of_ble_eq_true rfl) dX10_unit_25 (fun o w' H locs hp hB => ?_)
      obtain ⟨rfl, hf31, hw9⟩ := hp
      replace hB : Bd κ A s (mw κ a r f (va_up q 3 t29) (tb a) w) H locs := by exact Bd_eq (mwQ3x rfl _) (by rw [hw9] at hB; exact hB)
      obtain rfl : x28 = 1 := hf31.trans (by decide)
      refine W.eq (g2 := F0 m 28 ls [.int 1]) rfl ?_
      refine lv_if_eq (tgt := 35) hx hb dX10_unit_28 (by decide) (fun c32 => False.elim (by revert c32; decide)) (fun _ => ?_)
      refine lv_iconst (v := 0) hx hb dX10_unit_31 (by decide) ?_
      refine lv_goto (tgt := 44) hx hb dX10_unit_32 (by decide) ?_
      rw [← hQ]
      exact end_i hX hB hA3 rfl rfl (by obtain ⟨rfl, rfl, rfl, rfl⟩ := pr4 hR; exact ⟨a, rfl, rfl, hm, rfl, rfl⟩) (Nat.le_of_ble_eq_true rfl) (Nat.le_of_ble_eq_true rfl) dX10_unit_44
    · replace hR := ifn (by decide) hR
      refine W.eq (g2 := F0 m 17 ls [.int 1, .int 0, .ref (a 0)]) rfl ?_
      refine lv_if_ne (tgt := 24) hx hb dX10_unit_17 (by decide) (fun _ => ?_) (fun c33 => False.elim (by revert c33; decide))
      refine lv_iconst (v := 0) hx hb dX10_unit_24 (by decide) ?_
      obtain ⟨x34, t35, hd36⟩ := ex2 (D_X10_isThrown_ (q 0) (q 1) (q 2) (q 3) 0 0)
      replace hR := bnd2_use hd36 hR
      refine call_V (n := 2) (k0 := 0) (As := [.int 0, .int 0]) (rest := []) hX hB (k_X10_isThrown_ κ l (mw κ a r f q (tb a) w) 0 (a 0) (a 1) (q 0) (q 1) (q 2) (q 3) 0 0 (mw0x (a := a) (r := r) (f := f) (q := q) (T := tb a) (w := w) rfl) x34 t35 hd36) ⟨rfl, by decide, by decide, by decide +kernel⟩ wm_5_192 wm_5_194 wp_27 wm_1_6 wm_5_195 ⟨Nat.le_of_ble_eq_true rfl, Nat.le_of_ble_eq_true rfl⟩ ⟨Nat.le_of_ble_eq_true rfl, Nat.le_of_ble_eq_true rfl⟩ (mw0x (a := a) (r := r) (f := f) (q := q) (T := tb a) (w := w) rfl) rfl rfl rfl hl.1 rfl (Nat.le_of_ble_eq_true rfl) dX10_unit_25 (fun o w' H locs hp hB => ?_)
      obtain ⟨rfl, hf37, hw9⟩ := hp
      replace hB : Bd κ A s (mw κ a r f (va_up q 3 t35) (tb a) w) H locs := by exact Bd_eq (mwQ3x rfl _) (by rw [hw9] at hB; exact hB)
      obtain rfl : x34 = 0 := hf37.trans (by decide)
      refine W.eq (g2 := F0 m 28 ls [.int 0]) rfl ?_
      refine lv_if_eq (tgt := 35) hx hb dX10_unit_28 (by decide) (fun _ => ?_) (fun c38 => False.elim (by revert c38; decide))
      refine lv_aload_n hx hb dX10_unit_35 rfl (lv_at hl 0 rfl) ?_
      refine lv_iload_n hx hb dX10_unit_36 rfl (lv_at hl 1 rfl) ?_
      refine lv_iload_n hx hb dX10_unit_37 rfl (lv_at hl 2 rfl) ?_
      obtain ⟨F41, hd42⟩ := ex1 (D_X7_unit ((z).toNatClampNeg))
      replace hR := bnd1_use hd42 hR
      refine call_S (n := 1) (As := [.int z]) (rest := [.int y, .ref (a 0)]) hX hB (k_X7_unit κ l (mw κ a r f (va_up q 3 t35) (tb a) w) z ((z).toNatClampNeg) (nI_rep (by assumption)) (by omega) (by omega) F41 hd42) ⟨by decide, by decide, by decide +kernel⟩ wm_5_216 wm_5_217 wm_1_7 wm_5_218 ⟨Nat.le_of_ble_eq_true rfl, Nat.le_of_ble_eq_true rfl⟩ ⟨Nat.le_of_ble_eq_true rfl, Nat.le_of_ble_eq_true rfl⟩ rfl hl.1 rfl (Nat.le_of_ble_eq_true rfl) dX10_unit_38 (fun o w' H locs hp hB => ?_)
      obtain ⟨q39, q40, rfl, hf43, hw9⟩ := hp
      replace hB : Bd κ A s (lA κ q40 (((z).toNatClampNeg) * 5) F41 :: gO q39 ((z).toNatClampNeg) ((z).toNatClampNeg) q40 :: mw κ a r f (va_up q 3 t35) (tb a) w) H locs := by rw [hw9] at hB; exact hB
      refine W.eq (g2 := F0 m 41 ls [.ref q39, .int y, .ref (a 0)]) rfl ?_
      obtain ⟨x44, rn46, fn47, qn48, hd49⟩ := ex4 (D_X10_lay r f (va_up q 3 t35) y ((z).toNatClampNeg) ((z).toNatClampNeg) F41)
      replace hR := bnd4_use hd49 hR
      refine call_V (n := 2) (k0 := 2) (As := [.int y, .ref q39]) (rest := []) hX hB (k_X10_lay κ l w a r f (va_up q 3 t35) y q39 q40 ((z).toNatClampNeg) ((z).toNatClampNeg) F41 hm ⟨by omega, by omega, by omega, by omega⟩ (by assumption) (by assumption) (fun k _ => sm_01 (hf43 k)) x44 rn46 fn47 qn48 hd49) ⟨rfl, by decide, by decide, by decide +kernel⟩ wm_5_200 wm_5_202 wp_29 wm_1_6 wm_5_203 ⟨Nat.le_of_ble_eq_true rfl, Nat.le_of_ble_eq_true rfl⟩ ⟨Nat.le_of_ble_eq_true rfl, Nat.le_of_ble_eq_true rfl⟩ (mw0x (a := a) (r := r) (f := f) (q := (va_up q 3 t35)) (T := tb a) (w := w) rfl) rfl rfl rfl hl.1 rfl (Nat.le_of_ble_eq_true rfl) dX10_unit_41 (fun o w' H locs hp hB => ?_)
      obtain ⟨an45, rfl, hf50, hf51, hf52, hw9⟩ := hp
      replace hB : Bd κ A s (mw κ an45 rn46 fn47 qn48 (tb an45) w) H locs := by rw [hw9] at hB; exact hB
      refine W.eq (g2 := F0 m 44 ls [.int x44]) rfl ?_
      rw [← hQ]
      exact end_i hX hB hA3 rfl rfl (by obtain ⟨rfl, rfl, rfl, rfl⟩ := pr4 hR; exact ⟨an45, rfl, (hf50.trans rfl), hf51, (hf52.trans rfl), rfl⟩) (Nat.le_of_ble_eq_true rfl) (Nat.le_of_ble_eq_true rfl) dX10_unit_44
noncomputable def D_X10_put (r : Nat → Nat) (f : Nat → Nat → Int64) (q : Nat → Int32) (y : Int32) (z : Int32) (u : Int32) (v : Int32) : Int32 × (Nat → Nat) × (Nat → Nat → Int64) × (Nat → Int32) := bnd1 (D_X10_isRow r f q y z) (fun (x1 : Int32) => (if x1 = 0 then (if v < (-20) then bnd2 (D_X10_isThrown_ (q 0) (q 1) (q 2) (q 3) 1 1) (fun (x7 : Int32) (t8 : Int32) => (0, r, f, va_up q 3 t8)) else (if v ≤ 20 then bnd2 (D_X10_isThrown_ (q 0) (q 1) (q 2) (q 3) 1 0) (fun (x13 : Int32) (t14 : Int32) => (0, r, f, va_up q 3 t14)) else bnd2 (D_X10_isThrown_ (q 0) (q 1) (q 2) (q 3) 1 1) (fun (x18 : Int32) (t19 : Int32) => (0, r, f, va_up q 3 t19)))) else bnd1 (D_X10_isColumn r f q y u) (fun (x24 : Int32) => (if x24 = 0 then (if v < (-20) then bnd2 (D_X10_isThrown_ (q 0) (q 1) (q 2) (q 3) 1 1) (fun (x30 : Int32) (t31 : Int32) => (0, r, f, va_up q 3 t31)) else (if v ≤ 20 then bnd2 (D_X10_isThrown_ (q 0) (q 1) (q 2) (q 3) 1 0) (fun (x36 : Int32) (t37 : Int32) => (0, r, f, va_up q 3 t37)) else bnd2 (D_X10_isThrown_ (q 0) (q 1) (q 2) (q 3) 1 1) (fun (x41 : Int32) (t42 : Int32) => (0, r, f, va_up q 3 t42)))) else (if v < (-20) then bnd2 (D_X10_isThrown_ (q 0) (q 1) (q 2) (q 3) 0 1) (fun (x48 : Int32) (t49 : Int32) => (0, r, f, va_up q 3 t49)) else (if v ≤ 20 then bnd2 (D_X10_isThrown_ (q 0) (q 1) (q 2) (q 3) 0 0) (fun (x54 : Int32) (t55 : Int32) => (if (lg_cmp ((f y.toNatClampNeg) (((z).toNatClampNeg) * 5 + ((u).toNatClampNeg))) ((v).toInt64)) = 0 then (0, r, va_up f y.toNatClampNeg (vp_updL (f y.toNatClampNeg) (((z).toNatClampNeg) * 5 + ((u).toNatClampNeg)) ((v).toInt64)), va_up (va_up q 3 t55) 0 (((va_up q 3 t55) 0) + 1)) else (1, r, va_up f y.toNatClampNeg (vp_updL (f y.toNatClampNeg) (((z).toNatClampNeg) * 5 + ((u).toNatClampNeg)) ((v).toInt64)), va_up (va_up q 3 t55) 0 (((va_up q 3 t55) 0) + 1)))) else bnd2 (D_X10_isThrown_ (q 0) (q 1) (q 2) (q 3) 0 1) (fun (x65 : Int32) (t66 : Int32) => (0, r, f, va_up q 3 t66))))))))
theorem D_X10_put_s {r : Nat → Nat} {f : Nat → Nat → Int64} {q : Nat → Int32} {y : Int32} {z : Int32} {u : Int32} {v : Int32} : D_X10_put r f q y z u v = bnd1 (D_X10_isRow r f q y z) (fun (x1 : Int32) => (if x1 = 0 then (if v < (-20) then bnd2 (D_X10_isThrown_ (q 0) (q 1) (q 2) (q 3) 1 1) (fun (x7 : Int32) (t8 : Int32) => (0, r, f, va_up q 3 t8)) else (if v ≤ 20 then bnd2 (D_X10_isThrown_ (q 0) (q 1) (q 2) (q 3) 1 0) (fun (x13 : Int32) (t14 : Int32) => (0, r, f, va_up q 3 t14)) else bnd2 (D_X10_isThrown_ (q 0) (q 1) (q 2) (q 3) 1 1) (fun (x18 : Int32) (t19 : Int32) => (0, r, f, va_up q 3 t19)))) else bnd1 (D_X10_isColumn r f q y u) (fun (x24 : Int32) => (if x24 = 0 then (if v < (-20) then bnd2 (D_X10_isThrown_ (q 0) (q 1) (q 2) (q 3) 1 1) (fun (x30 : Int32) (t31 : Int32) => (0, r, f, va_up q 3 t31)) else (if v ≤ 20 then bnd2 (D_X10_isThrown_ (q 0) (q 1) (q 2) (q 3) 1 0) (fun (x36 : Int32) (t37 : Int32) => (0, r, f, va_up q 3 t37)) else bnd2 (D_X10_isThrown_ (q 0) (q 1) (q 2) (q 3) 1 1) (fun (x41 : Int32) (t42 : Int32) => (0, r, f, va_up q 3 t42)))) else (if v < (-20) then bnd2 (D_X10_isThrown_ (q 0) (q 1) (q 2) (q 3) 0 1) (fun (x48 : Int32) (t49 : Int32) => (0, r, f, va_up q 3 t49)) else (if v ≤ 20 then bnd2 (D_X10_isThrown_ (q 0) (q 1) (q 2) (q 3) 0 0) (fun (x54 : Int32) (t55 : Int32) => (if (lg_cmp ((f y.toNatClampNeg) (((z).toNatClampNeg) * 5 + ((u).toNatClampNeg))) ((v).toInt64)) = 0 then (0, r, va_up f y.toNatClampNeg (vp_updL (f y.toNatClampNeg) (((z).toNatClampNeg) * 5 + ((u).toNatClampNeg)) ((v).toInt64)), va_up (va_up q 3 t55) 0 (((va_up q 3 t55) 0) + 1)) else (1, r, va_up f y.toNatClampNeg (vp_updL (f y.toNatClampNeg) (((z).toNatClampNeg) * 5 + ((u).toNatClampNeg)) ((v).toInt64)), va_up (va_up q 3 t55) 0 (((va_up q 3 t55) 0) + 1)))) else bnd2 (D_X10_isThrown_ (q 0) (q 1) (q 2) (q 3) 0 1) (fun (x65 : Int32) (t66 : Int32) => (0, r, f, va_up q 3 t66)))))))) := rfl
set_option maxHeartbeats 4000000 in
set_option maxRecDepth 100000 in
theorem k_X10_put (κ : Kt) (l : Launch) (w : va_W) (a r : Nat → Nat) (f : Nat → Nat → Int64) (q : Nat → Int32) (y : Int32) (z : Int32) (u : Int32) (v : Int32) (hm : mok r f) (o_x : Int32) (o_r' : Nat → Nat) (o_f' : Nat → Nat → Int64) (o_q' : Nat → Int32) (hR : D_X10_put r f q y z u v = (o_x, o_r', o_f', o_q')) : CM κ l yX10_put cX10_put 6 (some .int) 2 45 0 0 [.ref (a 0), .int y, .int z, .int u, .int v] (mw κ a r f q (tb a) w) (fun o w' => ∃ (a' : Nat → Nat), o = some (.int o_x) ∧ (a' 0 = a 0) ∧ (mok o_r' o_f') ∧ (o_q' 2 = q 2) ∧ w' = mw κ a' o_r' o_f' o_q' (tb a') w) := by
  refine CM_begin (plainFor_of_name (by decide)) (Nat.le_of_ble_eq_true rfl) ?_
  intro p e s m args below meth c A Q hX hnm hA3 hQ hB ls hl
  have hx := hX.1.1
  have hb := hX.1.2.1
  have hl : lv_has ls 6 [(0, .ref (a 0)), (1, .int y), (2, .int z), (3, .int u), (4, .int v)] := hl
  replace hR := (D_X10_put_s).symm.trans hR
  refine lv_aload_n hx hb dX10_put_0 rfl (lv_at hl 0 rfl) ?_
  refine lv_aload_n hx hb dX10_put_1 rfl (lv_at hl 0 rfl) ?_
  refine lv_iload_n hx hb dX10_put_2 rfl (lv_at hl 1 rfl) ?_
  refine lv_iload_n hx hb dX10_put_3 rfl (lv_at hl 2 rfl) ?_
  obtain ⟨x1, hd2⟩ := ex1 (D_X10_isRow r f q y z)
  replace hR := bnd1_use hd2 hR
  refine call_V (n := 2) (k0 := 0) (As := [.int y, .int z]) (rest := [.ref (a 0)]) hX hB (k_X10_isRow κ l w a r f q y z hm x1 hd2) ⟨rfl, by decide, by decide, by decide +kernel⟩ wm_5_229 wm_5_231 wp_31 wm_1_6 wm_5_232 ⟨Nat.le_of_ble_eq_true rfl, Nat.le_of_ble_eq_true rfl⟩ ⟨Nat.le_of_ble_eq_true rfl, Nat.le_of_ble_eq_true rfl⟩ (mw0x (a := a) (r := r) (f := f) (q := q) (T := tb a) (w := w) rfl) rfl rfl rfl hl.1 rfl (Nat.le_of_ble_eq_true rfl) dX10_put_4 (fun o w' H locs hp hB => ?_)
  obtain ⟨rfl, hf3, hw9⟩ := hp
  replace hB : Bd κ A s (mw κ a r f q (tb a) w) H locs := by rw [hw9] at hB; exact hB
  rcases hf3 with rfl | ⟨rfl, hz4a, hz4b, hz4c, hz4d⟩
  · replace hR := ifp rfl hR
    refine W.eq (g2 := F0 m 7 ls [.int 0, .ref (a 0)]) rfl ?_
    refine lv_if_eq (tgt := 19) hx hb dX10_put_7 (by decide) (fun _ => ?_) (fun c5 => False.elim (by revert c5; decide))
    refine lv_iconst (v := 1) hx hb dX10_put_19 (by decide) ?_
    refine lv_goto (tgt := 24) hx hb dX10_put_20 (by decide) ?_
    refine lv_iload hx hb dX10_put_24 (lv_at hl 4 rfl) ?_
    refine lv_bipush (v := (-20)) hx hb dX10_put_26 (by decide) ?_
    refine lv_icmp_lt (tgt := 38) hx hb dX10_put_28 (by decide) (fun c6 => ?_) (fun c6 => ?_)
    · replace hR := ifp c6 hR
      refine lv_iconst (v := 1) hx hb dX10_put_38 (by decide) ?_
      refine lv_goto (tgt := 43) hx hb dX10_put_39 (by decide) ?_
      obtain ⟨x7, t8, hd9⟩ := ex2 (D_X10_isThrown_ (q 0) (q 1) (q 2) (q 3) 1 1)
      replace hR := bnd2_use hd9 hR
      refine call_V (n := 2) (k0 := 0) (As := [.int 1, .int 1]) (rest := []) hX hB (k_X10_isThrown_ κ l (mw κ a r f q (tb a) w) 0 (a 0) (a 1) (q 0) (q 1) (q 2) (q 3) 1 1 (mw0x (a := a) (r := r) (f := f) (q := q) (T := tb a) (w := w) rfl) x7 t8 hd9) ⟨rfl, by decide, by decide, by decide +kernel⟩ wm_5_192 wm_5_194 wp_27 wm_1_6 wm_5_195 ⟨Nat.le_of_ble_eq_true rfl, Nat.le_of_ble_eq_true rfl⟩ ⟨Nat.le_of_ble_eq_true rfl, Nat.le_of_ble_eq_true rfl⟩ (mw0x (a := a) (r := r) (f := f) (q := q) (T := tb a) (w := w) rfl) rfl rfl rfl hl.1 rfl (Nat.le_of_ble_eq_true rfl) dX10_put_43 (fun o w' H locs hp hB => ?_)
      obtain ⟨rfl, hf10, hw9⟩ := hp
      replace hB : Bd κ A s (mw κ a r f (va_up q 3 t8) (tb a) w) H locs := by exact Bd_eq (mwQ3x rfl _) (by rw [hw9] at hB; exact hB)
      obtain rfl : x7 = 1 := hf10.trans (by decide)
      refine W.eq (g2 := F0 m 46 ls [.int 1]) rfl ?_
      refine lv_if_eq (tgt := 51) hx hb dX10_put_46 (by decide) (fun c11 => False.elim (by revert c11; decide)) (fun _ => ?_)
      refine lv_iconst (v := 0) hx hb dX10_put_49 (by decide) ?_
      rw [← hQ]
      exact end_i hX hB hA3 rfl rfl (by obtain ⟨rfl, rfl, rfl, rfl⟩ := pr4 hR; exact ⟨a, rfl, rfl, hm, rfl, rfl⟩) (Nat.le_of_ble_eq_true rfl) (Nat.le_of_ble_eq_true rfl) dX10_put_50
    · replace hR := ifn c6 hR
      refine lv_iload hx hb dX10_put_31 (lv_at hl 4 rfl) ?_
      refine lv_bipush (v := 20) hx hb dX10_put_33 (by decide) ?_
      refine lv_icmp_le (tgt := 42) hx hb dX10_put_35 (by decide) (fun c12 => ?_) (fun c12 => ?_)
      · replace hR := ifp c12 hR
        refine lv_iconst (v := 0) hx hb dX10_put_42 (by decide) ?_
        obtain ⟨x13, t14, hd15⟩ := ex2 (D_X10_isThrown_ (q 0) (q 1) (q 2) (q 3) 1 0)
        replace hR := bnd2_use hd15 hR
        refine call_V (n := 2) (k0 := 0) (As := [.int 1, .int 0]) (rest := []) hX hB (k_X10_isThrown_ κ l (mw κ a r f q (tb a) w) 0 (a 0) (a 1) (q 0) (q 1) (q 2) (q 3) 1 0 (mw0x (a := a) (r := r) (f := f) (q := q) (T := tb a) (w := w) rfl) x13 t14 hd15) ⟨rfl, by decide, by decide, by decide +kernel⟩ wm_5_192 wm_5_194 wp_27 wm_1_6 wm_5_195 ⟨Nat.le_of_ble_eq_true rfl, Nat.le_of_ble_eq_true rfl⟩ ⟨Nat.le_of_ble_eq_true rfl, Nat.le_of_ble_eq_true rfl⟩ (mw0x (a := a) (r := r) (f := f) (q := q) (T := tb a) (w := w) rfl) rfl rfl rfl hl.1 rfl (Nat.le_of_ble_eq_true rfl) dX10_put_43 (fun o w' H locs hp hB => ?_)
        obtain ⟨rfl, hf16, hw9⟩ := hp
        replace hB : Bd κ A s (mw κ a r f (va_up q 3 t14) (tb a) w) H locs := by exact Bd_eq (mwQ3x rfl _) (by rw [hw9] at hB; exact hB)
        obtain rfl : x13 = 1 := hf16.trans (by decide)
        refine W.eq (g2 := F0 m 46 ls [.int 1]) rfl ?_
        refine lv_if_eq (tgt := 51) hx hb dX10_put_46 (by decide) (fun c17 => False.elim (by revert c17; decide)) (fun _ => ?_)
        refine lv_iconst (v := 0) hx hb dX10_put_49 (by decide) ?_
        rw [← hQ]
        exact end_i hX hB hA3 rfl rfl (by obtain ⟨rfl, rfl, rfl, rfl⟩ := pr4 hR; exact ⟨a, rfl, rfl, hm, rfl, rfl⟩) (Nat.le_of_ble_eq_true rfl) (Nat.le_of_ble_eq_true rfl) dX10_put_50
      · replace hR := ifn c12 hR
        refine lv_iconst (v := 1) hx hb dX10_put_38 (by decide) ?_
        refine lv_goto (tgt := 43) hx hb dX10_put_39 (by decide) ?_
        obtain ⟨x18, t19, hd20⟩ := ex2 (D_X10_isThrown_ (q 0) (q 1) (q 2) (q 3) 1 1)
        replace hR := bnd2_use hd20 hR
        refine call_V (n := 2) (k0 := 0) (As := [.int 1, .int 1]) (rest := []) hX hB (k_X10_isThrown_ κ l (mw κ a r f q (tb a) w) 0 (a 0) (a 1) (q 0) (q 1) (q 2) (q 3) 1 1 (mw0x (a := a) (r := r) (f := f) (q := q) (T := tb a) (w := w) rfl) x18 t19 hd20) ⟨rfl, by decide, by decide, by decide +kernel⟩ wm_5_192 wm_5_194 wp_27 wm_1_6 wm_5_195 ⟨Nat.le_of_ble_eq_true rfl, Nat.le_of_ble_eq_true rfl⟩ ⟨Nat.le_of_ble_eq_true rfl, Nat.le_of_ble_eq_true rfl⟩ (mw0x (a := a) (r := r) (f := f) (q := q) (T := tb a) (w := w) rfl) rfl rfl rfl hl.1 rfl (Nat.le_of_ble_eq_true rfl) dX10_put_43 (fun o w' H locs hp hB => ?_)
        obtain ⟨rfl, hf21, hw9⟩ := hp
        replace hB : Bd κ A s (mw κ a r f (va_up q 3 t19) (tb a) w) H locs := by exact Bd_eq (mwQ3x rfl _) (by rw [hw9] at hB; exact hB)
        obtain rfl : x18 = 1 := hf21.trans (by decide)
        refine W.eq (g2 := F0 m 46 ls [.int 1]) rfl ?_
        refine lv_if_eq (tgt := 51) hx hb dX10_put_46 (by decide) (fun c22 => False.elim (by revert c22; decide)) (fun _ => ?_)
        refine lv_iconst (v := 0) hx hb dX10_put_49 (by decide) ?_
        rw [← hQ]
        exact end_i hX hB hA3 rfl rfl (by obtain ⟨rfl, rfl, rfl, rfl⟩ := pr4 hR; exact ⟨a, rfl, rfl, hm, rfl, rfl⟩) (Nat.le_of_ble_eq_true rfl) (Nat.le_of_ble_eq_true rfl) dX10_put_50
  · replace hR := ifn (by decide) hR
    refine W.eq (g2 := F0 m 7 ls [.int 1, .ref (a 0)]) rfl ?_
    refine lv_if_eq (tgt := 19) hx hb dX10_put_7 (by decide) (fun c23 => False.elim (by revert c23; decide)) (fun _ => ?_)
    refine lv_aload_n hx hb dX10_put_10 rfl (lv_at hl 0 rfl) ?_
    refine lv_iload_n hx hb dX10_put_11 rfl (lv_at hl 1 rfl) ?_
    refine lv_iload_n hx hb dX10_put_12 rfl (lv_at hl 3 rfl) ?_
    obtain ⟨x24, hd25⟩ := ex1 (D_X10_isColumn r f q y u)
    replace hR := bnd1_use hd25 hR
    refine call_V (n := 2) (k0 := 0) (As := [.int y, .int u]) (rest := [.ref (a 0)]) hX hB (k_X10_isColumn κ l w a r f q y u hm x24 hd25) ⟨rfl, by decide, by decide, by decide +kernel⟩ wm_5_233 wm_5_235 wp_32 wm_1_6 wm_5_236 ⟨Nat.le_of_ble_eq_true rfl, Nat.le_of_ble_eq_true rfl⟩ ⟨Nat.le_of_ble_eq_true rfl, Nat.le_of_ble_eq_true rfl⟩ (mw0x (a := a) (r := r) (f := f) (q := q) (T := tb a) (w := w) rfl) rfl rfl rfl hl.1 rfl (Nat.le_of_ble_eq_true rfl) dX10_put_13 (fun o w' H locs hp hB => ?_)
    obtain ⟨rfl, hf26, hw9⟩ := hp
    replace hB : Bd κ A s (mw κ a r f q (tb a) w) H locs := by rw [hw9] at hB; exact hB
    rcases hf26 with rfl | ⟨rfl, hz27a, hz27b, hz27c, hz27d⟩
    · replace hR := ifp rfl hR
      refine W.eq (g2 := F0 m 16 ls [.int 0, .ref (a 0)]) rfl ?_
      refine lv_if_ne (tgt := 23) hx hb dX10_put_16 (by decide) (fun c28 => False.elim (by revert c28; decide)) (fun _ => ?_)
      refine lv_iconst (v := 1) hx hb dX10_put_19 (by decide) ?_
      refine lv_goto (tgt := 24) hx hb dX10_put_20 (by decide) ?_
      refine lv_iload hx hb dX10_put_24 (lv_at hl 4 rfl) ?_
      refine lv_bipush (v := (-20)) hx hb dX10_put_26 (by decide) ?_
      refine lv_icmp_lt (tgt := 38) hx hb dX10_put_28 (by decide) (fun c29 => ?_) (fun c29 => ?_)
      · replace hR := ifp c29 hR
        refine lv_iconst (v := 1) hx hb dX10_put_38 (by decide) ?_
        refine lv_goto (tgt := 43) hx hb dX10_put_39 (by decide) ?_
        obtain ⟨x30, t31, hd32⟩ := ex2 (D_X10_isThrown_ (q 0) (q 1) (q 2) (q 3) 1 1)
        replace hR := bnd2_use hd32 hR
        refine call_V (n := 2) (k0 := 0) (As := [.int 1, .int 1]) (rest := []) hX hB (k_X10_isThrown_ κ l (mw κ a r f q (tb a) w) 0 (a 0) (a 1) (q 0) (q 1) (q 2) (q 3) 1 1 (mw0x (a := a) (r := r) (f := f) (q := q) (T := tb a) (w := w) rfl) x30 t31 hd32) ⟨rfl, by decide, by decide, by decide +kernel⟩ wm_5_192 wm_5_194 wp_27 wm_1_6 wm_5_195 ⟨Nat.le_of_ble_eq_true rfl, Nat.le_of_ble_eq_true rfl⟩ ⟨Nat.le_of_ble_eq_true rfl, Nat.le_of_ble_eq_true rfl⟩ (mw0x (a := a) (r := r) (f := f) (q := q) (T := tb a) (w := w) rfl) rfl rfl rfl hl.1 rfl (Nat.le_of_ble_eq_true rfl) dX10_put_43 (fun o w' H locs hp hB => ?_)
        obtain ⟨rfl, hf33, hw9⟩ := hp
        replace hB : Bd κ A s (mw κ a r f (va_up q 3 t31) (tb a) w) H locs := by exact Bd_eq (mwQ3x rfl _) (by rw [hw9] at hB; exact hB)
        obtain rfl : x30 = 1 := hf33.trans (by decide)
        refine W.eq (g2 := F0 m 46 ls [.int 1]) rfl ?_
        refine lv_if_eq (tgt := 51) hx hb dX10_put_46 (by decide) (fun c34 => False.elim (by revert c34; decide)) (fun _ => ?_)
        refine lv_iconst (v := 0) hx hb dX10_put_49 (by decide) ?_
        rw [← hQ]
        exact end_i hX hB hA3 rfl rfl (by obtain ⟨rfl, rfl, rfl, rfl⟩ := pr4 hR; exact ⟨a, rfl, rfl, hm, rfl, rfl⟩) (Nat.le_of_ble_eq_true rfl) (Nat.le_of_ble_eq_true rfl) dX10_put_50
      · replace hR := ifn c29 hR
        refine lv_iload hx hb dX10_put_31 (lv_at hl 4 rfl) ?_
        refine lv_bipush (v := 20) hx hb dX10_put_33 (by decide) ?_
        refine lv_icmp_le (tgt := 42) hx hb dX10_put_35 (by decide) (fun c35 => ?_) (fun c35 => ?_)
        · replace hR := ifp c35 hR
          refine lv_iconst (v := 0) hx hb dX10_put_42 (by decide) ?_
          obtain ⟨x36, t37, hd38⟩ := ex2 (D_X10_isThrown_ (q 0) (q 1) (q 2) (q 3) 1 0)
          replace hR := bnd2_use hd38 hR
          refine call_V (n := 2) (k0 := 0) (As := [.int 1, .int 0]) (rest := []) hX hB (k_X10_isThrown_ κ l (mw κ a r f q (tb a) w) 0 (a 0) (a 1) (q 0) (q 1) (q 2) (q 3) 1 0 (mw0x (a := a) (r := r) (f := f) (q := q) (T := tb a) (w := w) rfl) x36 t37 hd38) ⟨rfl, by decide, by decide, by decide +kernel⟩ wm_5_192 wm_5_194 wp_27 wm_1_6 wm_5_195 ⟨Nat.le_of_ble_eq_true rfl, Nat.le_of_ble_eq_true rfl⟩ ⟨Nat.le_of_ble_eq_true rfl, Nat.le_of_ble_eq_true rfl⟩ (mw0x (a := a) (r := r) (f := f) (q := q) (T := tb a) (w := w) rfl) rfl rfl rfl hl.1 rfl (Nat.le_of_ble_eq_true rfl) dX10_put_43 (fun o w' H locs hp hB => ?_)
          obtain ⟨rfl, hf39, hw9⟩ := hp
          replace hB : Bd κ A s (mw κ a r f (va_up q 3 t37) (tb a) w) H locs := by exact Bd_eq (mwQ3x rfl _) (by rw [hw9] at hB; exact hB)
          obtain rfl : x36 = 1 := hf39.trans (by decide)
          refine W.eq (g2 := F0 m 46 ls [.int 1]) rfl ?_
          refine lv_if_eq (tgt := 51) hx hb dX10_put_46 (by decide) (fun c40 => False.elim (by revert c40; decide)) (fun _ => ?_)
          refine lv_iconst (v := 0) hx hb dX10_put_49 (by decide) ?_
          rw [← hQ]
          exact end_i hX hB hA3 rfl rfl (by obtain ⟨rfl, rfl, rfl, rfl⟩ := pr4 hR; exact ⟨a, rfl, rfl, hm, rfl, rfl⟩) (Nat.le_of_ble_eq_true rfl) (Nat.le_of_ble_eq_true rfl) dX10_put_50
        · replace hR := ifn c35 hR
          refine lv_iconst (v := 1) hx hb dX10_put_38 (by decide) ?_
          refine lv_goto (tgt := 43) hx hb dX10_put_39 (by decide) ?_
          obtain ⟨x41, t42, hd43⟩ := ex2 (D_X10_isThrown_ (q 0) (q 1) (q 2) (q 3) 1 1)
          replace hR := bnd2_use hd43 hR
          refine call_V (n := 2) (k0 := 0) (As := [.int 1, .int 1]) (rest := []) hX hB (k_X10_isThrown_ κ l (mw κ a r f q (tb a) w) 0 (a 0) (a 1) (q 0) (q 1) (q 2) (q 3) 1 1 (mw0x (a := a) (r := r) (f := f) (q := q) (T := tb a) (w := w) rfl) x41 t42 hd43) ⟨rfl, by decide, by decide, by decide +kernel⟩ wm_5_192 wm_5_194 wp_27 wm_1_6 wm_5_195 ⟨Nat.le_of_ble_eq_true rfl, Nat.le_of_ble_eq_true rfl⟩ ⟨Nat.le_of_ble_eq_true rfl, Nat.le_of_ble_eq_true rfl⟩ (mw0x (a := a) (r := r) (f := f) (q := q) (T := tb a) (w := w) rfl) rfl rfl rfl hl.1 rfl (Nat.le_of_ble_eq_true rfl) dX10_put_43 (fun o w' H locs hp hB => ?_)
          obtain ⟨rfl, hf44, hw9⟩ := hp
          replace hB : Bd κ A s (mw κ a r f (va_up q 3 t42) (tb a) w) H locs := by exact Bd_eq (mwQ3x rfl _) (by rw [hw9] at hB; exact hB)
          obtain rfl : x41 = 1 := hf44.trans (by decide)
          refine W.eq (g2 := F0 m 46 ls [.int 1]) rfl ?_
          refine lv_if_eq (tgt := 51) hx hb dX10_put_46 (by decide) (fun c45 => False.elim (by revert c45; decide)) (fun _ => ?_)
          refine lv_iconst (v := 0) hx hb dX10_put_49 (by decide) ?_
          rw [← hQ]
          exact end_i hX hB hA3 rfl rfl (by obtain ⟨rfl, rfl, rfl, rfl⟩ := pr4 hR; exact ⟨a, rfl, rfl, hm, rfl, rfl⟩) (Nat.le_of_ble_eq_true rfl) (Nat.le_of_ble_eq_true rfl) dX10_put_50
    · replace hR := ifn (by decide) hR
      refine W.eq (g2 := F0 m 16 ls [.int 1, .ref (a 0)]) rfl ?_
      refine lv_if_ne (tgt := 23) hx hb dX10_put_16 (by decide) (fun _ => ?_) (fun c46 => False.elim (by revert c46; decide))
      refine lv_iconst (v := 0) hx hb dX10_put_23 (by decide) ?_
      refine lv_iload hx hb dX10_put_24 (lv_at hl 4 rfl) ?_
      refine lv_bipush (v := (-20)) hx hb dX10_put_26 (by decide) ?_
      refine lv_icmp_lt (tgt := 38) hx hb dX10_put_28 (by decide) (fun c47 => ?_) (fun c47 => ?_)
      · replace hR := ifp c47 hR
        refine lv_iconst (v := 1) hx hb dX10_put_38 (by decide) ?_
        refine lv_goto (tgt := 43) hx hb dX10_put_39 (by decide) ?_
        obtain ⟨x48, t49, hd50⟩ := ex2 (D_X10_isThrown_ (q 0) (q 1) (q 2) (q 3) 0 1)
        replace hR := bnd2_use hd50 hR
        refine call_V (n := 2) (k0 := 0) (As := [.int 0, .int 1]) (rest := []) hX hB (k_X10_isThrown_ κ l (mw κ a r f q (tb a) w) 0 (a 0) (a 1) (q 0) (q 1) (q 2) (q 3) 0 1 (mw0x (a := a) (r := r) (f := f) (q := q) (T := tb a) (w := w) rfl) x48 t49 hd50) ⟨rfl, by decide, by decide, by decide +kernel⟩ wm_5_192 wm_5_194 wp_27 wm_1_6 wm_5_195 ⟨Nat.le_of_ble_eq_true rfl, Nat.le_of_ble_eq_true rfl⟩ ⟨Nat.le_of_ble_eq_true rfl, Nat.le_of_ble_eq_true rfl⟩ (mw0x (a := a) (r := r) (f := f) (q := q) (T := tb a) (w := w) rfl) rfl rfl rfl hl.1 rfl (Nat.le_of_ble_eq_true rfl) dX10_put_43 (fun o w' H locs hp hB => ?_)
        obtain ⟨rfl, hf51, hw9⟩ := hp
        replace hB : Bd κ A s (mw κ a r f (va_up q 3 t49) (tb a) w) H locs := by exact Bd_eq (mwQ3x rfl _) (by rw [hw9] at hB; exact hB)
        obtain rfl : x48 = 1 := hf51.trans (by decide)
        refine W.eq (g2 := F0 m 46 ls [.int 1]) rfl ?_
        refine lv_if_eq (tgt := 51) hx hb dX10_put_46 (by decide) (fun c52 => False.elim (by revert c52; decide)) (fun _ => ?_)
        refine lv_iconst (v := 0) hx hb dX10_put_49 (by decide) ?_
        rw [← hQ]
        exact end_i hX hB hA3 rfl rfl (by obtain ⟨rfl, rfl, rfl, rfl⟩ := pr4 hR; exact ⟨a, rfl, rfl, hm, rfl, rfl⟩) (Nat.le_of_ble_eq_true rfl) (Nat.le_of_ble_eq_true rfl) dX10_put_50
      · replace hR := ifn c47 hR
        refine lv_iload hx hb dX10_put_31 (lv_at hl 4 rfl) ?_
        refine lv_bipush (v := 20) hx hb dX10_put_33 (by decide) ?_
        refine lv_icmp_le (tgt := 42) hx hb dX10_put_35 (by decide) (fun c53 => ?_) (fun c53 => ?_)
        · replace hR := ifp c53 hR
          refine lv_iconst (v := 0) hx hb dX10_put_42 (by decide) ?_
          obtain ⟨x54, t55, hd56⟩ := ex2 (D_X10_isThrown_ (q 0) (q 1) (q 2) (q 3) 0 0)
          replace hR := bnd2_use hd56 hR
          refine call_V (n := 2) (k0 := 0) (As := [.int 0, .int 0]) (rest := []) hX hB (k_X10_isThrown_ κ l (mw κ a r f q (tb a) w) 0 (a 0) (a 1) (q 0) (q 1) (q 2) (q 3) 0 0 (mw0x (a := a) (r := r) (f := f) (q := q) (T := tb a) (w := w) rfl) x54 t55 hd56) ⟨rfl, by decide, by decide, by decide +kernel⟩ wm_5_192 wm_5_194 wp_27 wm_1_6 wm_5_195 ⟨Nat.le_of_ble_eq_true rfl, Nat.le_of_ble_eq_true rfl⟩ ⟨Nat.le_of_ble_eq_true rfl, Nat.le_of_ble_eq_true rfl⟩ (mw0x (a := a) (r := r) (f := f) (q := q) (T := tb a) (w := w) rfl) rfl rfl rfl hl.1 rfl (Nat.le_of_ble_eq_true rfl) dX10_put_43 (fun o w' H locs hp hB => ?_)
          obtain ⟨rfl, hf57, hw9⟩ := hp
          replace hB : Bd κ A s (mw κ a r f (va_up q 3 t55) (tb a) w) H locs := by exact Bd_eq (mwQ3x rfl _) (by rw [hw9] at hB; exact hB)
          obtain rfl : x54 = 0 := hf57.trans (by decide)
          refine W.eq (g2 := F0 m 46 ls [.int 0]) rfl ?_
          refine lv_if_eq (tgt := 51) hx hb dX10_put_46 (by decide) (fun _ => ?_) (fun c58 => False.elim (by revert c58; decide))
          refine lv_aload_n hx hb dX10_put_51 rfl (lv_at hl 0 rfl) ?_
          refine gf (k0 := 0) hX hB (mw0x (a := a) (r := r) (f := f) (q := (va_up q 3 t55)) (T := tb a) (w := w) rfl) rfl in10 0 (by decide) wm_5_162 rfl rfl dX10_put_52 ?_
          refine lv_iload_n hx hb dX10_put_55 rfl (lv_at hl 1 rfl) ?_
          refine aaldM (k0 := 1) hX hB (mw1 (a := a) (r := r) (f := f) (q := (va_up q 3 t55)) (T := tb a) (w := w)) (vp_in_mk (by assumption) (by assumption)) rfl dX10_put_56 ?_
          have hb59 := mok_r hm y.toNatClampNeg (by omega)
          refine lv_iload_n hx hb dX10_put_57 rfl (lv_at hl 2 rfl) ?_
          refine lv_iload_n hx hb dX10_put_58 rfl (lv_at hl 3 rfl) ?_
          refine call_V (n := 2) (k0 := (2 + 2 * y.toNatClampNeg)) (As := [.int z, .int u]) (rest := []) hX hB (k_X7_at κ l (mw κ a r f (va_up q 3 t55) (tb a) w) (2 + 2 * y.toNatClampNeg) (3 + 2 * y.toNatClampNeg) (a (2 + 2 * y.toNatClampNeg)) (a (3 + 2 * y.toNatClampNeg)) (r (2 * y.toNatClampNeg)) (r (2 * y.toNatClampNeg + 1)) (f y.toNatClampNeg) z ((z).toNatClampNeg) u ((u).toNatClampNeg) (mwG (i := y.toNatClampNeg) (a := a) (r := r) (f := f) (q := (va_up q 3 t55)) (T := tb a) (w := w) (by omega)) (mwA (i := y.toNatClampNeg) (a := a) (r := r) (f := f) (q := (va_up q 3 t55)) (T := tb a) (w := w) (by omega)) (mok_shp (i := y.toNatClampNeg) hm (by omega)) (nI_rep (by assumption)) (nI_rep (by assumption)) (by omega)) ⟨rfl, by decide, by decide, by decide +kernel⟩ wm_5_237 wm_5_238 wm_5_239 wm_1_7 wm_6_0 ⟨Nat.le_of_ble_eq_true rfl, Nat.le_of_ble_eq_true rfl⟩ ⟨Nat.le_of_ble_eq_true rfl, Nat.le_of_ble_eq_true rfl⟩ (mwG (i := y.toNatClampNeg) (a := a) (r := r) (f := f) (q := (va_up q 3 t55)) (T := tb a) (w := w) (by omega)) rfl rfl rfl hl.1 rfl (Nat.le_of_ble_eq_true rfl) dX10_put_59 (fun o w' H locs hp hB => ?_)
          obtain ⟨rfl, hw9⟩ := hp
          replace hB : Bd κ A s (mw κ a r f (va_up q 3 t55) (tb a) w) H locs := by rw [hw9] at hB; exact hB
          refine W.eq (g2 := F0 m 62 ls [.long ((f y.toNatClampNeg) (((z).toNatClampNeg) * 5 + ((u).toNatClampNeg)))]) rfl ?_
          refine lv_iload hx hb dX10_put_62 (lv_at hl 4 rfl) ?_
          refine lv_i2l hx hb dX10_put_64 rfl ?_
          refine W.lcmp hx hb dX10_put_65 ?_
          refine lv_if_eq (tgt := 73) hx hb dX10_put_66 (by decide) (fun c60 => ?_) (fun c60 => ?_)
          · replace hR := ifp c60 hR
            refine lv_iconst (v := 0) hx hb dX10_put_73 (by decide) ?_
            refine lv_istore (lv' := [(5, .int 0), (0, .ref (a 0)), (1, .int y), (2, .int z), (3, .int u), (4, .int v)]) hx hb dX10_put_74 hl (by decide) rfl (fun ls hl => ?_)
            refine lv_aload_n hx hb dX10_put_76 rfl (lv_at hl 1 rfl) ?_
            refine gf (k0 := 0) hX hB (mw0x (a := a) (r := r) (f := f) (q := (va_up q 3 t55)) (T := tb a) (w := w) rfl) rfl in10 0 (by decide) wm_5_162 rfl rfl dX10_put_77 ?_
            refine lv_iload_n hx hb dX10_put_80 rfl (lv_at hl 2 rfl) ?_
            refine aaldM (k0 := 1) hX hB (mw1 (a := a) (r := r) (f := f) (q := (va_up q 3 t55)) (T := tb a) (w := w)) (vp_in_mk (by assumption) (by assumption)) rfl dX10_put_81 ?_
            have hb61 := mok_r hm y.toNatClampNeg (by omega)
            refine lv_iload_n hx hb dX10_put_82 rfl (lv_at hl 3 rfl) ?_
            refine lv_iload_n hx hb dX10_put_83 rfl (lv_at hl 4 rfl) ?_
            refine lv_iload hx hb dX10_put_84 (lv_at hl 5 rfl) ?_
            refine lv_i2l hx hb dX10_put_86 rfl ?_
            refine call_V (n := 3) (k0 := (2 + 2 * y.toNatClampNeg)) (As := [.int z, .int u, .long ((v).toInt64)]) (rest := []) hX hB (k_X7_put κ l (mw κ a r f (va_up q 3 t55) (tb a) w) (2 + 2 * y.toNatClampNeg) (3 + 2 * y.toNatClampNeg) (a (2 + 2 * y.toNatClampNeg)) (a (3 + 2 * y.toNatClampNeg)) (r (2 * y.toNatClampNeg)) (r (2 * y.toNatClampNeg + 1)) (f y.toNatClampNeg) z ((z).toNatClampNeg) u ((u).toNatClampNeg) ((v).toInt64) (mwG (i := y.toNatClampNeg) (a := a) (r := r) (f := f) (q := (va_up q 3 t55)) (T := tb a) (w := w) (by omega)) (mwA (i := y.toNatClampNeg) (a := a) (r := r) (f := f) (q := (va_up q 3 t55)) (T := tb a) (w := w) (by omega)) (mok_shp (i := y.toNatClampNeg) hm (by omega)) (nI_rep (by assumption)) (nI_rep (by assumption)) (by omega)) ⟨rfl, by decide, by decide, by decide +kernel⟩ wm_6_1 wm_5_222 wm_5_223 wm_1_7 wm_5_224 ⟨Nat.le_of_ble_eq_true rfl, Nat.le_of_ble_eq_true rfl⟩ ⟨Nat.le_of_ble_eq_true rfl, Nat.le_of_ble_eq_true rfl⟩ (mwG (i := y.toNatClampNeg) (a := a) (r := r) (f := f) (q := (va_up q 3 t55)) (T := tb a) (w := w) (by omega)) rfl rfl rfl hl.1 rfl (Nat.le_of_ble_eq_true rfl) dX10_put_87 (fun o w' H locs hp hB => ?_)
            obtain ⟨rfl, hw9⟩ := hp
            replace hB : Bd κ A s (mw κ a r (va_up f y.toNatClampNeg (vp_updL (f y.toNatClampNeg) (((z).toNatClampNeg) * 5 + ((u).toNatClampNeg)) ((v).toInt64))) (va_up q 3 t55) (tb a) w) H locs := by exact Bd_eq (mwUL (i := y.toNatClampNeg) (by omega) _) (by rw [hw9] at hB; exact hB)
            refine W.eq (g2 := F0 m 90 ls []) rfl ?_
            refine lv_aload_n hx hb dX10_put_90 rfl (lv_at hl 1 rfl) ?_
            refine lv_iload hx hb dX10_put_91 (lv_at hl 0 rfl) ?_
            refine lv_if_eq (tgt := 100) hx hb dX10_put_93 (by decide) (fun _ => ?_) (fun c62 => False.elim (by revert c62; decide))
            refine lv_iconst (v := 0) hx hb dX10_put_100 (by decide) ?_
            refine call_V (n := 1) (k0 := 0) (As := [.int 0]) (rest := []) hX hB (k_X10_told κ l (mw κ a r (va_up f y.toNatClampNeg (vp_updL (f y.toNatClampNeg) (((z).toNatClampNeg) * 5 + ((u).toNatClampNeg)) ((v).toInt64))) (va_up q 3 t55) (tb a) w) 0 (a 0) (a 1) ((va_up q 3 t55) 0) ((va_up q 3 t55) 1) ((va_up q 3 t55) 2) ((va_up q 3 t55) 3) 0 (mw0x (a := a) (r := r) (f := (va_up f y.toNatClampNeg (vp_updL (f y.toNatClampNeg) (((z).toNatClampNeg) * 5 + ((u).toNatClampNeg)) ((v).toInt64)))) (q := (va_up q 3 t55)) (T := tb a) (w := w) rfl)) ⟨rfl, by decide, by decide, by decide +kernel⟩ wm_5_208 wm_5_210 wp_30 wm_1_6 wm_5_211 ⟨Nat.le_of_ble_eq_true rfl, Nat.le_of_ble_eq_true rfl⟩ ⟨Nat.le_of_ble_eq_true rfl, Nat.le_of_ble_eq_true rfl⟩ (mw0x (a := a) (r := r) (f := (va_up f y.toNatClampNeg (vp_updL (f y.toNatClampNeg) (((z).toNatClampNeg) * 5 + ((u).toNatClampNeg)) ((v).toInt64)))) (q := (va_up q 3 t55)) (T := tb a) (w := w) rfl) rfl rfl rfl hl.1 rfl (Nat.le_of_ble_eq_true rfl) dX10_put_101 (fun o w' H locs hp hB => ?_)
            obtain ⟨rfl, hw9⟩ := hp
            replace hB : Bd κ A s (mw κ a r (va_up f y.toNatClampNeg (vp_updL (f y.toNatClampNeg) (((z).toNatClampNeg) * 5 + ((u).toNatClampNeg)) ((v).toInt64))) (va_up (va_up q 3 t55) 0 (((va_up q 3 t55) 0) + 1)) (tb a) w) H locs := by exact Bd_eq (mwQ0x rfl _) (by rw [hw9] at hB; exact hB)
            refine W.eq (g2 := F0 m 104 ls [.int 0]) rfl ?_
            rw [← hQ]
            exact end_i hX hB hA3 rfl rfl (by obtain ⟨rfl, rfl, rfl, rfl⟩ := pr4 hR; exact ⟨a, rfl, rfl, (mok_f hm (sm_upd (hm _ (by omega)).2 (sm_i (by assumption) (Int32.not_lt.mpr (by assumption))))), rfl, rfl⟩) (Nat.le_of_ble_eq_true rfl) (Nat.le_of_ble_eq_true rfl) dX10_put_104
          · replace hR := ifn c60 hR
            refine lv_iconst (v := 1) hx hb dX10_put_69 (by decide) ?_
            refine lv_goto (tgt := 74) hx hb dX10_put_70 (by decide) ?_
            refine lv_istore (lv' := [(5, .int 1), (0, .ref (a 0)), (1, .int y), (2, .int z), (3, .int u), (4, .int v)]) hx hb dX10_put_74 hl (by decide) rfl (fun ls hl => ?_)
            refine lv_aload_n hx hb dX10_put_76 rfl (lv_at hl 1 rfl) ?_
            refine gf (k0 := 0) hX hB (mw0x (a := a) (r := r) (f := f) (q := (va_up q 3 t55)) (T := tb a) (w := w) rfl) rfl in10 0 (by decide) wm_5_162 rfl rfl dX10_put_77 ?_
            refine lv_iload_n hx hb dX10_put_80 rfl (lv_at hl 2 rfl) ?_
            refine aaldM (k0 := 1) hX hB (mw1 (a := a) (r := r) (f := f) (q := (va_up q 3 t55)) (T := tb a) (w := w)) (vp_in_mk (by assumption) (by assumption)) rfl dX10_put_81 ?_
            have hb63 := mok_r hm y.toNatClampNeg (by omega)
            refine lv_iload_n hx hb dX10_put_82 rfl (lv_at hl 3 rfl) ?_
            refine lv_iload_n hx hb dX10_put_83 rfl (lv_at hl 4 rfl) ?_
            refine lv_iload hx hb dX10_put_84 (lv_at hl 5 rfl) ?_
            refine lv_i2l hx hb dX10_put_86 rfl ?_
            refine call_V (n := 3) (k0 := (2 + 2 * y.toNatClampNeg)) (As := [.int z, .int u, .long ((v).toInt64)]) (rest := []) hX hB (k_X7_put κ l (mw κ a r f (va_up q 3 t55) (tb a) w) (2 + 2 * y.toNatClampNeg) (3 + 2 * y.toNatClampNeg) (a (2 + 2 * y.toNatClampNeg)) (a (3 + 2 * y.toNatClampNeg)) (r (2 * y.toNatClampNeg)) (r (2 * y.toNatClampNeg + 1)) (f y.toNatClampNeg) z ((z).toNatClampNeg) u ((u).toNatClampNeg) ((v).toInt64) (mwG (i := y.toNatClampNeg) (a := a) (r := r) (f := f) (q := (va_up q 3 t55)) (T := tb a) (w := w) (by omega)) (mwA (i := y.toNatClampNeg) (a := a) (r := r) (f := f) (q := (va_up q 3 t55)) (T := tb a) (w := w) (by omega)) (mok_shp (i := y.toNatClampNeg) hm (by omega)) (nI_rep (by assumption)) (nI_rep (by assumption)) (by omega)) ⟨rfl, by decide, by decide, by decide +kernel⟩ wm_6_1 wm_5_222 wm_5_223 wm_1_7 wm_5_224 ⟨Nat.le_of_ble_eq_true rfl, Nat.le_of_ble_eq_true rfl⟩ ⟨Nat.le_of_ble_eq_true rfl, Nat.le_of_ble_eq_true rfl⟩ (mwG (i := y.toNatClampNeg) (a := a) (r := r) (f := f) (q := (va_up q 3 t55)) (T := tb a) (w := w) (by omega)) rfl rfl rfl hl.1 rfl (Nat.le_of_ble_eq_true rfl) dX10_put_87 (fun o w' H locs hp hB => ?_)
            obtain ⟨rfl, hw9⟩ := hp
            replace hB : Bd κ A s (mw κ a r (va_up f y.toNatClampNeg (vp_updL (f y.toNatClampNeg) (((z).toNatClampNeg) * 5 + ((u).toNatClampNeg)) ((v).toInt64))) (va_up q 3 t55) (tb a) w) H locs := by exact Bd_eq (mwUL (i := y.toNatClampNeg) (by omega) _) (by rw [hw9] at hB; exact hB)
            refine W.eq (g2 := F0 m 90 ls []) rfl ?_
            refine lv_aload_n hx hb dX10_put_90 rfl (lv_at hl 1 rfl) ?_
            refine lv_iload hx hb dX10_put_91 (lv_at hl 0 rfl) ?_
            refine lv_if_eq (tgt := 100) hx hb dX10_put_93 (by decide) (fun c64 => False.elim (by revert c64; decide)) (fun _ => ?_)
            refine lv_iconst (v := 1) hx hb dX10_put_96 (by decide) ?_
            refine lv_goto (tgt := 101) hx hb dX10_put_97 (by decide) ?_
            refine call_V (n := 1) (k0 := 0) (As := [.int 1]) (rest := []) hX hB (k_X10_told κ l (mw κ a r (va_up f y.toNatClampNeg (vp_updL (f y.toNatClampNeg) (((z).toNatClampNeg) * 5 + ((u).toNatClampNeg)) ((v).toInt64))) (va_up q 3 t55) (tb a) w) 0 (a 0) (a 1) ((va_up q 3 t55) 0) ((va_up q 3 t55) 1) ((va_up q 3 t55) 2) ((va_up q 3 t55) 3) 1 (mw0x (a := a) (r := r) (f := (va_up f y.toNatClampNeg (vp_updL (f y.toNatClampNeg) (((z).toNatClampNeg) * 5 + ((u).toNatClampNeg)) ((v).toInt64)))) (q := (va_up q 3 t55)) (T := tb a) (w := w) rfl)) ⟨rfl, by decide, by decide, by decide +kernel⟩ wm_5_208 wm_5_210 wp_30 wm_1_6 wm_5_211 ⟨Nat.le_of_ble_eq_true rfl, Nat.le_of_ble_eq_true rfl⟩ ⟨Nat.le_of_ble_eq_true rfl, Nat.le_of_ble_eq_true rfl⟩ (mw0x (a := a) (r := r) (f := (va_up f y.toNatClampNeg (vp_updL (f y.toNatClampNeg) (((z).toNatClampNeg) * 5 + ((u).toNatClampNeg)) ((v).toInt64)))) (q := (va_up q 3 t55)) (T := tb a) (w := w) rfl) rfl rfl rfl hl.1 rfl (Nat.le_of_ble_eq_true rfl) dX10_put_101 (fun o w' H locs hp hB => ?_)
            obtain ⟨rfl, hw9⟩ := hp
            replace hB : Bd κ A s (mw κ a r (va_up f y.toNatClampNeg (vp_updL (f y.toNatClampNeg) (((z).toNatClampNeg) * 5 + ((u).toNatClampNeg)) ((v).toInt64))) (va_up (va_up q 3 t55) 0 (((va_up q 3 t55) 0) + 1)) (tb a) w) H locs := by exact Bd_eq (mwQ0x rfl _) (by rw [hw9] at hB; exact hB)
            refine W.eq (g2 := F0 m 104 ls [.int 1]) rfl ?_
            rw [← hQ]
            exact end_i hX hB hA3 rfl rfl (by obtain ⟨rfl, rfl, rfl, rfl⟩ := pr4 hR; exact ⟨a, rfl, rfl, (mok_f hm (sm_upd (hm _ (by omega)).2 (sm_i (by assumption) (Int32.not_lt.mpr (by assumption))))), rfl, rfl⟩) (Nat.le_of_ble_eq_true rfl) (Nat.le_of_ble_eq_true rfl) dX10_put_104
        · replace hR := ifn c53 hR
          refine lv_iconst (v := 1) hx hb dX10_put_38 (by decide) ?_
          refine lv_goto (tgt := 43) hx hb dX10_put_39 (by decide) ?_
          obtain ⟨x65, t66, hd67⟩ := ex2 (D_X10_isThrown_ (q 0) (q 1) (q 2) (q 3) 0 1)
          replace hR := bnd2_use hd67 hR
          refine call_V (n := 2) (k0 := 0) (As := [.int 0, .int 1]) (rest := []) hX hB (k_X10_isThrown_ κ l (mw κ a r f q (tb a) w) 0 (a 0) (a 1) (q 0) (q 1) (q 2) (q 3) 0 1 (mw0x (a := a) (r := r) (f := f) (q := q) (T := tb a) (w := w) rfl) x65 t66 hd67) ⟨rfl, by decide, by decide, by decide +kernel⟩ wm_5_192 wm_5_194 wp_27 wm_1_6 wm_5_195 ⟨Nat.le_of_ble_eq_true rfl, Nat.le_of_ble_eq_true rfl⟩ ⟨Nat.le_of_ble_eq_true rfl, Nat.le_of_ble_eq_true rfl⟩ (mw0x (a := a) (r := r) (f := f) (q := q) (T := tb a) (w := w) rfl) rfl rfl rfl hl.1 rfl (Nat.le_of_ble_eq_true rfl) dX10_put_43 (fun o w' H locs hp hB => ?_)
          obtain ⟨rfl, hf68, hw9⟩ := hp
          replace hB : Bd κ A s (mw κ a r f (va_up q 3 t66) (tb a) w) H locs := by exact Bd_eq (mwQ3x rfl _) (by rw [hw9] at hB; exact hB)
          obtain rfl : x65 = 1 := hf68.trans (by decide)
          refine W.eq (g2 := F0 m 46 ls [.int 1]) rfl ?_
          refine lv_if_eq (tgt := 51) hx hb dX10_put_46 (by decide) (fun c69 => False.elim (by revert c69; decide)) (fun _ => ?_)
          refine lv_iconst (v := 0) hx hb dX10_put_49 (by decide) ?_
          rw [← hQ]
          exact end_i hX hB hA3 rfl rfl (by obtain ⟨rfl, rfl, rfl, rfl⟩ := pr4 hR; exact ⟨a, rfl, rfl, hm, rfl, rfl⟩) (Nat.le_of_ble_eq_true rfl) (Nat.le_of_ble_eq_true rfl) dX10_put_50
noncomputable def D_X10_copy (r : Nat → Nat) (f : Nat → Nat → Int64) (q : Nat → Int32) (y : Int32) (z : Int32) : Int32 × (Nat → Nat) × (Nat → Nat → Int64) × (Nat → Int32) := bnd1 (D_X10_isTable y) (fun (z1 : Int32) => (if z1 = 0 then bnd2 (D_X10_isThrown__ (q 0) (q 1) (q 2) (q 3) 1) (fun (x6 : Int32) (t7 : Int32) => (0, r, f, va_up q 3 t7)) else bnd1 (D_X10_isTable z) (fun (z12 : Int32) => (if z12 = 0 then bnd2 (D_X10_isThrown__ (q 0) (q 1) (q 2) (q 3) 1) (fun (x17 : Int32) (t18 : Int32) => (0, r, f, va_up q 3 t18)) else bnd2 (D_X10_isThrown__ (q 0) (q 1) (q 2) (q 3) 0) (fun (x23 : Int32) (t24 : Int32) => bnd1 (D_X7_isSame (r (2 * y.toNatClampNeg)) (r (2 * y.toNatClampNeg + 1)) (f y.toNatClampNeg) (r (2 * z.toNatClampNeg)) (r (2 * z.toNatClampNeg + 1)) (f z.toNatClampNeg)) (fun (x30 : Int32) => (if x30 = 0 then bnd1 (D_X7_copy (r (2 * y.toNatClampNeg)) (r (2 * y.toNatClampNeg + 1)) (f y.toNatClampNeg)) (fun (F37 : Nat → Int64) => (1, va_up (va_up r (2 * z.toNatClampNeg) (r (2 * y.toNatClampNeg))) (2 * z.toNatClampNeg + 1) (r (2 * y.toNatClampNeg + 1)), va_up f z.toNatClampNeg F37, va_up (va_up q 3 t24) 0 (((va_up q 3 t24) 0) + 1))) else bnd1 (D_X7_copy (r (2 * y.toNatClampNeg)) (r (2 * y.toNatClampNeg + 1)) (f y.toNatClampNeg)) (fun (F48 : Nat → Int64) => (0, va_up (va_up r (2 * z.toNatClampNeg) (r (2 * y.toNatClampNeg))) (2 * z.toNatClampNeg + 1) (r (2 * y.toNatClampNeg + 1)), va_up f z.toNatClampNeg F48, va_up (va_up q 3 t24) 0 (((va_up q 3 t24) 0) + 1))))))))))
theorem D_X10_copy_s {r : Nat → Nat} {f : Nat → Nat → Int64} {q : Nat → Int32} {y : Int32} {z : Int32} : D_X10_copy r f q y z = bnd1 (D_X10_isTable y) (fun (z1 : Int32) => (if z1 = 0 then bnd2 (D_X10_isThrown__ (q 0) (q 1) (q 2) (q 3) 1) (fun (x6 : Int32) (t7 : Int32) => (0, r, f, va_up q 3 t7)) else bnd1 (D_X10_isTable z) (fun (z12 : Int32) => (if z12 = 0 then bnd2 (D_X10_isThrown__ (q 0) (q 1) (q 2) (q 3) 1) (fun (x17 : Int32) (t18 : Int32) => (0, r, f, va_up q 3 t18)) else bnd2 (D_X10_isThrown__ (q 0) (q 1) (q 2) (q 3) 0) (fun (x23 : Int32) (t24 : Int32) => bnd1 (D_X7_isSame (r (2 * y.toNatClampNeg)) (r (2 * y.toNatClampNeg + 1)) (f y.toNatClampNeg) (r (2 * z.toNatClampNeg)) (r (2 * z.toNatClampNeg + 1)) (f z.toNatClampNeg)) (fun (x30 : Int32) => (if x30 = 0 then bnd1 (D_X7_copy (r (2 * y.toNatClampNeg)) (r (2 * y.toNatClampNeg + 1)) (f y.toNatClampNeg)) (fun (F37 : Nat → Int64) => (1, va_up (va_up r (2 * z.toNatClampNeg) (r (2 * y.toNatClampNeg))) (2 * z.toNatClampNeg + 1) (r (2 * y.toNatClampNeg + 1)), va_up f z.toNatClampNeg F37, va_up (va_up q 3 t24) 0 (((va_up q 3 t24) 0) + 1))) else bnd1 (D_X7_copy (r (2 * y.toNatClampNeg)) (r (2 * y.toNatClampNeg + 1)) (f y.toNatClampNeg)) (fun (F48 : Nat → Int64) => (0, va_up (va_up r (2 * z.toNatClampNeg) (r (2 * y.toNatClampNeg))) (2 * z.toNatClampNeg + 1) (r (2 * y.toNatClampNeg + 1)), va_up f z.toNatClampNeg F48, va_up (va_up q 3 t24) 0 (((va_up q 3 t24) 0) + 1)))))))))) := rfl
set_option maxHeartbeats 4000000 in
set_option maxRecDepth 100000 in
theorem k_X10_copy (κ : Kt) (l : Launch) (w : va_W) (a r : Nat → Nat) (f : Nat → Nat → Int64) (q : Nat → Int32) (y : Int32) (z : Int32) (hm : mok r f) (o_x : Int32) (o_r' : Nat → Nat) (o_f' : Nat → Nat → Int64) (o_q' : Nat → Int32) (hR : D_X10_copy r f q y z = (o_x, o_r', o_f', o_q')) : CM κ l yX10_copy cX10_copy 4 (some .int) 3 64 2 23 [.ref (a 0), .int y, .int z] (mw κ a r f q (tb a) w) (fun o w' => ∃ (a' : Nat → Nat), o = some (.int o_x) ∧ (a' 0 = a 0) ∧ (mok o_r' o_f') ∧ (o_q' 2 = q 2) ∧ w' = mw κ a' o_r' o_f' o_q' (tb a') w) := by
  refine CM_begin (plainFor_of_name (by decide)) (Nat.le_of_ble_eq_true rfl) ?_
  intro p e s m args below meth c A Q hX hnm hA3 hQ hB ls hl
  have hx := hX.1.1
  have hb := hX.1.2.1
  have hl : lv_has ls 4 [(0, .ref (a 0)), (1, .int y), (2, .int z)] := hl
  replace hR := (D_X10_copy_s).symm.trans hR
  refine lv_aload_n hx hb dX10_copy_0 rfl (lv_at hl 0 rfl) ?_
  refine lv_iload_n hx hb dX10_copy_1 rfl (lv_at hl 1 rfl) ?_
  obtain ⟨z1, hd2⟩ := ex1 (D_X10_isTable y)
  replace hR := bnd1_use hd2 hR
  refine call_S (n := 1) (As := [.int y]) (rest := [.ref (a 0)]) hX hB (k_X10_isTable κ l (mw κ a r f q (tb a) w) y z1 hd2) ⟨by decide, by decide, by decide +kernel⟩ wm_5_186 wm_5_187 wm_1_6 wm_5_188 ⟨Nat.le_of_ble_eq_true rfl, Nat.le_of_ble_eq_true rfl⟩ ⟨Nat.le_of_ble_eq_true rfl, Nat.le_of_ble_eq_true rfl⟩ rfl hl.1 rfl (Nat.le_of_ble_eq_true rfl) dX10_copy_2 (fun o w' H locs hp hB => ?_)
  obtain ⟨rfl, hf3, hw9⟩ := hp
  replace hB : Bd κ A s (mw κ a r f q (tb a) w) H locs := by rw [hw9] at hB; exact hB
  rcases hf3 with rfl | ⟨rfl, hz4a, hz4b⟩
  · replace hR := ifp rfl hR
    refine W.eq (g2 := F0 m 5 ls [.int 0, .ref (a 0)]) rfl ?_
    refine lv_if_eq (tgt := 15) hx hb dX10_copy_5 (by decide) (fun _ => ?_) (fun c5 => False.elim (by revert c5; decide))
    refine lv_iconst (v := 1) hx hb dX10_copy_15 (by decide) ?_
    refine lv_goto (tgt := 20) hx hb dX10_copy_16 (by decide) ?_
    obtain ⟨x6, t7, hd8⟩ := ex2 (D_X10_isThrown__ (q 0) (q 1) (q 2) (q 3) 1)
    replace hR := bnd2_use hd8 hR
    refine call_V (n := 1) (k0 := 0) (As := [.int 1]) (rest := []) hX hB (k_X10_isThrown__ κ l (mw κ a r f q (tb a) w) 0 (a 0) (a 1) (q 0) (q 1) (q 2) (q 3) 1 (mw0x (a := a) (r := r) (f := f) (q := q) (T := tb a) (w := w) rfl) x6 t7 hd8) ⟨rfl, by decide, by decide, by decide +kernel⟩ wm_6_15 wm_6_17 wp_33 wm_1_6 wm_6_18 ⟨Nat.le_of_ble_eq_true rfl, Nat.le_of_ble_eq_true rfl⟩ ⟨Nat.le_of_ble_eq_true rfl, Nat.le_of_ble_eq_true rfl⟩ (mw0x (a := a) (r := r) (f := f) (q := q) (T := tb a) (w := w) rfl) rfl rfl rfl hl.1 rfl (Nat.le_of_ble_eq_true rfl) dX10_copy_20 (fun o w' H locs hp hB => ?_)
    obtain ⟨rfl, hf9, hw9⟩ := hp
    replace hB : Bd κ A s (mw κ a r f (va_up q 3 t7) (tb a) w) H locs := by exact Bd_eq (mwQ3x rfl _) (by rw [hw9] at hB; exact hB)
    obtain rfl : x6 = 1 := hf9.trans (by decide)
    refine W.eq (g2 := F0 m 23 ls [.int 1]) rfl ?_
    refine lv_if_eq (tgt := 28) hx hb dX10_copy_23 (by decide) (fun c10 => False.elim (by revert c10; decide)) (fun _ => ?_)
    refine lv_iconst (v := 0) hx hb dX10_copy_26 (by decide) ?_
    rw [← hQ]
    exact end_i hX hB hA3 rfl rfl (by obtain ⟨rfl, rfl, rfl, rfl⟩ := pr4 hR; exact ⟨a, rfl, rfl, hm, rfl, rfl⟩) (Nat.le_of_ble_eq_true rfl) (Nat.le_of_ble_eq_true rfl) dX10_copy_27
  · replace hR := ifn (by decide) hR
    refine W.eq (g2 := F0 m 5 ls [.int 1, .ref (a 0)]) rfl ?_
    refine lv_if_eq (tgt := 15) hx hb dX10_copy_5 (by decide) (fun c11 => False.elim (by revert c11; decide)) (fun _ => ?_)
    refine lv_iload_n hx hb dX10_copy_8 rfl (lv_at hl 2 rfl) ?_
    obtain ⟨z12, hd13⟩ := ex1 (D_X10_isTable z)
    replace hR := bnd1_use hd13 hR
    refine call_S (n := 1) (As := [.int z]) (rest := [.ref (a 0)]) hX hB (k_X10_isTable κ l (mw κ a r f q (tb a) w) z z12 hd13) ⟨by decide, by decide, by decide +kernel⟩ wm_5_186 wm_5_187 wm_1_6 wm_5_188 ⟨Nat.le_of_ble_eq_true rfl, Nat.le_of_ble_eq_true rfl⟩ ⟨Nat.le_of_ble_eq_true rfl, Nat.le_of_ble_eq_true rfl⟩ rfl hl.1 rfl (Nat.le_of_ble_eq_true rfl) dX10_copy_9 (fun o w' H locs hp hB => ?_)
    obtain ⟨rfl, hf14, hw9⟩ := hp
    replace hB : Bd κ A s (mw κ a r f q (tb a) w) H locs := by rw [hw9] at hB; exact hB
    rcases hf14 with rfl | ⟨rfl, hz15a, hz15b⟩
    · replace hR := ifp rfl hR
      refine W.eq (g2 := F0 m 12 ls [.int 0, .ref (a 0)]) rfl ?_
      refine lv_if_ne (tgt := 19) hx hb dX10_copy_12 (by decide) (fun c16 => False.elim (by revert c16; decide)) (fun _ => ?_)
      refine lv_iconst (v := 1) hx hb dX10_copy_15 (by decide) ?_
      refine lv_goto (tgt := 20) hx hb dX10_copy_16 (by decide) ?_
      obtain ⟨x17, t18, hd19⟩ := ex2 (D_X10_isThrown__ (q 0) (q 1) (q 2) (q 3) 1)
      replace hR := bnd2_use hd19 hR
      refine call_V (n := 1) (k0 := 0) (As := [.int 1]) (rest := []) hX hB (k_X10_isThrown__ κ l (mw κ a r f q (tb a) w) 0 (a 0) (a 1) (q 0) (q 1) (q 2) (q 3) 1 (mw0x (a := a) (r := r) (f := f) (q := q) (T := tb a) (w := w) rfl) x17 t18 hd19) ⟨rfl, by decide, by decide, by decide +kernel⟩ wm_6_15 wm_6_17 wp_33 wm_1_6 wm_6_18 ⟨Nat.le_of_ble_eq_true rfl, Nat.le_of_ble_eq_true rfl⟩ ⟨Nat.le_of_ble_eq_true rfl, Nat.le_of_ble_eq_true rfl⟩ (mw0x (a := a) (r := r) (f := f) (q := q) (T := tb a) (w := w) rfl) rfl rfl rfl hl.1 rfl (Nat.le_of_ble_eq_true rfl) dX10_copy_20 (fun o w' H locs hp hB => ?_)
      obtain ⟨rfl, hf20, hw9⟩ := hp
      replace hB : Bd κ A s (mw κ a r f (va_up q 3 t18) (tb a) w) H locs := by exact Bd_eq (mwQ3x rfl _) (by rw [hw9] at hB; exact hB)
      obtain rfl : x17 = 1 := hf20.trans (by decide)
      refine W.eq (g2 := F0 m 23 ls [.int 1]) rfl ?_
      refine lv_if_eq (tgt := 28) hx hb dX10_copy_23 (by decide) (fun c21 => False.elim (by revert c21; decide)) (fun _ => ?_)
      refine lv_iconst (v := 0) hx hb dX10_copy_26 (by decide) ?_
      rw [← hQ]
      exact end_i hX hB hA3 rfl rfl (by obtain ⟨rfl, rfl, rfl, rfl⟩ := pr4 hR; exact ⟨a, rfl, rfl, hm, rfl, rfl⟩) (Nat.le_of_ble_eq_true rfl) (Nat.le_of_ble_eq_true rfl) dX10_copy_27
    · replace hR := ifn (by decide) hR
      refine W.eq (g2 := F0 m 12 ls [.int 1, .ref (a 0)]) rfl ?_
      refine lv_if_ne (tgt := 19) hx hb dX10_copy_12 (by decide) (fun _ => ?_) (fun c22 => False.elim (by revert c22; decide))
      refine lv_iconst (v := 0) hx hb dX10_copy_19 (by decide) ?_
      obtain ⟨x23, t24, hd25⟩ := ex2 (D_X10_isThrown__ (q 0) (q 1) (q 2) (q 3) 0)
      replace hR := bnd2_use hd25 hR
      refine call_V (n := 1) (k0 := 0) (As := [.int 0]) (rest := []) hX hB (k_X10_isThrown__ κ l (mw κ a r f q (tb a) w) 0 (a 0) (a 1) (q 0) (q 1) (q 2) (q 3) 0 (mw0x (a := a) (r := r) (f := f) (q := q) (T := tb a) (w := w) rfl) x23 t24 hd25) ⟨rfl, by decide, by decide, by decide +kernel⟩ wm_6_15 wm_6_17 wp_33 wm_1_6 wm_6_18 ⟨Nat.le_of_ble_eq_true rfl, Nat.le_of_ble_eq_true rfl⟩ ⟨Nat.le_of_ble_eq_true rfl, Nat.le_of_ble_eq_true rfl⟩ (mw0x (a := a) (r := r) (f := f) (q := q) (T := tb a) (w := w) rfl) rfl rfl rfl hl.1 rfl (Nat.le_of_ble_eq_true rfl) dX10_copy_20 (fun o w' H locs hp hB => ?_)
      obtain ⟨rfl, hf26, hw9⟩ := hp
      replace hB : Bd κ A s (mw κ a r f (va_up q 3 t24) (tb a) w) H locs := by exact Bd_eq (mwQ3x rfl _) (by rw [hw9] at hB; exact hB)
      obtain rfl : x23 = 0 := hf26.trans (by decide)
      refine W.eq (g2 := F0 m 23 ls [.int 0]) rfl ?_
      refine lv_if_eq (tgt := 28) hx hb dX10_copy_23 (by decide) (fun _ => ?_) (fun c27 => False.elim (by revert c27; decide))
      refine lv_aload_n hx hb dX10_copy_28 rfl (lv_at hl 0 rfl) ?_
      refine gf (k0 := 0) hX hB (mw0x (a := a) (r := r) (f := f) (q := (va_up q 3 t24)) (T := tb a) (w := w) rfl) rfl in10 0 (by decide) wm_5_162 rfl rfl dX10_copy_29 ?_
      refine lv_iload_n hx hb dX10_copy_32 rfl (lv_at hl 1 rfl) ?_
      refine aaldM (k0 := 1) hX hB (mw1 (a := a) (r := r) (f := f) (q := (va_up q 3 t24)) (T := tb a) (w := w)) (vp_in_mk (by assumption) (by assumption)) rfl dX10_copy_33 ?_
      have hb28 := mok_r hm y.toNatClampNeg (by omega)
      refine lv_aload_n hx hb dX10_copy_34 rfl (lv_at hl 0 rfl) ?_
      refine gf (k0 := 0) hX hB (mw0x (a := a) (r := r) (f := f) (q := (va_up q 3 t24)) (T := tb a) (w := w) rfl) rfl in10 0 (by decide) wm_5_162 rfl rfl dX10_copy_35 ?_
      refine lv_iload_n hx hb dX10_copy_38 rfl (lv_at hl 2 rfl) ?_
      refine aaldM (k0 := 1) hX hB (mw1 (a := a) (r := r) (f := f) (q := (va_up q 3 t24)) (T := tb a) (w := w)) (vp_in_mk (by assumption) (by assumption)) rfl dX10_copy_39 ?_
      have hb29 := mok_r hm z.toNatClampNeg (by omega)
      obtain ⟨x30, hd31⟩ := ex1 (D_X7_isSame (r (2 * y.toNatClampNeg)) (r (2 * y.toNatClampNeg + 1)) (f y.toNatClampNeg) (r (2 * z.toNatClampNeg)) (r (2 * z.toNatClampNeg + 1)) (f z.toNatClampNeg))
      replace hR := bnd1_use hd31 hR
      refine call_V (n := 1) (k0 := (2 + 2 * y.toNatClampNeg)) (As := [.ref (a (2 + 2 * z.toNatClampNeg))]) (rest := []) hX hB (k_X7_isSame κ l (mw κ a r f (va_up q 3 t24) (tb a) w) (2 + 2 * y.toNatClampNeg) (3 + 2 * y.toNatClampNeg) (a (2 + 2 * y.toNatClampNeg)) (a (3 + 2 * y.toNatClampNeg)) (r (2 * y.toNatClampNeg)) (r (2 * y.toNatClampNeg + 1)) (f y.toNatClampNeg) (2 + 2 * z.toNatClampNeg) (3 + 2 * z.toNatClampNeg) (a (2 + 2 * z.toNatClampNeg)) (a (3 + 2 * z.toNatClampNeg)) (r (2 * z.toNatClampNeg)) (r (2 * z.toNatClampNeg + 1)) (f z.toNatClampNeg) (mwG (i := y.toNatClampNeg) (a := a) (r := r) (f := f) (q := (va_up q 3 t24)) (T := tb a) (w := w) (by omega)) (mwA (i := y.toNatClampNeg) (a := a) (r := r) (f := f) (q := (va_up q 3 t24)) (T := tb a) (w := w) (by omega)) (mok_shp (i := y.toNatClampNeg) hm (by omega)) (mwG (i := z.toNatClampNeg) (a := a) (r := r) (f := f) (q := (va_up q 3 t24)) (T := tb a) (w := w) (by omega)) (mwA (i := z.toNatClampNeg) (a := a) (r := r) (f := f) (q := (va_up q 3 t24)) (T := tb a) (w := w) (by omega)) (mok_shp (i := z.toNatClampNeg) hm (by omega)) x30 hd31) ⟨rfl, by decide, by decide, by decide +kernel⟩ wm_6_19 wm_6_20 wm_6_21 wm_1_7 wm_6_22 ⟨Nat.le_of_ble_eq_true rfl, Nat.le_of_ble_eq_true rfl⟩ ⟨Nat.le_of_ble_eq_true rfl, Nat.le_of_ble_eq_true rfl⟩ (mwG (i := y.toNatClampNeg) (a := a) (r := r) (f := f) (q := (va_up q 3 t24)) (T := tb a) (w := w) (by omega)) rfl rfl rfl hl.1 rfl (Nat.le_of_ble_eq_true rfl) dX10_copy_40 (fun o w' H locs hp hB => ?_)
      obtain ⟨rfl, hf32, hw9⟩ := hp
      replace hB : Bd κ A s (mw κ a r f (va_up q 3 t24) (tb a) w) H locs := by rw [hw9] at hB; exact hB
      rcases hf32 with rfl | rfl
      · replace hR := ifp rfl hR
        refine W.eq (g2 := F0 m 43 ls [.int 0]) rfl ?_
        refine lv_if_ne (tgt := 50) hx hb dX10_copy_43 (by decide) (fun c33 => False.elim (by revert c33; decide)) (fun _ => ?_)
        refine lv_iconst (v := 1) hx hb dX10_copy_46 (by decide) ?_
        refine lv_goto (tgt := 51) hx hb dX10_copy_47 (by decide) ?_
        refine lv_istore_n (lv' := [(3, .int 1), (0, .ref (a 0)), (1, .int y), (2, .int z)]) hx hb dX10_copy_51 rfl hl (by decide) rfl (fun ls hl => ?_)
        refine lv_aload_n hx hb dX10_copy_52 rfl (lv_at hl 1 rfl) ?_
        refine gf (k0 := 0) hX hB (mw0x (a := a) (r := r) (f := f) (q := (va_up q 3 t24)) (T := tb a) (w := w) rfl) rfl in10 0 (by decide) wm_5_162 rfl rfl dX10_copy_53 ?_
        refine lv_iload_n hx hb dX10_copy_56 rfl (lv_at hl 3 rfl) ?_
        refine lv_aload_n hx hb dX10_copy_57 rfl (lv_at hl 1 rfl) ?_
        refine gf (k0 := 0) hX hB (mw0x (a := a) (r := r) (f := f) (q := (va_up q 3 t24)) (T := tb a) (w := w) rfl) rfl in10 0 (by decide) wm_5_162 rfl rfl dX10_copy_58 ?_
        refine lv_iload_n hx hb dX10_copy_61 rfl (lv_at hl 2 rfl) ?_
        refine aaldM (k0 := 1) hX hB (mw1 (a := a) (r := r) (f := f) (q := (va_up q 3 t24)) (T := tb a) (w := w)) (vp_in_mk (by assumption) (by assumption)) rfl dX10_copy_62 ?_
        have hb34 := mok_r hm y.toNatClampNeg (by omega)
        obtain ⟨F37, hd38⟩ := ex1 (D_X7_copy (r (2 * y.toNatClampNeg)) (r (2 * y.toNatClampNeg + 1)) (f y.toNatClampNeg))
        replace hR := bnd1_use hd38 hR
        refine call_V (n := 0) (k0 := (2 + 2 * y.toNatClampNeg)) (As := []) (rest := [.int z, .ref (a 1)]) hX hB (k_X7_copy κ l (mw κ a r f (va_up q 3 t24) (tb a) w) (2 + 2 * y.toNatClampNeg) (3 + 2 * y.toNatClampNeg) (a (2 + 2 * y.toNatClampNeg)) (a (3 + 2 * y.toNatClampNeg)) (r (2 * y.toNatClampNeg)) (r (2 * y.toNatClampNeg + 1)) (f y.toNatClampNeg) (mwG (i := y.toNatClampNeg) (a := a) (r := r) (f := f) (q := (va_up q 3 t24)) (T := tb a) (w := w) (by omega)) (mwA (i := y.toNatClampNeg) (a := a) (r := r) (f := f) (q := (va_up q 3 t24)) (T := tb a) (w := w) (by omega)) (mok_shp (i := y.toNatClampNeg) hm (by omega)) F37 hd38) ⟨rfl, by decide, by decide, by decide +kernel⟩ wm_6_23 wm_6_24 wm_6_25 wm_1_7 wm_6_26 ⟨Nat.le_of_ble_eq_true rfl, Nat.le_of_ble_eq_true rfl⟩ ⟨Nat.le_of_ble_eq_true rfl, Nat.le_of_ble_eq_true rfl⟩ (mwG (i := y.toNatClampNeg) (a := a) (r := r) (f := f) (q := (va_up q 3 t24)) (T := tb a) (w := w) (by omega)) rfl rfl rfl hl.1 rfl (Nat.le_of_ble_eq_true rfl) dX10_copy_63 (fun o w' H locs hp hB => ?_)
        obtain ⟨q35, q36, rfl, hf39, hw9⟩ := hp
        replace hB : Bd κ A s (lA κ q36 ((r (2 * y.toNatClampNeg)) * 5) F37 :: gO q35 (r (2 * y.toNatClampNeg)) (r (2 * y.toNatClampNeg + 1)) q36 :: mw κ a r f (va_up q 3 t24) (tb a) w) H locs := by rw [hw9] at hB; exact hB
        have hscF37 : ∀ k, k < (r (2 * y.toNatClampNeg)) * 5 → sm (F37 k) := fun k hk => by rw [hf39 k hk]; exact (hm _ (by omega)).2 k hk
        refine W.eq (g2 := F0 m 66 ls [.ref q35, .int z, .ref (a 1)]) rfl ?_
        refine astM (f := tb a) (k0 := 3) (k1 := 1) hX hB (mw1 (a := a) (r := r) (f := f) (q := (va_up q 3 t24)) (T := tb a) (w := w)) rfl (vp_in_mk (by assumption) (by assumption)) (w1 := lA κ q36 ((r (2 * y.toNatClampNeg)) * 5) F37 :: gO q35 (r (2 * y.toNatClampNeg)) (r (2 * y.toNatClampNeg + 1)) q36 :: mw κ a r f (va_up q 3 t24) (va_up (tb a) z.toNatClampNeg (some q35)) w) (congrArg (List.cons _) (congrArg (List.cons _) (mwST _))) dX10_copy_66 (fun H locs hB => ?_)
        obtain ⟨a40, ha41, hg42, hB⟩ := Bd_repl2 (t := z.toNatClampNeg) (by omega) hB
        have hba40 := mok_r hm z.toNatClampNeg (by omega)
        refine lv_aload_n hx hb dX10_copy_67 rfl (lv_at hl 1 rfl) ?_
        refine lv_iload_n hx hb dX10_copy_68 rfl (lv_at hl 0 rfl) ?_
        refine lv_if_eq (tgt := 76) hx hb dX10_copy_69 (by decide) (fun c43 => False.elim (by revert c43; decide)) (fun _ => ?_)
        refine lv_iconst (v := 1) hx hb dX10_copy_72 (by decide) ?_
        refine lv_goto (tgt := 77) hx hb dX10_copy_73 (by decide) ?_
        refine call_V (n := 1) (k0 := 0) (As := [.int 1]) (rest := []) hX hB (k_X10_told κ l (mw κ a40 (va_up (va_up r (2 * z.toNatClampNeg) (r (2 * y.toNatClampNeg))) (2 * z.toNatClampNeg + 1) (r (2 * y.toNatClampNeg + 1))) (va_up f z.toNatClampNeg F37) (va_up q 3 t24) (tb a40) w) 0 (a 0) (a40 1) ((va_up q 3 t24) 0) ((va_up q 3 t24) 1) ((va_up q 3 t24) 2) ((va_up q 3 t24) 3) 1 (mw0x (a := a40) (r := (va_up (va_up r (2 * z.toNatClampNeg) (r (2 * y.toNatClampNeg))) (2 * z.toNatClampNeg + 1) (r (2 * y.toNatClampNeg + 1)))) (f := (va_up f z.toNatClampNeg F37)) (q := (va_up q 3 t24)) (T := tb a40) (w := w) (ha41.trans rfl))) ⟨rfl, by decide, by decide, by decide +kernel⟩ wm_5_208 wm_5_210 wp_30 wm_1_6 wm_5_211 ⟨Nat.le_of_ble_eq_true rfl, Nat.le_of_ble_eq_true rfl⟩ ⟨Nat.le_of_ble_eq_true rfl, Nat.le_of_ble_eq_true rfl⟩ (mw0x (a := a40) (r := (va_up (va_up r (2 * z.toNatClampNeg) (r (2 * y.toNatClampNeg))) (2 * z.toNatClampNeg + 1) (r (2 * y.toNatClampNeg + 1)))) (f := (va_up f z.toNatClampNeg F37)) (q := (va_up q 3 t24)) (T := tb a40) (w := w) (ha41.trans rfl)) rfl rfl rfl hl.1 rfl (Nat.le_of_ble_eq_true rfl) dX10_copy_77 (fun o w' H locs hp hB => ?_)
        obtain ⟨rfl, hw9⟩ := hp
        replace hB : Bd κ A s (mw κ a40 (va_up (va_up r (2 * z.toNatClampNeg) (r (2 * y.toNatClampNeg))) (2 * z.toNatClampNeg + 1) (r (2 * y.toNatClampNeg + 1))) (va_up f z.toNatClampNeg F37) (va_up (va_up q 3 t24) 0 (((va_up q 3 t24) 0) + 1)) (tb a40) w) H locs := by exact Bd_eq (mwQ0x (ha41.trans rfl) _) (by rw [hw9] at hB; exact hB)
        refine W.eq (g2 := F0 m 80 ls [.int 1]) rfl ?_
        rw [← hQ]
        exact end_i hX hB hA3 rfl rfl (by obtain ⟨rfl, rfl, rfl, rfl⟩ := pr4 hR; exact ⟨a40, rfl, (ha41.trans rfl), (mok_repl (t := z.toNatClampNeg) (R := (r (2 * y.toNatClampNeg))) (C := (r (2 * y.toNatClampNeg + 1))) (F := F37) hm ⟨by omega, by omega, by omega, by omega⟩ hscF37), rfl, rfl⟩) (Nat.le_of_ble_eq_true rfl) (Nat.le_of_ble_eq_true rfl) dX10_copy_80
      · replace hR := ifn (by decide) hR
        refine W.eq (g2 := F0 m 43 ls [.int 1]) rfl ?_
        refine lv_if_ne (tgt := 50) hx hb dX10_copy_43 (by decide) (fun _ => ?_) (fun c44 => False.elim (by revert c44; decide))
        refine lv_iconst (v := 0) hx hb dX10_copy_50 (by decide) ?_
        refine lv_istore_n (lv' := [(3, .int 0), (0, .ref (a 0)), (1, .int y), (2, .int z)]) hx hb dX10_copy_51 rfl hl (by decide) rfl (fun ls hl => ?_)
        refine lv_aload_n hx hb dX10_copy_52 rfl (lv_at hl 1 rfl) ?_
        refine gf (k0 := 0) hX hB (mw0x (a := a) (r := r) (f := f) (q := (va_up q 3 t24)) (T := tb a) (w := w) rfl) rfl in10 0 (by decide) wm_5_162 rfl rfl dX10_copy_53 ?_
        refine lv_iload_n hx hb dX10_copy_56 rfl (lv_at hl 3 rfl) ?_
        refine lv_aload_n hx hb dX10_copy_57 rfl (lv_at hl 1 rfl) ?_
        refine gf (k0 := 0) hX hB (mw0x (a := a) (r := r) (f := f) (q := (va_up q 3 t24)) (T := tb a) (w := w) rfl) rfl in10 0 (by decide) wm_5_162 rfl rfl dX10_copy_58 ?_
        refine lv_iload_n hx hb dX10_copy_61 rfl (lv_at hl 2 rfl) ?_
        refine aaldM (k0 := 1) hX hB (mw1 (a := a) (r := r) (f := f) (q := (va_up q 3 t24)) (T := tb a) (w := w)) (vp_in_mk (by assumption) (by assumption)) rfl dX10_copy_62 ?_
        have hb45 := mok_r hm y.toNatClampNeg (by omega)
        obtain ⟨F48, hd49⟩ := ex1 (D_X7_copy (r (2 * y.toNatClampNeg)) (r (2 * y.toNatClampNeg + 1)) (f y.toNatClampNeg))
        replace hR := bnd1_use hd49 hR
        refine call_V (n := 0) (k0 := (2 + 2 * y.toNatClampNeg)) (As := []) (rest := [.int z, .ref (a 1)]) hX hB (k_X7_copy κ l (mw κ a r f (va_up q 3 t24) (tb a) w) (2 + 2 * y.toNatClampNeg) (3 + 2 * y.toNatClampNeg) (a (2 + 2 * y.toNatClampNeg)) (a (3 + 2 * y.toNatClampNeg)) (r (2 * y.toNatClampNeg)) (r (2 * y.toNatClampNeg + 1)) (f y.toNatClampNeg) (mwG (i := y.toNatClampNeg) (a := a) (r := r) (f := f) (q := (va_up q 3 t24)) (T := tb a) (w := w) (by omega)) (mwA (i := y.toNatClampNeg) (a := a) (r := r) (f := f) (q := (va_up q 3 t24)) (T := tb a) (w := w) (by omega)) (mok_shp (i := y.toNatClampNeg) hm (by omega)) F48 hd49) ⟨rfl, by decide, by decide, by decide +kernel⟩ wm_6_23 wm_6_24 wm_6_25 wm_1_7 wm_6_26 ⟨Nat.le_of_ble_eq_true rfl, Nat.le_of_ble_eq_true rfl⟩ ⟨Nat.le_of_ble_eq_true rfl, Nat.le_of_ble_eq_true rfl⟩ (mwG (i := y.toNatClampNeg) (a := a) (r := r) (f := f) (q := (va_up q 3 t24)) (T := tb a) (w := w) (by omega)) rfl rfl rfl hl.1 rfl (Nat.le_of_ble_eq_true rfl) dX10_copy_63 (fun o w' H locs hp hB => ?_)
        obtain ⟨q46, q47, rfl, hf50, hw9⟩ := hp
        replace hB : Bd κ A s (lA κ q47 ((r (2 * y.toNatClampNeg)) * 5) F48 :: gO q46 (r (2 * y.toNatClampNeg)) (r (2 * y.toNatClampNeg + 1)) q47 :: mw κ a r f (va_up q 3 t24) (tb a) w) H locs := by rw [hw9] at hB; exact hB
        have hscF48 : ∀ k, k < (r (2 * y.toNatClampNeg)) * 5 → sm (F48 k) := fun k hk => by rw [hf50 k hk]; exact (hm _ (by omega)).2 k hk
        refine W.eq (g2 := F0 m 66 ls [.ref q46, .int z, .ref (a 1)]) rfl ?_
        refine astM (f := tb a) (k0 := 3) (k1 := 1) hX hB (mw1 (a := a) (r := r) (f := f) (q := (va_up q 3 t24)) (T := tb a) (w := w)) rfl (vp_in_mk (by assumption) (by assumption)) (w1 := lA κ q47 ((r (2 * y.toNatClampNeg)) * 5) F48 :: gO q46 (r (2 * y.toNatClampNeg)) (r (2 * y.toNatClampNeg + 1)) q47 :: mw κ a r f (va_up q 3 t24) (va_up (tb a) z.toNatClampNeg (some q46)) w) (congrArg (List.cons _) (congrArg (List.cons _) (mwST _))) dX10_copy_66 (fun H locs hB => ?_)
        obtain ⟨a51, ha52, hg53, hB⟩ := Bd_repl2 (t := z.toNatClampNeg) (by omega) hB
        have hba51 := mok_r hm z.toNatClampNeg (by omega)
        refine lv_aload_n hx hb dX10_copy_67 rfl (lv_at hl 1 rfl) ?_
        refine lv_iload_n hx hb dX10_copy_68 rfl (lv_at hl 0 rfl) ?_
        refine lv_if_eq (tgt := 76) hx hb dX10_copy_69 (by decide) (fun _ => ?_) (fun c54 => False.elim (by revert c54; decide))
        refine lv_iconst (v := 0) hx hb dX10_copy_76 (by decide) ?_
        refine call_V (n := 1) (k0 := 0) (As := [.int 0]) (rest := []) hX hB (k_X10_told κ l (mw κ a51 (va_up (va_up r (2 * z.toNatClampNeg) (r (2 * y.toNatClampNeg))) (2 * z.toNatClampNeg + 1) (r (2 * y.toNatClampNeg + 1))) (va_up f z.toNatClampNeg F48) (va_up q 3 t24) (tb a51) w) 0 (a 0) (a51 1) ((va_up q 3 t24) 0) ((va_up q 3 t24) 1) ((va_up q 3 t24) 2) ((va_up q 3 t24) 3) 0 (mw0x (a := a51) (r := (va_up (va_up r (2 * z.toNatClampNeg) (r (2 * y.toNatClampNeg))) (2 * z.toNatClampNeg + 1) (r (2 * y.toNatClampNeg + 1)))) (f := (va_up f z.toNatClampNeg F48)) (q := (va_up q 3 t24)) (T := tb a51) (w := w) (ha52.trans rfl))) ⟨rfl, by decide, by decide, by decide +kernel⟩ wm_5_208 wm_5_210 wp_30 wm_1_6 wm_5_211 ⟨Nat.le_of_ble_eq_true rfl, Nat.le_of_ble_eq_true rfl⟩ ⟨Nat.le_of_ble_eq_true rfl, Nat.le_of_ble_eq_true rfl⟩ (mw0x (a := a51) (r := (va_up (va_up r (2 * z.toNatClampNeg) (r (2 * y.toNatClampNeg))) (2 * z.toNatClampNeg + 1) (r (2 * y.toNatClampNeg + 1)))) (f := (va_up f z.toNatClampNeg F48)) (q := (va_up q 3 t24)) (T := tb a51) (w := w) (ha52.trans rfl)) rfl rfl rfl hl.1 rfl (Nat.le_of_ble_eq_true rfl) dX10_copy_77 (fun o w' H locs hp hB => ?_)
        obtain ⟨rfl, hw9⟩ := hp
        replace hB : Bd κ A s (mw κ a51 (va_up (va_up r (2 * z.toNatClampNeg) (r (2 * y.toNatClampNeg))) (2 * z.toNatClampNeg + 1) (r (2 * y.toNatClampNeg + 1))) (va_up f z.toNatClampNeg F48) (va_up (va_up q 3 t24) 0 (((va_up q 3 t24) 0) + 1)) (tb a51) w) H locs := by exact Bd_eq (mwQ0x (ha52.trans rfl) _) (by rw [hw9] at hB; exact hB)
        refine W.eq (g2 := F0 m 80 ls [.int 0]) rfl ?_
        rw [← hQ]
        exact end_i hX hB hA3 rfl rfl (by obtain ⟨rfl, rfl, rfl, rfl⟩ := pr4 hR; exact ⟨a51, rfl, (ha52.trans rfl), (mok_repl (t := z.toNatClampNeg) (R := (r (2 * y.toNatClampNeg))) (C := (r (2 * y.toNatClampNeg + 1))) (F := F48) hm ⟨by omega, by omega, by omega, by omega⟩ hscF48), rfl, rfl⟩) (Nat.le_of_ble_eq_true rfl) (Nat.le_of_ble_eq_true rfl) dX10_copy_80
noncomputable def D_X10_swap (r : Nat → Nat) (f : Nat → Nat → Int64) (q : Nat → Int32) (y : Int32) (z : Int32) : Int32 × (Nat → Nat) × (Nat → Nat → Int64) × (Nat → Int32) := bnd1 (D_X10_isTable y) (fun (z1 : Int32) => (if z1 = 0 then bnd2 (D_X10_isThrown__ (q 0) (q 1) (q 2) (q 3) 1) (fun (x6 : Int32) (t7 : Int32) => (0, r, f, va_up q 3 t7)) else bnd1 (D_X10_isTable z) (fun (z12 : Int32) => (if z12 = 0 then bnd2 (D_X10_isThrown__ (q 0) (q 1) (q 2) (q 3) 1) (fun (x17 : Int32) (t18 : Int32) => (0, r, f, va_up q 3 t18)) else bnd2 (D_X10_isThrown__ (q 0) (q 1) (q 2) (q 3) 0) (fun (x23 : Int32) (t24 : Int32) => bnd1 (D_X7_isSame (r (2 * y.toNatClampNeg)) (r (2 * y.toNatClampNeg + 1)) (f y.toNatClampNeg) (r (2 * z.toNatClampNeg)) (r (2 * z.toNatClampNeg + 1)) (f z.toNatClampNeg)) (fun (x30 : Int32) => (if x30 = 0 then (1, (fun k => r (swr y.toNatClampNeg z.toNatClampNeg k)), (fun k => f (sw1 y.toNatClampNeg z.toNatClampNeg k)), va_up (va_up q 3 t24) 0 (((va_up q 3 t24) 0) + 1)) else (0, (fun k => r (swr y.toNatClampNeg z.toNatClampNeg k)), (fun k => f (sw1 y.toNatClampNeg z.toNatClampNeg k)), va_up (va_up q 3 t24) 0 (((va_up q 3 t24) 0) + 1)))))))))
theorem D_X10_swap_s {r : Nat → Nat} {f : Nat → Nat → Int64} {q : Nat → Int32} {y : Int32} {z : Int32} : D_X10_swap r f q y z = bnd1 (D_X10_isTable y) (fun (z1 : Int32) => (if z1 = 0 then bnd2 (D_X10_isThrown__ (q 0) (q 1) (q 2) (q 3) 1) (fun (x6 : Int32) (t7 : Int32) => (0, r, f, va_up q 3 t7)) else bnd1 (D_X10_isTable z) (fun (z12 : Int32) => (if z12 = 0 then bnd2 (D_X10_isThrown__ (q 0) (q 1) (q 2) (q 3) 1) (fun (x17 : Int32) (t18 : Int32) => (0, r, f, va_up q 3 t18)) else bnd2 (D_X10_isThrown__ (q 0) (q 1) (q 2) (q 3) 0) (fun (x23 : Int32) (t24 : Int32) => bnd1 (D_X7_isSame (r (2 * y.toNatClampNeg)) (r (2 * y.toNatClampNeg + 1)) (f y.toNatClampNeg) (r (2 * z.toNatClampNeg)) (r (2 * z.toNatClampNeg + 1)) (f z.toNatClampNeg)) (fun (x30 : Int32) => (if x30 = 0 then (1, (fun k => r (swr y.toNatClampNeg z.toNatClampNeg k)), (fun k => f (sw1 y.toNatClampNeg z.toNatClampNeg k)), va_up (va_up q 3 t24) 0 (((va_up q 3 t24) 0) + 1)) else (0, (fun k => r (swr y.toNatClampNeg z.toNatClampNeg k)), (fun k => f (sw1 y.toNatClampNeg z.toNatClampNeg k)), va_up (va_up q 3 t24) 0 (((va_up q 3 t24) 0) + 1))))))))) := rfl
set_option maxHeartbeats 4000000 in
set_option maxRecDepth 100000 in
theorem k_X10_swap (κ : Kt) (l : Launch) (w : va_W) (a r : Nat → Nat) (f : Nat → Nat → Int64) (q : Nat → Int32) (y : Int32) (z : Int32) (hm : mok r f) (o_x : Int32) (o_r' : Nat → Nat) (o_f' : Nat → Nat → Int64) (o_q' : Nat → Int32) (hR : D_X10_swap r f q y z = (o_x, o_r', o_f', o_q')) : CM κ l yX10_swap cX10_swap 5 (some .int) 2 44 0 0 [.ref (a 0), .int y, .int z] (mw κ a r f q (tb a) w) (fun o w' => ∃ (a' : Nat → Nat), o = some (.int o_x) ∧ (a' 0 = a 0) ∧ (mok o_r' o_f') ∧ (o_q' 2 = q 2) ∧ w' = mw κ a' o_r' o_f' o_q' (tb a') w) := by
  refine CM_begin (plainFor_of_name (by decide)) (Nat.le_of_ble_eq_true rfl) ?_
  intro p e s m args below meth c A Q hX hnm hA3 hQ hB ls hl
  have hx := hX.1.1
  have hb := hX.1.2.1
  have hl : lv_has ls 5 [(0, .ref (a 0)), (1, .int y), (2, .int z)] := hl
  replace hR := (D_X10_swap_s).symm.trans hR
  refine lv_aload_n hx hb dX10_swap_0 rfl (lv_at hl 0 rfl) ?_
  refine lv_iload_n hx hb dX10_swap_1 rfl (lv_at hl 1 rfl) ?_
  obtain ⟨z1, hd2⟩ := ex1 (D_X10_isTable y)
  replace hR := bnd1_use hd2 hR
  refine call_S (n := 1) (As := [.int y]) (rest := [.ref (a 0)]) hX hB (k_X10_isTable κ l (mw κ a r f q (tb a) w) y z1 hd2) ⟨by decide, by decide, by decide +kernel⟩ wm_5_186 wm_5_187 wm_1_6 wm_5_188 ⟨Nat.le_of_ble_eq_true rfl, Nat.le_of_ble_eq_true rfl⟩ ⟨Nat.le_of_ble_eq_true rfl, Nat.le_of_ble_eq_true rfl⟩ rfl hl.1 rfl (Nat.le_of_ble_eq_true rfl) dX10_swap_2 (fun o w' H locs hp hB => ?_)
  obtain ⟨rfl, hf3, hw9⟩ := hp
  replace hB : Bd κ A s (mw κ a r f q (tb a) w) H locs := by rw [hw9] at hB; exact hB
  rcases hf3 with rfl | ⟨rfl, hz4a, hz4b⟩
  · replace hR := ifp rfl hR
    refine W.eq (g2 := F0 m 5 ls [.int 0, .ref (a 0)]) rfl ?_
    refine lv_if_eq (tgt := 15) hx hb dX10_swap_5 (by decide) (fun _ => ?_) (fun c5 => False.elim (by revert c5; decide))
    refine lv_iconst (v := 1) hx hb dX10_swap_15 (by decide) ?_
    refine lv_goto (tgt := 20) hx hb dX10_swap_16 (by decide) ?_
    obtain ⟨x6, t7, hd8⟩ := ex2 (D_X10_isThrown__ (q 0) (q 1) (q 2) (q 3) 1)
    replace hR := bnd2_use hd8 hR
    refine call_V (n := 1) (k0 := 0) (As := [.int 1]) (rest := []) hX hB (k_X10_isThrown__ κ l (mw κ a r f q (tb a) w) 0 (a 0) (a 1) (q 0) (q 1) (q 2) (q 3) 1 (mw0x (a := a) (r := r) (f := f) (q := q) (T := tb a) (w := w) rfl) x6 t7 hd8) ⟨rfl, by decide, by decide, by decide +kernel⟩ wm_6_15 wm_6_17 wp_33 wm_1_6 wm_6_18 ⟨Nat.le_of_ble_eq_true rfl, Nat.le_of_ble_eq_true rfl⟩ ⟨Nat.le_of_ble_eq_true rfl, Nat.le_of_ble_eq_true rfl⟩ (mw0x (a := a) (r := r) (f := f) (q := q) (T := tb a) (w := w) rfl) rfl rfl rfl hl.1 rfl (Nat.le_of_ble_eq_true rfl) dX10_swap_20 (fun o w' H locs hp hB => ?_)
    obtain ⟨rfl, hf9, hw9⟩ := hp
    replace hB : Bd κ A s (mw κ a r f (va_up q 3 t7) (tb a) w) H locs := by exact Bd_eq (mwQ3x rfl _) (by rw [hw9] at hB; exact hB)
    obtain rfl : x6 = 1 := hf9.trans (by decide)
    refine W.eq (g2 := F0 m 23 ls [.int 1]) rfl ?_
    refine lv_if_eq (tgt := 28) hx hb dX10_swap_23 (by decide) (fun c10 => False.elim (by revert c10; decide)) (fun _ => ?_)
    refine lv_iconst (v := 0) hx hb dX10_swap_26 (by decide) ?_
    rw [← hQ]
    exact end_i hX hB hA3 rfl rfl (by obtain ⟨rfl, rfl, rfl, rfl⟩ := pr4 hR; exact ⟨a, rfl, rfl, hm, rfl, rfl⟩) (Nat.le_of_ble_eq_true rfl) (Nat.le_of_ble_eq_true rfl) dX10_swap_27
  · replace hR := ifn (by decide) hR
    refine W.eq (g2 := F0 m 5 ls [.int 1, .ref (a 0)]) rfl ?_
    refine lv_if_eq (tgt := 15) hx hb dX10_swap_5 (by decide) (fun c11 => False.elim (by revert c11; decide)) (fun _ => ?_)
    refine lv_iload_n hx hb dX10_swap_8 rfl (lv_at hl 2 rfl) ?_
    obtain ⟨z12, hd13⟩ := ex1 (D_X10_isTable z)
    replace hR := bnd1_use hd13 hR
    refine call_S (n := 1) (As := [.int z]) (rest := [.ref (a 0)]) hX hB (k_X10_isTable κ l (mw κ a r f q (tb a) w) z z12 hd13) ⟨by decide, by decide, by decide +kernel⟩ wm_5_186 wm_5_187 wm_1_6 wm_5_188 ⟨Nat.le_of_ble_eq_true rfl, Nat.le_of_ble_eq_true rfl⟩ ⟨Nat.le_of_ble_eq_true rfl, Nat.le_of_ble_eq_true rfl⟩ rfl hl.1 rfl (Nat.le_of_ble_eq_true rfl) dX10_swap_9 (fun o w' H locs hp hB => ?_)
    obtain ⟨rfl, hf14, hw9⟩ := hp
    replace hB : Bd κ A s (mw κ a r f q (tb a) w) H locs := by rw [hw9] at hB; exact hB
    rcases hf14 with rfl | ⟨rfl, hz15a, hz15b⟩
    · replace hR := ifp rfl hR
      refine W.eq (g2 := F0 m 12 ls [.int 0, .ref (a 0)]) rfl ?_
      refine lv_if_ne (tgt := 19) hx hb dX10_swap_12 (by decide) (fun c16 => False.elim (by revert c16; decide)) (fun _ => ?_)
      refine lv_iconst (v := 1) hx hb dX10_swap_15 (by decide) ?_
      refine lv_goto (tgt := 20) hx hb dX10_swap_16 (by decide) ?_
      obtain ⟨x17, t18, hd19⟩ := ex2 (D_X10_isThrown__ (q 0) (q 1) (q 2) (q 3) 1)
      replace hR := bnd2_use hd19 hR
      refine call_V (n := 1) (k0 := 0) (As := [.int 1]) (rest := []) hX hB (k_X10_isThrown__ κ l (mw κ a r f q (tb a) w) 0 (a 0) (a 1) (q 0) (q 1) (q 2) (q 3) 1 (mw0x (a := a) (r := r) (f := f) (q := q) (T := tb a) (w := w) rfl) x17 t18 hd19) ⟨rfl, by decide, by decide, by decide +kernel⟩ wm_6_15 wm_6_17 wp_33 wm_1_6 wm_6_18 ⟨Nat.le_of_ble_eq_true rfl, Nat.le_of_ble_eq_true rfl⟩ ⟨Nat.le_of_ble_eq_true rfl, Nat.le_of_ble_eq_true rfl⟩ (mw0x (a := a) (r := r) (f := f) (q := q) (T := tb a) (w := w) rfl) rfl rfl rfl hl.1 rfl (Nat.le_of_ble_eq_true rfl) dX10_swap_20 (fun o w' H locs hp hB => ?_)
      obtain ⟨rfl, hf20, hw9⟩ := hp
      replace hB : Bd κ A s (mw κ a r f (va_up q 3 t18) (tb a) w) H locs := by exact Bd_eq (mwQ3x rfl _) (by rw [hw9] at hB; exact hB)
      obtain rfl : x17 = 1 := hf20.trans (by decide)
      refine W.eq (g2 := F0 m 23 ls [.int 1]) rfl ?_
      refine lv_if_eq (tgt := 28) hx hb dX10_swap_23 (by decide) (fun c21 => False.elim (by revert c21; decide)) (fun _ => ?_)
      refine lv_iconst (v := 0) hx hb dX10_swap_26 (by decide) ?_
      rw [← hQ]
      exact end_i hX hB hA3 rfl rfl (by obtain ⟨rfl, rfl, rfl, rfl⟩ := pr4 hR; exact ⟨a, rfl, rfl, hm, rfl, rfl⟩) (Nat.le_of_ble_eq_true rfl) (Nat.le_of_ble_eq_true rfl) dX10_swap_27
    · replace hR := ifn (by decide) hR
      refine W.eq (g2 := F0 m 12 ls [.int 1, .ref (a 0)]) rfl ?_
      refine lv_if_ne (tgt := 19) hx hb dX10_swap_12 (by decide) (fun _ => ?_) (fun c22 => False.elim (by revert c22; decide))
      refine lv_iconst (v := 0) hx hb dX10_swap_19 (by decide) ?_
      obtain ⟨x23, t24, hd25⟩ := ex2 (D_X10_isThrown__ (q 0) (q 1) (q 2) (q 3) 0)
      replace hR := bnd2_use hd25 hR
      refine call_V (n := 1) (k0 := 0) (As := [.int 0]) (rest := []) hX hB (k_X10_isThrown__ κ l (mw κ a r f q (tb a) w) 0 (a 0) (a 1) (q 0) (q 1) (q 2) (q 3) 0 (mw0x (a := a) (r := r) (f := f) (q := q) (T := tb a) (w := w) rfl) x23 t24 hd25) ⟨rfl, by decide, by decide, by decide +kernel⟩ wm_6_15 wm_6_17 wp_33 wm_1_6 wm_6_18 ⟨Nat.le_of_ble_eq_true rfl, Nat.le_of_ble_eq_true rfl⟩ ⟨Nat.le_of_ble_eq_true rfl, Nat.le_of_ble_eq_true rfl⟩ (mw0x (a := a) (r := r) (f := f) (q := q) (T := tb a) (w := w) rfl) rfl rfl rfl hl.1 rfl (Nat.le_of_ble_eq_true rfl) dX10_swap_20 (fun o w' H locs hp hB => ?_)
      obtain ⟨rfl, hf26, hw9⟩ := hp
      replace hB : Bd κ A s (mw κ a r f (va_up q 3 t24) (tb a) w) H locs := by exact Bd_eq (mwQ3x rfl _) (by rw [hw9] at hB; exact hB)
      obtain rfl : x23 = 0 := hf26.trans (by decide)
      refine W.eq (g2 := F0 m 23 ls [.int 0]) rfl ?_
      refine lv_if_eq (tgt := 28) hx hb dX10_swap_23 (by decide) (fun _ => ?_) (fun c27 => False.elim (by revert c27; decide))
      refine lv_aload_n hx hb dX10_swap_28 rfl (lv_at hl 0 rfl) ?_
      refine gf (k0 := 0) hX hB (mw0x (a := a) (r := r) (f := f) (q := (va_up q 3 t24)) (T := tb a) (w := w) rfl) rfl in10 0 (by decide) wm_5_162 rfl rfl dX10_swap_29 ?_
      refine lv_iload_n hx hb dX10_swap_32 rfl (lv_at hl 1 rfl) ?_
      refine aaldM (k0 := 1) hX hB (mw1 (a := a) (r := r) (f := f) (q := (va_up q 3 t24)) (T := tb a) (w := w)) (vp_in_mk (by assumption) (by assumption)) rfl dX10_swap_33 ?_
      have hb28 := mok_r hm y.toNatClampNeg (by omega)
      refine lv_aload_n hx hb dX10_swap_34 rfl (lv_at hl 0 rfl) ?_
      refine gf (k0 := 0) hX hB (mw0x (a := a) (r := r) (f := f) (q := (va_up q 3 t24)) (T := tb a) (w := w) rfl) rfl in10 0 (by decide) wm_5_162 rfl rfl dX10_swap_35 ?_
      refine lv_iload_n hx hb dX10_swap_38 rfl (lv_at hl 2 rfl) ?_
      refine aaldM (k0 := 1) hX hB (mw1 (a := a) (r := r) (f := f) (q := (va_up q 3 t24)) (T := tb a) (w := w)) (vp_in_mk (by assumption) (by assumption)) rfl dX10_swap_39 ?_
      have hb29 := mok_r hm z.toNatClampNeg (by omega)
      obtain ⟨x30, hd31⟩ := ex1 (D_X7_isSame (r (2 * y.toNatClampNeg)) (r (2 * y.toNatClampNeg + 1)) (f y.toNatClampNeg) (r (2 * z.toNatClampNeg)) (r (2 * z.toNatClampNeg + 1)) (f z.toNatClampNeg))
      replace hR := bnd1_use hd31 hR
      refine call_V (n := 1) (k0 := (2 + 2 * y.toNatClampNeg)) (As := [.ref (a (2 + 2 * z.toNatClampNeg))]) (rest := []) hX hB (k_X7_isSame κ l (mw κ a r f (va_up q 3 t24) (tb a) w) (2 + 2 * y.toNatClampNeg) (3 + 2 * y.toNatClampNeg) (a (2 + 2 * y.toNatClampNeg)) (a (3 + 2 * y.toNatClampNeg)) (r (2 * y.toNatClampNeg)) (r (2 * y.toNatClampNeg + 1)) (f y.toNatClampNeg) (2 + 2 * z.toNatClampNeg) (3 + 2 * z.toNatClampNeg) (a (2 + 2 * z.toNatClampNeg)) (a (3 + 2 * z.toNatClampNeg)) (r (2 * z.toNatClampNeg)) (r (2 * z.toNatClampNeg + 1)) (f z.toNatClampNeg) (mwG (i := y.toNatClampNeg) (a := a) (r := r) (f := f) (q := (va_up q 3 t24)) (T := tb a) (w := w) (by omega)) (mwA (i := y.toNatClampNeg) (a := a) (r := r) (f := f) (q := (va_up q 3 t24)) (T := tb a) (w := w) (by omega)) (mok_shp (i := y.toNatClampNeg) hm (by omega)) (mwG (i := z.toNatClampNeg) (a := a) (r := r) (f := f) (q := (va_up q 3 t24)) (T := tb a) (w := w) (by omega)) (mwA (i := z.toNatClampNeg) (a := a) (r := r) (f := f) (q := (va_up q 3 t24)) (T := tb a) (w := w) (by omega)) (mok_shp (i := z.toNatClampNeg) hm (by omega)) x30 hd31) ⟨rfl, by decide, by decide, by decide +kernel⟩ wm_6_19 wm_6_20 wm_6_21 wm_1_7 wm_6_22 ⟨Nat.le_of_ble_eq_true rfl, Nat.le_of_ble_eq_true rfl⟩ ⟨Nat.le_of_ble_eq_true rfl, Nat.le_of_ble_eq_true rfl⟩ (mwG (i := y.toNatClampNeg) (a := a) (r := r) (f := f) (q := (va_up q 3 t24)) (T := tb a) (w := w) (by omega)) rfl rfl rfl hl.1 rfl (Nat.le_of_ble_eq_true rfl) dX10_swap_40 (fun o w' H locs hp hB => ?_)
      obtain ⟨rfl, hf32, hw9⟩ := hp
      replace hB : Bd κ A s (mw κ a r f (va_up q 3 t24) (tb a) w) H locs := by rw [hw9] at hB; exact hB
      rcases hf32 with rfl | rfl
      · replace hR := ifp rfl hR
        refine W.eq (g2 := F0 m 43 ls [.int 0]) rfl ?_
        refine lv_if_ne (tgt := 50) hx hb dX10_swap_43 (by decide) (fun c33 => False.elim (by revert c33; decide)) (fun _ => ?_)
        refine lv_iconst (v := 1) hx hb dX10_swap_46 (by decide) ?_
        refine lv_goto (tgt := 51) hx hb dX10_swap_47 (by decide) ?_
        refine lv_istore_n (lv' := [(3, .int 1), (0, .ref (a 0)), (1, .int y), (2, .int z)]) hx hb dX10_swap_51 rfl hl (by decide) rfl (fun ls hl => ?_)
        refine lv_aload_n hx hb dX10_swap_52 rfl (lv_at hl 1 rfl) ?_
        refine gf (k0 := 0) hX hB (mw0x (a := a) (r := r) (f := f) (q := (va_up q 3 t24)) (T := tb a) (w := w) rfl) rfl in10 0 (by decide) wm_5_162 rfl rfl dX10_swap_53 ?_
        refine lv_iload_n hx hb dX10_swap_56 rfl (lv_at hl 2 rfl) ?_
        refine aaldM (k0 := 1) hX hB (mw1 (a := a) (r := r) (f := f) (q := (va_up q 3 t24)) (T := tb a) (w := w)) (vp_in_mk (by assumption) (by assumption)) rfl dX10_swap_57 ?_
        have hb34 := mok_r hm y.toNatClampNeg (by omega)
        refine lv_astore (lv' := [(4, .ref (a (2 + 2 * y.toNatClampNeg))), (3, .int 1), (0, .ref (a 0)), (1, .int y), (2, .int z)]) hx hb dX10_swap_58 hl (by decide) rfl (fun ls hl => ?_)
        refine lv_aload_n hx hb dX10_swap_60 rfl (lv_at hl 2 rfl) ?_
        refine gf (k0 := 0) hX hB (mw0x (a := a) (r := r) (f := f) (q := (va_up q 3 t24)) (T := tb a) (w := w) rfl) rfl in10 0 (by decide) wm_5_162 rfl rfl dX10_swap_61 ?_
        refine lv_iload_n hx hb dX10_swap_64 rfl (lv_at hl 3 rfl) ?_
        refine lv_aload_n hx hb dX10_swap_65 rfl (lv_at hl 2 rfl) ?_
        refine gf (k0 := 0) hX hB (mw0x (a := a) (r := r) (f := f) (q := (va_up q 3 t24)) (T := tb a) (w := w) rfl) rfl in10 0 (by decide) wm_5_162 rfl rfl dX10_swap_66 ?_
        refine lv_iload_n hx hb dX10_swap_69 rfl (lv_at hl 4 rfl) ?_
        refine aaldM (k0 := 1) hX hB (mw1 (a := a) (r := r) (f := f) (q := (va_up q 3 t24)) (T := tb a) (w := w)) (vp_in_mk (by assumption) (by assumption)) rfl dX10_swap_70 ?_
        have hb35 := mok_r hm z.toNatClampNeg (by omega)
        refine astM (f := tb a) (k0 := 1) (k1 := 2 + 2 * z.toNatClampNeg) hX hB (mw1 (a := a) (r := r) (f := f) (q := (va_up q 3 t24)) (T := tb a) (w := w)) (mwG (i := z.toNatClampNeg) (a := a) (r := r) (f := f) (q := (va_up q 3 t24)) (T := tb a) (w := w) (by omega)) (vp_in_mk (by assumption) (by assumption)) (w1 := mw κ a r f (va_up q 3 t24) (va_up (tb a) y.toNatClampNeg (some (a (2 + 2 * z.toNatClampNeg)))) w) (mwST _) dX10_swap_71 (fun H locs hB => ?_)
        refine lv_aload_n hx hb dX10_swap_72 rfl (lv_at hl 2 rfl) ?_
        refine gf (k0 := 0) hX hB (mw0x (a := a) (r := r) (f := f) (q := (va_up q 3 t24)) (T := va_up (tb a) y.toNatClampNeg (some (a (2 + 2 * z.toNatClampNeg)))) (w := w) rfl) rfl in10 0 (by decide) wm_5_162 rfl rfl dX10_swap_73 ?_
        refine lv_iload_n hx hb dX10_swap_76 rfl (lv_at hl 4 rfl) ?_
        refine lv_aload hx hb dX10_swap_77 (lv_at hl 0 rfl) ?_
        refine astM (f := va_up (tb a) y.toNatClampNeg (some (a (2 + 2 * z.toNatClampNeg)))) (k0 := 1) (k1 := 2 + 2 * y.toNatClampNeg) hX hB (mw1 (a := a) (r := r) (f := f) (q := (va_up q 3 t24)) (T := va_up (tb a) y.toNatClampNeg (some (a (2 + 2 * z.toNatClampNeg)))) (w := w)) (mwG (i := y.toNatClampNeg) (a := a) (r := r) (f := f) (q := (va_up q 3 t24)) (T := va_up (tb a) y.toNatClampNeg (some (a (2 + 2 * z.toNatClampNeg)))) (w := w) (by omega)) (vp_in_mk (by assumption) (by assumption)) (w1 := mw κ a r f (va_up q 3 t24) (va_up (va_up (tb a) y.toNatClampNeg (some (a (2 + 2 * z.toNatClampNeg)))) z.toNatClampNeg (some (a (2 + 2 * y.toNatClampNeg)))) w) (mwST _) dX10_swap_79 (fun H locs hB => ?_)
        obtain ⟨a36, ha37, hB⟩ := Bd_swap2 (t := y.toNatClampNeg) (u := z.toNatClampNeg) (by omega) (by omega) hB
        refine lv_aload_n hx hb dX10_swap_80 rfl (lv_at hl 2 rfl) ?_
        refine lv_iload_n hx hb dX10_swap_81 rfl (lv_at hl 1 rfl) ?_
        refine lv_if_eq (tgt := 89) hx hb dX10_swap_82 (by decide) (fun c38 => False.elim (by revert c38; decide)) (fun _ => ?_)
        refine lv_iconst (v := 1) hx hb dX10_swap_85 (by decide) ?_
        refine lv_goto (tgt := 90) hx hb dX10_swap_86 (by decide) ?_
        refine call_V (n := 1) (k0 := 0) (As := [.int 1]) (rest := []) hX hB (k_X10_told κ l (mw κ a36 (fun k => r (swr y.toNatClampNeg z.toNatClampNeg k)) (fun k => f (sw1 y.toNatClampNeg z.toNatClampNeg k)) (va_up q 3 t24) (tb a36) w) 0 (a 0) (a36 1) ((va_up q 3 t24) 0) ((va_up q 3 t24) 1) ((va_up q 3 t24) 2) ((va_up q 3 t24) 3) 1 (mw0x (a := a36) (r := (fun k => r (swr y.toNatClampNeg z.toNatClampNeg k))) (f := (fun k => f (sw1 y.toNatClampNeg z.toNatClampNeg k))) (q := (va_up q 3 t24)) (T := tb a36) (w := w) (ha37.trans rfl))) ⟨rfl, by decide, by decide, by decide +kernel⟩ wm_5_208 wm_5_210 wp_30 wm_1_6 wm_5_211 ⟨Nat.le_of_ble_eq_true rfl, Nat.le_of_ble_eq_true rfl⟩ ⟨Nat.le_of_ble_eq_true rfl, Nat.le_of_ble_eq_true rfl⟩ (mw0x (a := a36) (r := (fun k => r (swr y.toNatClampNeg z.toNatClampNeg k))) (f := (fun k => f (sw1 y.toNatClampNeg z.toNatClampNeg k))) (q := (va_up q 3 t24)) (T := tb a36) (w := w) (ha37.trans rfl)) rfl rfl rfl hl.1 rfl (Nat.le_of_ble_eq_true rfl) dX10_swap_90 (fun o w' H locs hp hB => ?_)
        obtain ⟨rfl, hw9⟩ := hp
        replace hB : Bd κ A s (mw κ a36 (fun k => r (swr y.toNatClampNeg z.toNatClampNeg k)) (fun k => f (sw1 y.toNatClampNeg z.toNatClampNeg k)) (va_up (va_up q 3 t24) 0 (((va_up q 3 t24) 0) + 1)) (tb a36) w) H locs := by exact Bd_eq (mwQ0x (ha37.trans rfl) _) (by rw [hw9] at hB; exact hB)
        refine W.eq (g2 := F0 m 93 ls [.int 1]) rfl ?_
        rw [← hQ]
        exact end_i hX hB hA3 rfl rfl (by obtain ⟨rfl, rfl, rfl, rfl⟩ := pr4 hR; exact ⟨a36, rfl, (ha37.trans rfl), (mok_swap hm (t := y.toNatClampNeg) (u := z.toNatClampNeg) (by omega) (by omega)), rfl, rfl⟩) (Nat.le_of_ble_eq_true rfl) (Nat.le_of_ble_eq_true rfl) dX10_swap_93
      · replace hR := ifn (by decide) hR
        refine W.eq (g2 := F0 m 43 ls [.int 1]) rfl ?_
        refine lv_if_ne (tgt := 50) hx hb dX10_swap_43 (by decide) (fun _ => ?_) (fun c39 => False.elim (by revert c39; decide))
        refine lv_iconst (v := 0) hx hb dX10_swap_50 (by decide) ?_
        refine lv_istore_n (lv' := [(3, .int 0), (0, .ref (a 0)), (1, .int y), (2, .int z)]) hx hb dX10_swap_51 rfl hl (by decide) rfl (fun ls hl => ?_)
        refine lv_aload_n hx hb dX10_swap_52 rfl (lv_at hl 1 rfl) ?_
        refine gf (k0 := 0) hX hB (mw0x (a := a) (r := r) (f := f) (q := (va_up q 3 t24)) (T := tb a) (w := w) rfl) rfl in10 0 (by decide) wm_5_162 rfl rfl dX10_swap_53 ?_
        refine lv_iload_n hx hb dX10_swap_56 rfl (lv_at hl 2 rfl) ?_
        refine aaldM (k0 := 1) hX hB (mw1 (a := a) (r := r) (f := f) (q := (va_up q 3 t24)) (T := tb a) (w := w)) (vp_in_mk (by assumption) (by assumption)) rfl dX10_swap_57 ?_
        have hb40 := mok_r hm y.toNatClampNeg (by omega)
        refine lv_astore (lv' := [(4, .ref (a (2 + 2 * y.toNatClampNeg))), (3, .int 0), (0, .ref (a 0)), (1, .int y), (2, .int z)]) hx hb dX10_swap_58 hl (by decide) rfl (fun ls hl => ?_)
        refine lv_aload_n hx hb dX10_swap_60 rfl (lv_at hl 2 rfl) ?_
        refine gf (k0 := 0) hX hB (mw0x (a := a) (r := r) (f := f) (q := (va_up q 3 t24)) (T := tb a) (w := w) rfl) rfl in10 0 (by decide) wm_5_162 rfl rfl dX10_swap_61 ?_
        refine lv_iload_n hx hb dX10_swap_64 rfl (lv_at hl 3 rfl) ?_
        refine lv_aload_n hx hb dX10_swap_65 rfl (lv_at hl 2 rfl) ?_
        refine gf (k0 := 0) hX hB (mw0x (a := a) (r := r) (f := f) (q := (va_up q 3 t24)) (T := tb a) (w := w) rfl) rfl in10 0 (by decide) wm_5_162 rfl rfl dX10_swap_66 ?_
        refine lv_iload_n hx hb dX10_swap_69 rfl (lv_at hl 4 rfl) ?_
        refine aaldM (k0 := 1) hX hB (mw1 (a := a) (r := r) (f := f) (q := (va_up q 3 t24)) (T := tb a) (w := w)) (vp_in_mk (by assumption) (by assumption)) rfl dX10_swap_70 ?_
        have hb41 := mok_r hm z.toNatClampNeg (by omega)
        refine astM (f := tb a) (k0 := 1) (k1 := 2 + 2 * z.toNatClampNeg) hX hB (mw1 (a := a) (r := r) (f := f) (q := (va_up q 3 t24)) (T := tb a) (w := w)) (mwG (i := z.toNatClampNeg) (a := a) (r := r) (f := f) (q := (va_up q 3 t24)) (T := tb a) (w := w) (by omega)) (vp_in_mk (by assumption) (by assumption)) (w1 := mw κ a r f (va_up q 3 t24) (va_up (tb a) y.toNatClampNeg (some (a (2 + 2 * z.toNatClampNeg)))) w) (mwST _) dX10_swap_71 (fun H locs hB => ?_)
        refine lv_aload_n hx hb dX10_swap_72 rfl (lv_at hl 2 rfl) ?_
        refine gf (k0 := 0) hX hB (mw0x (a := a) (r := r) (f := f) (q := (va_up q 3 t24)) (T := va_up (tb a) y.toNatClampNeg (some (a (2 + 2 * z.toNatClampNeg)))) (w := w) rfl) rfl in10 0 (by decide) wm_5_162 rfl rfl dX10_swap_73 ?_
        refine lv_iload_n hx hb dX10_swap_76 rfl (lv_at hl 4 rfl) ?_
        refine lv_aload hx hb dX10_swap_77 (lv_at hl 0 rfl) ?_
        refine astM (f := va_up (tb a) y.toNatClampNeg (some (a (2 + 2 * z.toNatClampNeg)))) (k0 := 1) (k1 := 2 + 2 * y.toNatClampNeg) hX hB (mw1 (a := a) (r := r) (f := f) (q := (va_up q 3 t24)) (T := va_up (tb a) y.toNatClampNeg (some (a (2 + 2 * z.toNatClampNeg)))) (w := w)) (mwG (i := y.toNatClampNeg) (a := a) (r := r) (f := f) (q := (va_up q 3 t24)) (T := va_up (tb a) y.toNatClampNeg (some (a (2 + 2 * z.toNatClampNeg)))) (w := w) (by omega)) (vp_in_mk (by assumption) (by assumption)) (w1 := mw κ a r f (va_up q 3 t24) (va_up (va_up (tb a) y.toNatClampNeg (some (a (2 + 2 * z.toNatClampNeg)))) z.toNatClampNeg (some (a (2 + 2 * y.toNatClampNeg)))) w) (mwST _) dX10_swap_79 (fun H locs hB => ?_)
        obtain ⟨a42, ha43, hB⟩ := Bd_swap2 (t := y.toNatClampNeg) (u := z.toNatClampNeg) (by omega) (by omega) hB
        refine lv_aload_n hx hb dX10_swap_80 rfl (lv_at hl 2 rfl) ?_
        refine lv_iload_n hx hb dX10_swap_81 rfl (lv_at hl 1 rfl) ?_
        refine lv_if_eq (tgt := 89) hx hb dX10_swap_82 (by decide) (fun _ => ?_) (fun c44 => False.elim (by revert c44; decide))
        refine lv_iconst (v := 0) hx hb dX10_swap_89 (by decide) ?_
        refine call_V (n := 1) (k0 := 0) (As := [.int 0]) (rest := []) hX hB (k_X10_told κ l (mw κ a42 (fun k => r (swr y.toNatClampNeg z.toNatClampNeg k)) (fun k => f (sw1 y.toNatClampNeg z.toNatClampNeg k)) (va_up q 3 t24) (tb a42) w) 0 (a 0) (a42 1) ((va_up q 3 t24) 0) ((va_up q 3 t24) 1) ((va_up q 3 t24) 2) ((va_up q 3 t24) 3) 0 (mw0x (a := a42) (r := (fun k => r (swr y.toNatClampNeg z.toNatClampNeg k))) (f := (fun k => f (sw1 y.toNatClampNeg z.toNatClampNeg k))) (q := (va_up q 3 t24)) (T := tb a42) (w := w) (ha43.trans rfl))) ⟨rfl, by decide, by decide, by decide +kernel⟩ wm_5_208 wm_5_210 wp_30 wm_1_6 wm_5_211 ⟨Nat.le_of_ble_eq_true rfl, Nat.le_of_ble_eq_true rfl⟩ ⟨Nat.le_of_ble_eq_true rfl, Nat.le_of_ble_eq_true rfl⟩ (mw0x (a := a42) (r := (fun k => r (swr y.toNatClampNeg z.toNatClampNeg k))) (f := (fun k => f (sw1 y.toNatClampNeg z.toNatClampNeg k))) (q := (va_up q 3 t24)) (T := tb a42) (w := w) (ha43.trans rfl)) rfl rfl rfl hl.1 rfl (Nat.le_of_ble_eq_true rfl) dX10_swap_90 (fun o w' H locs hp hB => ?_)
        obtain ⟨rfl, hw9⟩ := hp
        replace hB : Bd κ A s (mw κ a42 (fun k => r (swr y.toNatClampNeg z.toNatClampNeg k)) (fun k => f (sw1 y.toNatClampNeg z.toNatClampNeg k)) (va_up (va_up q 3 t24) 0 (((va_up q 3 t24) 0) + 1)) (tb a42) w) H locs := by exact Bd_eq (mwQ0x (ha43.trans rfl) _) (by rw [hw9] at hB; exact hB)
        refine W.eq (g2 := F0 m 93 ls [.int 0]) rfl ?_
        rw [← hQ]
        exact end_i hX hB hA3 rfl rfl (by obtain ⟨rfl, rfl, rfl, rfl⟩ := pr4 hR; exact ⟨a42, rfl, (ha43.trans rfl), (mok_swap hm (t := y.toNatClampNeg) (u := z.toNatClampNeg) (by omega) (by omega)), rfl, rfl⟩) (Nat.le_of_ble_eq_true rfl) (Nat.le_of_ble_eq_true rfl) dX10_swap_93
noncomputable def D_X10_flip (r : Nat → Nat) (f : Nat → Nat → Int64) (q : Nat → Int32) (y : Int32) : Int32 × (Nat → Nat) × (Nat → Nat → Int64) × (Nat → Int32) := bnd1 (D_X10_isTable y) (fun (z1 : Int32) => (if z1 = 0 then bnd2 (D_X10_isThrown__ (q 0) (q 1) (q 2) (q 3) 1) (fun (x6 : Int32) (t7 : Int32) => (0, r, f, va_up q 3 t7)) else bnd2 (D_X10_isThrown__ (q 0) (q 1) (q 2) (q 3) 0) (fun (x12 : Int32) (t13 : Int32) => bnd1 (D_X10_flipped (r (2 * y.toNatClampNeg)) (r (2 * y.toNatClampNeg + 1)) (f y.toNatClampNeg)) (fun (F20 : Nat → Int64) => (nI ((va_up (va_up r (2 * y.toNatClampNeg) (r (2 * y.toNatClampNeg + 1))) (2 * y.toNatClampNeg + 1) (r (2 * y.toNatClampNeg))) (2 * y.toNatClampNeg)), va_up (va_up r (2 * y.toNatClampNeg) (r (2 * y.toNatClampNeg + 1))) (2 * y.toNatClampNeg + 1) (r (2 * y.toNatClampNeg)), va_up f y.toNatClampNeg F20, va_up (va_up q 3 t13) 0 (((va_up q 3 t13) 0) + 1))))))
theorem D_X10_flip_s {r : Nat → Nat} {f : Nat → Nat → Int64} {q : Nat → Int32} {y : Int32} : D_X10_flip r f q y = bnd1 (D_X10_isTable y) (fun (z1 : Int32) => (if z1 = 0 then bnd2 (D_X10_isThrown__ (q 0) (q 1) (q 2) (q 3) 1) (fun (x6 : Int32) (t7 : Int32) => (0, r, f, va_up q 3 t7)) else bnd2 (D_X10_isThrown__ (q 0) (q 1) (q 2) (q 3) 0) (fun (x12 : Int32) (t13 : Int32) => bnd1 (D_X10_flipped (r (2 * y.toNatClampNeg)) (r (2 * y.toNatClampNeg + 1)) (f y.toNatClampNeg)) (fun (F20 : Nat → Int64) => (nI ((va_up (va_up r (2 * y.toNatClampNeg) (r (2 * y.toNatClampNeg + 1))) (2 * y.toNatClampNeg + 1) (r (2 * y.toNatClampNeg))) (2 * y.toNatClampNeg)), va_up (va_up r (2 * y.toNatClampNeg) (r (2 * y.toNatClampNeg + 1))) (2 * y.toNatClampNeg + 1) (r (2 * y.toNatClampNeg)), va_up f y.toNatClampNeg F20, va_up (va_up q 3 t13) 0 (((va_up q 3 t13) 0) + 1)))))) := rfl
set_option maxHeartbeats 4000000 in
set_option maxRecDepth 100000 in
theorem k_X10_flip (κ : Kt) (l : Launch) (w : va_W) (a r : Nat → Nat) (f : Nat → Nat → Int64) (q : Nat → Int32) (y : Int32) (hm : mok r f) (o_x : Int32) (o_r' : Nat → Nat) (o_f' : Nat → Nat → Int64) (o_q' : Nat → Int32) (hR : D_X10_flip r f q y = (o_x, o_r', o_f', o_q')) : CM κ l yX10_flip cX10_flip 2 (some .int) 3 65 2 23 [.ref (a 0), .int y] (mw κ a r f q (tb a) w) (fun o w' => ∃ (a' : Nat → Nat), o = some (.int o_x) ∧ (a' 0 = a 0) ∧ (mok o_r' o_f') ∧ (o_q' 2 = q 2) ∧ w' = mw κ a' o_r' o_f' o_q' (tb a') w) := by
  refine CM_begin (plainFor_of_name (by decide)) (Nat.le_of_ble_eq_true rfl) ?_
  intro p e s m args below meth c A Q hX hnm hA3 hQ hB ls hl
  have hx := hX.1.1
  have hb := hX.1.2.1
  have hl : lv_has ls 2 [(0, .ref (a 0)), (1, .int y)] := hl
  replace hR := (D_X10_flip_s).symm.trans hR
  refine lv_aload_n hx hb dX10_flip_0 rfl (lv_at hl 0 rfl) ?_
  refine lv_iload_n hx hb dX10_flip_1 rfl (lv_at hl 1 rfl) ?_
  obtain ⟨z1, hd2⟩ := ex1 (D_X10_isTable y)
  replace hR := bnd1_use hd2 hR
  refine call_S (n := 1) (As := [.int y]) (rest := [.ref (a 0)]) hX hB (k_X10_isTable κ l (mw κ a r f q (tb a) w) y z1 hd2) ⟨by decide, by decide, by decide +kernel⟩ wm_5_186 wm_5_187 wm_1_6 wm_5_188 ⟨Nat.le_of_ble_eq_true rfl, Nat.le_of_ble_eq_true rfl⟩ ⟨Nat.le_of_ble_eq_true rfl, Nat.le_of_ble_eq_true rfl⟩ rfl hl.1 rfl (Nat.le_of_ble_eq_true rfl) dX10_flip_2 (fun o w' H locs hp hB => ?_)
  obtain ⟨rfl, hf3, hw9⟩ := hp
  replace hB : Bd κ A s (mw κ a r f q (tb a) w) H locs := by rw [hw9] at hB; exact hB
  rcases hf3 with rfl | ⟨rfl, hz4a, hz4b⟩
  · replace hR := ifp rfl hR
    refine W.eq (g2 := F0 m 5 ls [.int 0, .ref (a 0)]) rfl ?_
    refine lv_if_ne (tgt := 12) hx hb dX10_flip_5 (by decide) (fun c5 => False.elim (by revert c5; decide)) (fun _ => ?_)
    refine lv_iconst (v := 1) hx hb dX10_flip_8 (by decide) ?_
    refine lv_goto (tgt := 13) hx hb dX10_flip_9 (by decide) ?_
    obtain ⟨x6, t7, hd8⟩ := ex2 (D_X10_isThrown__ (q 0) (q 1) (q 2) (q 3) 1)
    replace hR := bnd2_use hd8 hR
    refine call_V (n := 1) (k0 := 0) (As := [.int 1]) (rest := []) hX hB (k_X10_isThrown__ κ l (mw κ a r f q (tb a) w) 0 (a 0) (a 1) (q 0) (q 1) (q 2) (q 3) 1 (mw0x (a := a) (r := r) (f := f) (q := q) (T := tb a) (w := w) rfl) x6 t7 hd8) ⟨rfl, by decide, by decide, by decide +kernel⟩ wm_6_15 wm_6_17 wp_33 wm_1_6 wm_6_18 ⟨Nat.le_of_ble_eq_true rfl, Nat.le_of_ble_eq_true rfl⟩ ⟨Nat.le_of_ble_eq_true rfl, Nat.le_of_ble_eq_true rfl⟩ (mw0x (a := a) (r := r) (f := f) (q := q) (T := tb a) (w := w) rfl) rfl rfl rfl hl.1 rfl (Nat.le_of_ble_eq_true rfl) dX10_flip_13 (fun o w' H locs hp hB => ?_)
    obtain ⟨rfl, hf9, hw9⟩ := hp
    replace hB : Bd κ A s (mw κ a r f (va_up q 3 t7) (tb a) w) H locs := by exact Bd_eq (mwQ3x rfl _) (by rw [hw9] at hB; exact hB)
    obtain rfl : x6 = 1 := hf9.trans (by decide)
    refine W.eq (g2 := F0 m 16 ls [.int 1]) rfl ?_
    refine lv_if_eq (tgt := 21) hx hb dX10_flip_16 (by decide) (fun c10 => False.elim (by revert c10; decide)) (fun _ => ?_)
    refine lv_iconst (v := 0) hx hb dX10_flip_19 (by decide) ?_
    rw [← hQ]
    exact end_i hX hB hA3 rfl rfl (by obtain ⟨rfl, rfl, rfl, rfl⟩ := pr4 hR; exact ⟨a, rfl, rfl, hm, rfl, rfl⟩) (Nat.le_of_ble_eq_true rfl) (Nat.le_of_ble_eq_true rfl) dX10_flip_20
  · replace hR := ifn (by decide) hR
    refine W.eq (g2 := F0 m 5 ls [.int 1, .ref (a 0)]) rfl ?_
    refine lv_if_ne (tgt := 12) hx hb dX10_flip_5 (by decide) (fun _ => ?_) (fun c11 => False.elim (by revert c11; decide))
    refine lv_iconst (v := 0) hx hb dX10_flip_12 (by decide) ?_
    obtain ⟨x12, t13, hd14⟩ := ex2 (D_X10_isThrown__ (q 0) (q 1) (q 2) (q 3) 0)
    replace hR := bnd2_use hd14 hR
    refine call_V (n := 1) (k0 := 0) (As := [.int 0]) (rest := []) hX hB (k_X10_isThrown__ κ l (mw κ a r f q (tb a) w) 0 (a 0) (a 1) (q 0) (q 1) (q 2) (q 3) 0 (mw0x (a := a) (r := r) (f := f) (q := q) (T := tb a) (w := w) rfl) x12 t13 hd14) ⟨rfl, by decide, by decide, by decide +kernel⟩ wm_6_15 wm_6_17 wp_33 wm_1_6 wm_6_18 ⟨Nat.le_of_ble_eq_true rfl, Nat.le_of_ble_eq_true rfl⟩ ⟨Nat.le_of_ble_eq_true rfl, Nat.le_of_ble_eq_true rfl⟩ (mw0x (a := a) (r := r) (f := f) (q := q) (T := tb a) (w := w) rfl) rfl rfl rfl hl.1 rfl (Nat.le_of_ble_eq_true rfl) dX10_flip_13 (fun o w' H locs hp hB => ?_)
    obtain ⟨rfl, hf15, hw9⟩ := hp
    replace hB : Bd κ A s (mw κ a r f (va_up q 3 t13) (tb a) w) H locs := by exact Bd_eq (mwQ3x rfl _) (by rw [hw9] at hB; exact hB)
    obtain rfl : x12 = 0 := hf15.trans (by decide)
    refine W.eq (g2 := F0 m 16 ls [.int 0]) rfl ?_
    refine lv_if_eq (tgt := 21) hx hb dX10_flip_16 (by decide) (fun _ => ?_) (fun c16 => False.elim (by revert c16; decide))
    refine lv_aload_n hx hb dX10_flip_21 rfl (lv_at hl 0 rfl) ?_
    refine gf (k0 := 0) hX hB (mw0x (a := a) (r := r) (f := f) (q := (va_up q 3 t13)) (T := tb a) (w := w) rfl) rfl in10 0 (by decide) wm_5_162 rfl rfl dX10_flip_22 ?_
    refine lv_iload_n hx hb dX10_flip_25 rfl (lv_at hl 1 rfl) ?_
    refine lv_aload_n hx hb dX10_flip_26 rfl (lv_at hl 0 rfl) ?_
    refine gf (k0 := 0) hX hB (mw0x (a := a) (r := r) (f := f) (q := (va_up q 3 t13)) (T := tb a) (w := w) rfl) rfl in10 0 (by decide) wm_5_162 rfl rfl dX10_flip_27 ?_
    refine lv_iload_n hx hb dX10_flip_30 rfl (lv_at hl 1 rfl) ?_
    refine aaldM (k0 := 1) hX hB (mw1 (a := a) (r := r) (f := f) (q := (va_up q 3 t13)) (T := tb a) (w := w)) (vp_in_mk (by assumption) (by assumption)) rfl dX10_flip_31 ?_
    have hb17 := mok_r hm y.toNatClampNeg (by omega)
    obtain ⟨F20, hd21⟩ := ex1 (D_X10_flipped (r (2 * y.toNatClampNeg)) (r (2 * y.toNatClampNeg + 1)) (f y.toNatClampNeg))
    replace hR := bnd1_use hd21 hR
    refine call_S (n := 1) (As := [.ref (a (2 + 2 * y.toNatClampNeg))]) (rest := [.int y, .ref (a 1)]) hX hB (k_X10_flipped κ l (mw κ a r f (va_up q 3 t13) (tb a) w) (2 + 2 * y.toNatClampNeg) (3 + 2 * y.toNatClampNeg) (a (2 + 2 * y.toNatClampNeg)) (a (3 + 2 * y.toNatClampNeg)) (r (2 * y.toNatClampNeg)) (r (2 * y.toNatClampNeg + 1)) (f y.toNatClampNeg) (mwG (i := y.toNatClampNeg) (a := a) (r := r) (f := f) (q := (va_up q 3 t13)) (T := tb a) (w := w) (by omega)) (mwA (i := y.toNatClampNeg) (a := a) (r := r) (f := f) (q := (va_up q 3 t13)) (T := tb a) (w := w) (by omega)) (mok_shp (i := y.toNatClampNeg) hm (by omega)) (by omega) ((hm _ (by omega)).2) F20 hd21) ⟨by decide, by decide, by decide +kernel⟩ wm_6_35 wm_6_36 wm_1_6 wm_6_37 ⟨Nat.le_of_ble_eq_true rfl, Nat.le_of_ble_eq_true rfl⟩ ⟨Nat.le_of_ble_eq_true rfl, Nat.le_of_ble_eq_true rfl⟩ rfl hl.1 rfl (Nat.le_of_ble_eq_true rfl) dX10_flip_32 (fun o w' H locs hp hB => ?_)
    obtain ⟨q18, q19, rfl, hf22, hw9⟩ := hp
    replace hB : Bd κ A s (lA κ q19 ((r (2 * y.toNatClampNeg + 1)) * 5) F20 :: gO q18 (r (2 * y.toNatClampNeg + 1)) (r (2 * y.toNatClampNeg)) q19 :: mw κ a r f (va_up q 3 t13) (tb a) w) H locs := by rw [hw9] at hB; exact hB
    refine W.eq (g2 := F0 m 35 ls [.ref q18, .int y, .ref (a 1)]) rfl ?_
    refine astM (f := tb a) (k0 := 3) (k1 := 1) hX hB (mw1 (a := a) (r := r) (f := f) (q := (va_up q 3 t13)) (T := tb a) (w := w)) rfl (vp_in_mk (by assumption) (by assumption)) (w1 := lA κ q19 ((r (2 * y.toNatClampNeg + 1)) * 5) F20 :: gO q18 (r (2 * y.toNatClampNeg + 1)) (r (2 * y.toNatClampNeg)) q19 :: mw κ a r f (va_up q 3 t13) (va_up (tb a) y.toNatClampNeg (some q18)) w) (congrArg (List.cons _) (congrArg (List.cons _) (mwST _))) dX10_flip_35 (fun H locs hB => ?_)
    obtain ⟨a23, ha24, hg25, hB⟩ := Bd_repl2 (t := y.toNatClampNeg) (by omega) hB
    have hba23 := mok_r hm y.toNatClampNeg (by omega)
    refine lv_aload_n hx hb dX10_flip_36 rfl (lv_at hl 0 rfl) ?_
    refine lv_aload_n hx hb dX10_flip_37 rfl (lv_at hl 0 rfl) ?_
    refine gf (k0 := 0) hX hB (mw0x (a := a23) (r := (va_up (va_up r (2 * y.toNatClampNeg) (r (2 * y.toNatClampNeg + 1))) (2 * y.toNatClampNeg + 1) (r (2 * y.toNatClampNeg)))) (f := (va_up f y.toNatClampNeg F20)) (q := (va_up q 3 t13)) (T := tb a23) (w := w) (ha24.trans rfl)) rfl in10 0 (by decide) wm_5_162 rfl rfl dX10_flip_38 ?_
    refine lv_iload_n hx hb dX10_flip_41 rfl (lv_at hl 1 rfl) ?_
    refine aaldM (k0 := 1) hX hB (mw1 (a := a23) (r := (va_up (va_up r (2 * y.toNatClampNeg) (r (2 * y.toNatClampNeg + 1))) (2 * y.toNatClampNeg + 1) (r (2 * y.toNatClampNeg)))) (f := (va_up f y.toNatClampNeg F20)) (q := (va_up q 3 t13)) (T := tb a23) (w := w)) (vp_in_mk (by assumption) (by assumption)) rfl dX10_flip_42 ?_
    have hb26 := mok_r (mok_repl (t := y.toNatClampNeg) (R := (r (2 * y.toNatClampNeg + 1))) (C := (r (2 * y.toNatClampNeg))) (F := F20) hm ⟨by omega, by omega, by omega, by omega⟩ hf22) y.toNatClampNeg (by omega)
    refine gf (k0 := 2 + 2 * y.toNatClampNeg) hX hB (mwG (i := y.toNatClampNeg) (a := a23) (r := (va_up (va_up r (2 * y.toNatClampNeg) (r (2 * y.toNatClampNeg + 1))) (2 * y.toNatClampNeg + 1) (r (2 * y.toNatClampNeg)))) (f := (va_up f y.toNatClampNeg F20)) (q := (va_up q 3 t13)) (T := tb a23) (w := w) (by omega)) rfl in7 0 (by decide) wm_5_148 rfl rfl dX10_flip_43 ?_
    refine call_V (n := 1) (k0 := 0) (As := [.int (nI ((va_up (va_up r (2 * y.toNatClampNeg) (r (2 * y.toNatClampNeg + 1))) (2 * y.toNatClampNeg + 1) (r (2 * y.toNatClampNeg))) (2 * y.toNatClampNeg)))]) (rest := []) hX hB (k_X10_told κ l (mw κ a23 (va_up (va_up r (2 * y.toNatClampNeg) (r (2 * y.toNatClampNeg + 1))) (2 * y.toNatClampNeg + 1) (r (2 * y.toNatClampNeg))) (va_up f y.toNatClampNeg F20) (va_up q 3 t13) (tb a23) w) 0 (a 0) (a23 1) ((va_up q 3 t13) 0) ((va_up q 3 t13) 1) ((va_up q 3 t13) 2) ((va_up q 3 t13) 3) (nI ((va_up (va_up r (2 * y.toNatClampNeg) (r (2 * y.toNatClampNeg + 1))) (2 * y.toNatClampNeg + 1) (r (2 * y.toNatClampNeg))) (2 * y.toNatClampNeg))) (mw0x (a := a23) (r := (va_up (va_up r (2 * y.toNatClampNeg) (r (2 * y.toNatClampNeg + 1))) (2 * y.toNatClampNeg + 1) (r (2 * y.toNatClampNeg)))) (f := (va_up f y.toNatClampNeg F20)) (q := (va_up q 3 t13)) (T := tb a23) (w := w) (ha24.trans rfl))) ⟨rfl, by decide, by decide, by decide +kernel⟩ wm_5_208 wm_5_210 wp_30 wm_1_6 wm_5_211 ⟨Nat.le_of_ble_eq_true rfl, Nat.le_of_ble_eq_true rfl⟩ ⟨Nat.le_of_ble_eq_true rfl, Nat.le_of_ble_eq_true rfl⟩ (mw0x (a := a23) (r := (va_up (va_up r (2 * y.toNatClampNeg) (r (2 * y.toNatClampNeg + 1))) (2 * y.toNatClampNeg + 1) (r (2 * y.toNatClampNeg)))) (f := (va_up f y.toNatClampNeg F20)) (q := (va_up q 3 t13)) (T := tb a23) (w := w) (ha24.trans rfl)) rfl rfl rfl hl.1 rfl (Nat.le_of_ble_eq_true rfl) dX10_flip_46 (fun o w' H locs hp hB => ?_)
    obtain ⟨rfl, hw9⟩ := hp
    replace hB : Bd κ A s (mw κ a23 (va_up (va_up r (2 * y.toNatClampNeg) (r (2 * y.toNatClampNeg + 1))) (2 * y.toNatClampNeg + 1) (r (2 * y.toNatClampNeg))) (va_up f y.toNatClampNeg F20) (va_up (va_up q 3 t13) 0 (((va_up q 3 t13) 0) + 1)) (tb a23) w) H locs := by exact Bd_eq (mwQ0x (ha24.trans rfl) _) (by rw [hw9] at hB; exact hB)
    refine W.eq (g2 := F0 m 49 ls [.int (nI ((va_up (va_up r (2 * y.toNatClampNeg) (r (2 * y.toNatClampNeg + 1))) (2 * y.toNatClampNeg + 1) (r (2 * y.toNatClampNeg))) (2 * y.toNatClampNeg)))]) rfl ?_
    rw [← hQ]
    exact end_i hX hB hA3 rfl rfl (by obtain ⟨rfl, rfl, rfl, rfl⟩ := pr4 hR; exact ⟨a23, rfl, (ha24.trans rfl), (mok_repl (t := y.toNatClampNeg) (R := (r (2 * y.toNatClampNeg + 1))) (C := (r (2 * y.toNatClampNeg))) (F := F20) hm ⟨by omega, by omega, by omega, by omega⟩ hf22), rfl, rfl⟩) (Nat.le_of_ble_eq_true rfl) (Nat.le_of_ble_eq_true rfl) dX10_flip_49
noncomputable def D_X10_exchange (r : Nat → Nat) (f : Nat → Nat → Int64) (q : Nat → Int32) (y : Int32) (c0 : Int32) (z : Int32) (u : Int32) : Int32 × (Nat → Nat) × (Nat → Nat → Int64) × (Nat → Int32) := bnd1 (D_X10_isLine r f q y c0 z) (fun (x1 : Int32) => (if x1 = 0 then bnd2 (D_X10_isThrown__ (q 0) (q 1) (q 2) (q 3) 1) (fun (x6 : Int32) (t7 : Int32) => (0, r, f, va_up q 3 t7)) else bnd1 (D_X10_isLine r f q y c0 u) (fun (x12 : Int32) => (if x12 = 0 then bnd2 (D_X10_isThrown__ (q 0) (q 1) (q 2) (q 3) 1) (fun (x17 : Int32) (t18 : Int32) => (0, r, f, va_up q 3 t18)) else bnd2 (D_X10_isThrown__ (q 0) (q 1) (q 2) (q 3) 0) (fun (x23 : Int32) (t24 : Int32) => bnd1 (D_X7_copy (r (2 * y.toNatClampNeg)) (r (2 * y.toNatClampNeg + 1)) (f y.toNatClampNeg)) (fun (F31 : Nat → Int64) => (if c0 = 0 then bnd4 (D_X10_changed r f (va_up q 3 t24) y (r (2 * y.toNatClampNeg)) (r (2 * y.toNatClampNeg + 1)) (xr (r (2 * y.toNatClampNeg + 1)) ((z).toNatClampNeg) ((u).toNatClampNeg) F31)) (fun (x35 : Int32) (rn37 : Nat → Nat) (fn38 : Nat → Nat → Int64) (qn39 : Nat → Int32) => (x35, rn37, fn38, qn39)) else bnd4 (D_X10_changed r f (va_up q 3 t24) y (r (2 * y.toNatClampNeg)) (r (2 * y.toNatClampNeg + 1)) (xc (r (2 * y.toNatClampNeg)) ((z).toNatClampNeg) ((u).toNatClampNeg) F31)) (fun (x44 : Int32) (rn46 : Nat → Nat) (fn47 : Nat → Nat → Int64) (qn48 : Nat → Int32) => (x44, rn46, fn47, qn48)))))))))
theorem D_X10_exchange_s {r : Nat → Nat} {f : Nat → Nat → Int64} {q : Nat → Int32} {y : Int32} {c0 : Int32} {z : Int32} {u : Int32} : D_X10_exchange r f q y c0 z u = bnd1 (D_X10_isLine r f q y c0 z) (fun (x1 : Int32) => (if x1 = 0 then bnd2 (D_X10_isThrown__ (q 0) (q 1) (q 2) (q 3) 1) (fun (x6 : Int32) (t7 : Int32) => (0, r, f, va_up q 3 t7)) else bnd1 (D_X10_isLine r f q y c0 u) (fun (x12 : Int32) => (if x12 = 0 then bnd2 (D_X10_isThrown__ (q 0) (q 1) (q 2) (q 3) 1) (fun (x17 : Int32) (t18 : Int32) => (0, r, f, va_up q 3 t18)) else bnd2 (D_X10_isThrown__ (q 0) (q 1) (q 2) (q 3) 0) (fun (x23 : Int32) (t24 : Int32) => bnd1 (D_X7_copy (r (2 * y.toNatClampNeg)) (r (2 * y.toNatClampNeg + 1)) (f y.toNatClampNeg)) (fun (F31 : Nat → Int64) => (if c0 = 0 then bnd4 (D_X10_changed r f (va_up q 3 t24) y (r (2 * y.toNatClampNeg)) (r (2 * y.toNatClampNeg + 1)) (xr (r (2 * y.toNatClampNeg + 1)) ((z).toNatClampNeg) ((u).toNatClampNeg) F31)) (fun (x35 : Int32) (rn37 : Nat → Nat) (fn38 : Nat → Nat → Int64) (qn39 : Nat → Int32) => (x35, rn37, fn38, qn39)) else bnd4 (D_X10_changed r f (va_up q 3 t24) y (r (2 * y.toNatClampNeg)) (r (2 * y.toNatClampNeg + 1)) (xc (r (2 * y.toNatClampNeg)) ((z).toNatClampNeg) ((u).toNatClampNeg) F31)) (fun (x44 : Int32) (rn46 : Nat → Nat) (fn47 : Nat → Nat → Int64) (qn48 : Nat → Int32) => (x44, rn46, fn47, qn48))))))))) := rfl
set_option maxHeartbeats 4000000 in
set_option maxRecDepth 100000 in
theorem k_X10_exchange (κ : Kt) (l : Launch) (w : va_W) (a r : Nat → Nat) (f : Nat → Nat → Int64) (q : Nat → Int32) (y : Int32) (c0 : Int32) (z : Int32) (u : Int32) (hm : mok r f) (o_x : Int32) (o_r' : Nat → Nat) (o_f' : Nat → Nat → Int64) (o_q' : Nat → Int32) (hR : D_X10_exchange r f q y c0 z u = (o_x, o_r', o_f', o_q')) : CM κ l yX10_exchange cX10_exchange 6 (some .int) 3 65 2 23 [.ref (a 0), .int y, .int c0, .int z, .int u] (mw κ a r f q (tb a) w) (fun o w' => ∃ (a' : Nat → Nat), o = some (.int o_x) ∧ (a' 0 = a 0) ∧ (mok o_r' o_f') ∧ (o_q' 2 = q 2) ∧ w' = mw κ a' o_r' o_f' o_q' (tb a') w) := by
  refine CM_begin (plainFor_of_name (by decide)) (Nat.le_of_ble_eq_true rfl) ?_
  intro p e s m args below meth c A Q hX hnm hA3 hQ hB ls hl
  have hx := hX.1.1
  have hb := hX.1.2.1
  have hl : lv_has ls 6 [(0, .ref (a 0)), (1, .int y), (2, .int c0), (3, .int z), (4, .int u)] := hl
  replace hR := (D_X10_exchange_s).symm.trans hR
  refine lv_aload_n hx hb dX10_exchange_0 rfl (lv_at hl 0 rfl) ?_
  refine lv_aload_n hx hb dX10_exchange_1 rfl (lv_at hl 0 rfl) ?_
  refine lv_iload_n hx hb dX10_exchange_2 rfl (lv_at hl 1 rfl) ?_
  refine lv_iload_n hx hb dX10_exchange_3 rfl (lv_at hl 2 rfl) ?_
  refine lv_iload_n hx hb dX10_exchange_4 rfl (lv_at hl 3 rfl) ?_
  obtain ⟨x1, hd2⟩ := ex1 (D_X10_isLine r f q y c0 z)
  replace hR := bnd1_use hd2 hR
  refine call_V (n := 3) (k0 := 0) (As := [.int y, .int c0, .int z]) (rest := [.ref (a 0)]) hX hB (k_X10_isLine κ l w a r f q y c0 z hm x1 hd2) ⟨rfl, by decide, by decide, by decide +kernel⟩ wm_6_42 wm_6_44 wp_34 wm_1_6 wm_6_45 ⟨Nat.le_of_ble_eq_true rfl, Nat.le_of_ble_eq_true rfl⟩ ⟨Nat.le_of_ble_eq_true rfl, Nat.le_of_ble_eq_true rfl⟩ (mw0x (a := a) (r := r) (f := f) (q := q) (T := tb a) (w := w) rfl) rfl rfl rfl hl.1 rfl (Nat.le_of_ble_eq_true rfl) dX10_exchange_5 (fun o w' H locs hp hB => ?_)
  obtain ⟨rfl, hf3, hw9⟩ := hp
  replace hB : Bd κ A s (mw κ a r f q (tb a) w) H locs := by rw [hw9] at hB; exact hB
  rcases hf3 with rfl | ⟨rfl, hz4a, hz4b, hz4c, hz4d, hz4e⟩
  · replace hR := ifp rfl hR
    refine W.eq (g2 := F0 m 8 ls [.int 0, .ref (a 0)]) rfl ?_
    refine lv_if_eq (tgt := 22) hx hb dX10_exchange_8 (by decide) (fun _ => ?_) (fun c5 => False.elim (by revert c5; decide))
    refine lv_iconst (v := 1) hx hb dX10_exchange_22 (by decide) ?_
    refine lv_goto (tgt := 27) hx hb dX10_exchange_23 (by decide) ?_
    obtain ⟨x6, t7, hd8⟩ := ex2 (D_X10_isThrown__ (q 0) (q 1) (q 2) (q 3) 1)
    replace hR := bnd2_use hd8 hR
    refine call_V (n := 1) (k0 := 0) (As := [.int 1]) (rest := []) hX hB (k_X10_isThrown__ κ l (mw κ a r f q (tb a) w) 0 (a 0) (a 1) (q 0) (q 1) (q 2) (q 3) 1 (mw0x (a := a) (r := r) (f := f) (q := q) (T := tb a) (w := w) rfl) x6 t7 hd8) ⟨rfl, by decide, by decide, by decide +kernel⟩ wm_6_15 wm_6_17 wp_33 wm_1_6 wm_6_18 ⟨Nat.le_of_ble_eq_true rfl, Nat.le_of_ble_eq_true rfl⟩ ⟨Nat.le_of_ble_eq_true rfl, Nat.le_of_ble_eq_true rfl⟩ (mw0x (a := a) (r := r) (f := f) (q := q) (T := tb a) (w := w) rfl) rfl rfl rfl hl.1 rfl (Nat.le_of_ble_eq_true rfl) dX10_exchange_27 (fun o w' H locs hp hB => ?_)
    obtain ⟨rfl, hf9, hw9⟩ := hp
    replace hB : Bd κ A s (mw κ a r f (va_up q 3 t7) (tb a) w) H locs := by exact Bd_eq (mwQ3x rfl _) (by rw [hw9] at hB; exact hB)
    obtain rfl : x6 = 1 := hf9.trans (by decide)
    refine W.eq (g2 := F0 m 30 ls [.int 1]) rfl ?_
    refine lv_if_eq (tgt := 35) hx hb dX10_exchange_30 (by decide) (fun c10 => False.elim (by revert c10; decide)) (fun _ => ?_)
    refine lv_iconst (v := 0) hx hb dX10_exchange_33 (by decide) ?_
    rw [← hQ]
    exact end_i hX hB hA3 rfl rfl (by obtain ⟨rfl, rfl, rfl, rfl⟩ := pr4 hR; exact ⟨a, rfl, rfl, hm, rfl, rfl⟩) (Nat.le_of_ble_eq_true rfl) (Nat.le_of_ble_eq_true rfl) dX10_exchange_34
  · replace hR := ifn (by decide) hR
    refine W.eq (g2 := F0 m 8 ls [.int 1, .ref (a 0)]) rfl ?_
    refine lv_if_eq (tgt := 22) hx hb dX10_exchange_8 (by decide) (fun c11 => False.elim (by revert c11; decide)) (fun _ => ?_)
    refine lv_aload_n hx hb dX10_exchange_11 rfl (lv_at hl 0 rfl) ?_
    refine lv_iload_n hx hb dX10_exchange_12 rfl (lv_at hl 1 rfl) ?_
    refine lv_iload_n hx hb dX10_exchange_13 rfl (lv_at hl 2 rfl) ?_
    refine lv_iload hx hb dX10_exchange_14 (lv_at hl 4 rfl) ?_
    obtain ⟨x12, hd13⟩ := ex1 (D_X10_isLine r f q y c0 u)
    replace hR := bnd1_use hd13 hR
    refine call_V (n := 3) (k0 := 0) (As := [.int y, .int c0, .int u]) (rest := [.ref (a 0)]) hX hB (k_X10_isLine κ l w a r f q y c0 u hm x12 hd13) ⟨rfl, by decide, by decide, by decide +kernel⟩ wm_6_42 wm_6_44 wp_34 wm_1_6 wm_6_45 ⟨Nat.le_of_ble_eq_true rfl, Nat.le_of_ble_eq_true rfl⟩ ⟨Nat.le_of_ble_eq_true rfl, Nat.le_of_ble_eq_true rfl⟩ (mw0x (a := a) (r := r) (f := f) (q := q) (T := tb a) (w := w) rfl) rfl rfl rfl hl.1 rfl (Nat.le_of_ble_eq_true rfl) dX10_exchange_16 (fun o w' H locs hp hB => ?_)
    obtain ⟨rfl, hf14, hw9⟩ := hp
    replace hB : Bd κ A s (mw κ a r f q (tb a) w) H locs := by rw [hw9] at hB; exact hB
    rcases hf14 with rfl | ⟨rfl, hz15a, hz15b, hz15c, hz15d, hz15e⟩
    · replace hR := ifp rfl hR
      refine W.eq (g2 := F0 m 19 ls [.int 0, .ref (a 0)]) rfl ?_
      refine lv_if_ne (tgt := 26) hx hb dX10_exchange_19 (by decide) (fun c16 => False.elim (by revert c16; decide)) (fun _ => ?_)
      refine lv_iconst (v := 1) hx hb dX10_exchange_22 (by decide) ?_
      refine lv_goto (tgt := 27) hx hb dX10_exchange_23 (by decide) ?_
      obtain ⟨x17, t18, hd19⟩ := ex2 (D_X10_isThrown__ (q 0) (q 1) (q 2) (q 3) 1)
      replace hR := bnd2_use hd19 hR
      refine call_V (n := 1) (k0 := 0) (As := [.int 1]) (rest := []) hX hB (k_X10_isThrown__ κ l (mw κ a r f q (tb a) w) 0 (a 0) (a 1) (q 0) (q 1) (q 2) (q 3) 1 (mw0x (a := a) (r := r) (f := f) (q := q) (T := tb a) (w := w) rfl) x17 t18 hd19) ⟨rfl, by decide, by decide, by decide +kernel⟩ wm_6_15 wm_6_17 wp_33 wm_1_6 wm_6_18 ⟨Nat.le_of_ble_eq_true rfl, Nat.le_of_ble_eq_true rfl⟩ ⟨Nat.le_of_ble_eq_true rfl, Nat.le_of_ble_eq_true rfl⟩ (mw0x (a := a) (r := r) (f := f) (q := q) (T := tb a) (w := w) rfl) rfl rfl rfl hl.1 rfl (Nat.le_of_ble_eq_true rfl) dX10_exchange_27 (fun o w' H locs hp hB => ?_)
      obtain ⟨rfl, hf20, hw9⟩ := hp
      replace hB : Bd κ A s (mw κ a r f (va_up q 3 t18) (tb a) w) H locs := by exact Bd_eq (mwQ3x rfl _) (by rw [hw9] at hB; exact hB)
      obtain rfl : x17 = 1 := hf20.trans (by decide)
      refine W.eq (g2 := F0 m 30 ls [.int 1]) rfl ?_
      refine lv_if_eq (tgt := 35) hx hb dX10_exchange_30 (by decide) (fun c21 => False.elim (by revert c21; decide)) (fun _ => ?_)
      refine lv_iconst (v := 0) hx hb dX10_exchange_33 (by decide) ?_
      rw [← hQ]
      exact end_i hX hB hA3 rfl rfl (by obtain ⟨rfl, rfl, rfl, rfl⟩ := pr4 hR; exact ⟨a, rfl, rfl, hm, rfl, rfl⟩) (Nat.le_of_ble_eq_true rfl) (Nat.le_of_ble_eq_true rfl) dX10_exchange_34
    · replace hR := ifn (by decide) hR
      refine W.eq (g2 := F0 m 19 ls [.int 1, .ref (a 0)]) rfl ?_
      refine lv_if_ne (tgt := 26) hx hb dX10_exchange_19 (by decide) (fun _ => ?_) (fun c22 => False.elim (by revert c22; decide))
      refine lv_iconst (v := 0) hx hb dX10_exchange_26 (by decide) ?_
      obtain ⟨x23, t24, hd25⟩ := ex2 (D_X10_isThrown__ (q 0) (q 1) (q 2) (q 3) 0)
      replace hR := bnd2_use hd25 hR
      refine call_V (n := 1) (k0 := 0) (As := [.int 0]) (rest := []) hX hB (k_X10_isThrown__ κ l (mw κ a r f q (tb a) w) 0 (a 0) (a 1) (q 0) (q 1) (q 2) (q 3) 0 (mw0x (a := a) (r := r) (f := f) (q := q) (T := tb a) (w := w) rfl) x23 t24 hd25) ⟨rfl, by decide, by decide, by decide +kernel⟩ wm_6_15 wm_6_17 wp_33 wm_1_6 wm_6_18 ⟨Nat.le_of_ble_eq_true rfl, Nat.le_of_ble_eq_true rfl⟩ ⟨Nat.le_of_ble_eq_true rfl, Nat.le_of_ble_eq_true rfl⟩ (mw0x (a := a) (r := r) (f := f) (q := q) (T := tb a) (w := w) rfl) rfl rfl rfl hl.1 rfl (Nat.le_of_ble_eq_true rfl) dX10_exchange_27 (fun o w' H locs hp hB => ?_)
      obtain ⟨rfl, hf26, hw9⟩ := hp
      replace hB : Bd κ A s (mw κ a r f (va_up q 3 t24) (tb a) w) H locs := by exact Bd_eq (mwQ3x rfl _) (by rw [hw9] at hB; exact hB)
      obtain rfl : x23 = 0 := hf26.trans (by decide)
      refine W.eq (g2 := F0 m 30 ls [.int 0]) rfl ?_
      refine lv_if_eq (tgt := 35) hx hb dX10_exchange_30 (by decide) (fun _ => ?_) (fun c27 => False.elim (by revert c27; decide))
      refine lv_aload_n hx hb dX10_exchange_35 rfl (lv_at hl 0 rfl) ?_
      refine gf (k0 := 0) hX hB (mw0x (a := a) (r := r) (f := f) (q := (va_up q 3 t24)) (T := tb a) (w := w) rfl) rfl in10 0 (by decide) wm_5_162 rfl rfl dX10_exchange_36 ?_
      refine lv_iload_n hx hb dX10_exchange_39 rfl (lv_at hl 1 rfl) ?_
      refine aaldM (k0 := 1) hX hB (mw1 (a := a) (r := r) (f := f) (q := (va_up q 3 t24)) (T := tb a) (w := w)) (vp_in_mk (by assumption) (by assumption)) rfl dX10_exchange_40 ?_
      have hb28 := mok_r hm y.toNatClampNeg (by omega)
      obtain ⟨F31, hd32⟩ := ex1 (D_X7_copy (r (2 * y.toNatClampNeg)) (r (2 * y.toNatClampNeg + 1)) (f y.toNatClampNeg))
      replace hR := bnd1_use hd32 hR
      refine call_V (n := 0) (k0 := (2 + 2 * y.toNatClampNeg)) (As := []) (rest := []) hX hB (k_X7_copy κ l (mw κ a r f (va_up q 3 t24) (tb a) w) (2 + 2 * y.toNatClampNeg) (3 + 2 * y.toNatClampNeg) (a (2 + 2 * y.toNatClampNeg)) (a (3 + 2 * y.toNatClampNeg)) (r (2 * y.toNatClampNeg)) (r (2 * y.toNatClampNeg + 1)) (f y.toNatClampNeg) (mwG (i := y.toNatClampNeg) (a := a) (r := r) (f := f) (q := (va_up q 3 t24)) (T := tb a) (w := w) (by omega)) (mwA (i := y.toNatClampNeg) (a := a) (r := r) (f := f) (q := (va_up q 3 t24)) (T := tb a) (w := w) (by omega)) (mok_shp (i := y.toNatClampNeg) hm (by omega)) F31 hd32) ⟨rfl, by decide, by decide, by decide +kernel⟩ wm_6_23 wm_6_24 wm_6_25 wm_1_7 wm_6_26 ⟨Nat.le_of_ble_eq_true rfl, Nat.le_of_ble_eq_true rfl⟩ ⟨Nat.le_of_ble_eq_true rfl, Nat.le_of_ble_eq_true rfl⟩ (mwG (i := y.toNatClampNeg) (a := a) (r := r) (f := f) (q := (va_up q 3 t24)) (T := tb a) (w := w) (by omega)) rfl rfl rfl hl.1 rfl (Nat.le_of_ble_eq_true rfl) dX10_exchange_41 (fun o w' H locs hp hB => ?_)
      obtain ⟨q29, q30, rfl, hf33, hw9⟩ := hp
      replace hB : Bd κ A s (lA κ q30 ((r (2 * y.toNatClampNeg)) * 5) F31 :: gO q29 (r (2 * y.toNatClampNeg)) (r (2 * y.toNatClampNeg + 1)) q30 :: mw κ a r f (va_up q 3 t24) (tb a) w) H locs := by rw [hw9] at hB; exact hB
      have hscF31 : ∀ k, k < (r (2 * y.toNatClampNeg)) * 5 → sm (F31 k) := fun k hk => by rw [hf33 k hk]; exact (hm _ (by omega)).2 k hk
      refine W.eq (g2 := F0 m 44 ls [.ref q29]) rfl ?_
      refine lv_astore (lv' := [(5, .ref q29), (0, .ref (a 0)), (1, .int y), (2, .int c0), (3, .int z), (4, .int u)]) hx hb dX10_exchange_44 hl (by decide) rfl (fun ls hl => ?_)
      refine lv_iload_n hx hb dX10_exchange_46 rfl (lv_at hl 3 rfl) ?_
      refine lv_if_eq (tgt := 61) hx hb dX10_exchange_47 (by decide) (fun c34 => ?_) (fun c34 => ?_)
      · replace hR := ifp c34 hR
        have hz4l := hz4d c34
        have hz15l := hz15d c34
        refine lv_aload hx hb dX10_exchange_61 (lv_at hl 0 rfl) ?_
        refine lv_iload_n hx hb dX10_exchange_63 rfl (lv_at hl 4 rfl) ?_
        refine lv_iload hx hb dX10_exchange_64 (lv_at hl 5 rfl) ?_
        refine call_V (n := 2) (k0 := 1) (As := [.int z, .int u]) (rest := []) hX hB (k_X7_exchangeRows κ l (lA κ q30 ((r (2 * y.toNatClampNeg)) * 5) F31 :: gO q29 (r (2 * y.toNatClampNeg)) (r (2 * y.toNatClampNeg + 1)) q30 :: mw κ a r f (va_up q 3 t24) (tb a) w) 1 0 q29 q30 (r (2 * y.toNatClampNeg)) (r (2 * y.toNatClampNeg + 1)) F31 z ((z).toNatClampNeg) u ((u).toNatClampNeg) rfl rfl ⟨by omega, by omega, by omega, by omega⟩ (nI_rep (by assumption)) (nI_rep (by assumption)) (by omega) (by omega)) ⟨rfl, by decide, by decide, by decide +kernel⟩ wm_6_51 wm_6_52 wm_6_53 wm_1_7 wm_6_54 ⟨Nat.le_of_ble_eq_true rfl, Nat.le_of_ble_eq_true rfl⟩ ⟨Nat.le_of_ble_eq_true rfl, Nat.le_of_ble_eq_true rfl⟩ rfl rfl rfl rfl hl.1 rfl (Nat.le_of_ble_eq_true rfl) dX10_exchange_66 (fun o w' H locs hp hB => ?_)
        obtain ⟨rfl, hw9⟩ := hp
        replace hB : Bd κ A s (lA κ q30 ((r (2 * y.toNatClampNeg)) * 5) (xr (r (2 * y.toNatClampNeg + 1)) ((z).toNatClampNeg) ((u).toNatClampNeg) F31) :: gO q29 (r (2 * y.toNatClampNeg)) (r (2 * y.toNatClampNeg + 1)) q30 :: mw κ a r f (va_up q 3 t24) (tb a) w) H locs := by rw [hw9] at hB; exact hB
        refine W.eq (g2 := F0 m 69 ls []) rfl ?_
        refine lv_aload_n hx hb dX10_exchange_69 rfl (lv_at hl 1 rfl) ?_
        refine lv_iload_n hx hb dX10_exchange_70 rfl (lv_at hl 2 rfl) ?_
        refine lv_aload hx hb dX10_exchange_71 (lv_at hl 0 rfl) ?_
        obtain ⟨x35, rn37, fn38, qn39, hd40⟩ := ex4 (D_X10_changed r f (va_up q 3 t24) y (r (2 * y.toNatClampNeg)) (r (2 * y.toNatClampNeg + 1)) (xr (r (2 * y.toNatClampNeg + 1)) ((z).toNatClampNeg) ((u).toNatClampNeg) F31))
        replace hR := bnd4_use hd40 hR
        refine call_V (n := 2) (k0 := 2) (As := [.int y, .ref q29]) (rest := []) hX hB (k_X10_changed κ l w a r f (va_up q 3 t24) y q29 q30 (r (2 * y.toNatClampNeg)) (r (2 * y.toNatClampNeg + 1)) (xr (r (2 * y.toNatClampNeg + 1)) ((z).toNatClampNeg) ((u).toNatClampNeg) F31) hm ⟨by omega, by omega, by omega, by omega⟩ (by assumption) (by assumption) (by omega) (sm_xr (by omega) (by omega) hscF31) x35 rn37 fn38 qn39 hd40) ⟨rfl, by decide, by decide, by decide +kernel⟩ wm_6_55 wm_6_57 wp_35 wm_1_6 wm_6_58 ⟨Nat.le_of_ble_eq_true rfl, Nat.le_of_ble_eq_true rfl⟩ ⟨Nat.le_of_ble_eq_true rfl, Nat.le_of_ble_eq_true rfl⟩ (mw0x (a := a) (r := r) (f := f) (q := (va_up q 3 t24)) (T := tb a) (w := w) rfl) rfl rfl rfl hl.1 rfl (Nat.le_of_ble_eq_true rfl) dX10_exchange_73 (fun o w' H locs hp hB => ?_)
        obtain ⟨an36, rfl, hf41, hf42, hf43, hw9⟩ := hp
        replace hB : Bd κ A s (mw κ an36 rn37 fn38 qn39 (tb an36) w) H locs := by rw [hw9] at hB; exact hB
        refine W.eq (g2 := F0 m 76 ls [.int x35]) rfl ?_
        rw [← hQ]
        exact end_i hX hB hA3 rfl rfl (by obtain ⟨rfl, rfl, rfl, rfl⟩ := pr4 hR; exact ⟨an36, rfl, (hf41.trans rfl), hf42, (hf43.trans rfl), rfl⟩) (Nat.le_of_ble_eq_true rfl) (Nat.le_of_ble_eq_true rfl) dX10_exchange_76
      · replace hR := ifn c34 hR
        have hz4l := hz4e c34
        have hz15l := hz15e c34
        refine lv_aload hx hb dX10_exchange_50 (lv_at hl 0 rfl) ?_
        refine lv_iload_n hx hb dX10_exchange_52 rfl (lv_at hl 4 rfl) ?_
        refine lv_iload hx hb dX10_exchange_53 (lv_at hl 5 rfl) ?_
        refine call_V (n := 2) (k0 := 1) (As := [.int z, .int u]) (rest := []) hX hB (k_X7_exchangeColumns κ l (lA κ q30 ((r (2 * y.toNatClampNeg)) * 5) F31 :: gO q29 (r (2 * y.toNatClampNeg)) (r (2 * y.toNatClampNeg + 1)) q30 :: mw κ a r f (va_up q 3 t24) (tb a) w) 1 0 q29 q30 (r (2 * y.toNatClampNeg)) (r (2 * y.toNatClampNeg + 1)) F31 z ((z).toNatClampNeg) u ((u).toNatClampNeg) rfl rfl ⟨by omega, by omega, by omega, by omega⟩ (nI_rep (by assumption)) (nI_rep (by assumption)) (by omega) (by omega)) ⟨rfl, by decide, by decide, by decide +kernel⟩ wm_6_46 wm_6_47 wm_6_48 wm_1_7 wm_6_49 ⟨Nat.le_of_ble_eq_true rfl, Nat.le_of_ble_eq_true rfl⟩ ⟨Nat.le_of_ble_eq_true rfl, Nat.le_of_ble_eq_true rfl⟩ rfl rfl rfl rfl hl.1 rfl (Nat.le_of_ble_eq_true rfl) dX10_exchange_55 (fun o w' H locs hp hB => ?_)
        obtain ⟨rfl, hw9⟩ := hp
        replace hB : Bd κ A s (lA κ q30 ((r (2 * y.toNatClampNeg)) * 5) (xc (r (2 * y.toNatClampNeg)) ((z).toNatClampNeg) ((u).toNatClampNeg) F31) :: gO q29 (r (2 * y.toNatClampNeg)) (r (2 * y.toNatClampNeg + 1)) q30 :: mw κ a r f (va_up q 3 t24) (tb a) w) H locs := by rw [hw9] at hB; exact hB
        refine W.eq (g2 := F0 m 58 ls []) rfl ?_
        refine lv_goto (tgt := 69) hx hb dX10_exchange_58 (by decide) ?_
        refine lv_aload_n hx hb dX10_exchange_69 rfl (lv_at hl 1 rfl) ?_
        refine lv_iload_n hx hb dX10_exchange_70 rfl (lv_at hl 2 rfl) ?_
        refine lv_aload hx hb dX10_exchange_71 (lv_at hl 0 rfl) ?_
        obtain ⟨x44, rn46, fn47, qn48, hd49⟩ := ex4 (D_X10_changed r f (va_up q 3 t24) y (r (2 * y.toNatClampNeg)) (r (2 * y.toNatClampNeg + 1)) (xc (r (2 * y.toNatClampNeg)) ((z).toNatClampNeg) ((u).toNatClampNeg) F31))
        replace hR := bnd4_use hd49 hR
        refine call_V (n := 2) (k0 := 2) (As := [.int y, .ref q29]) (rest := []) hX hB (k_X10_changed κ l w a r f (va_up q 3 t24) y q29 q30 (r (2 * y.toNatClampNeg)) (r (2 * y.toNatClampNeg + 1)) (xc (r (2 * y.toNatClampNeg)) ((z).toNatClampNeg) ((u).toNatClampNeg) F31) hm ⟨by omega, by omega, by omega, by omega⟩ (by assumption) (by assumption) (by omega) (sm_xc (by omega) (by omega) hscF31) x44 rn46 fn47 qn48 hd49) ⟨rfl, by decide, by decide, by decide +kernel⟩ wm_6_55 wm_6_57 wp_35 wm_1_6 wm_6_58 ⟨Nat.le_of_ble_eq_true rfl, Nat.le_of_ble_eq_true rfl⟩ ⟨Nat.le_of_ble_eq_true rfl, Nat.le_of_ble_eq_true rfl⟩ (mw0x (a := a) (r := r) (f := f) (q := (va_up q 3 t24)) (T := tb a) (w := w) rfl) rfl rfl rfl hl.1 rfl (Nat.le_of_ble_eq_true rfl) dX10_exchange_73 (fun o w' H locs hp hB => ?_)
        obtain ⟨an45, rfl, hf50, hf51, hf52, hw9⟩ := hp
        replace hB : Bd κ A s (mw κ an45 rn46 fn47 qn48 (tb an45) w) H locs := by rw [hw9] at hB; exact hB
        refine W.eq (g2 := F0 m 76 ls [.int x44]) rfl ?_
        rw [← hQ]
        exact end_i hX hB hA3 rfl rfl (by obtain ⟨rfl, rfl, rfl, rfl⟩ := pr4 hR; exact ⟨an45, rfl, (hf50.trans rfl), hf51, (hf52.trans rfl), rfl⟩) (Nat.le_of_ble_eq_true rfl) (Nat.le_of_ble_eq_true rfl) dX10_exchange_76
noncomputable def D_X10_turn_42 (r : Nat → Nat) (f : Nat → Nat → Int64) (q : Nat → Int32) (y : Int32) (z : Int32) (t13 : Int32) (nn : Nat) : Nat → (Nat → Int64) → Int32 × (Nat → Nat) × (Nat → Nat → Int64) × (Nat → Int32) := @Nat.rec (fun _ => Nat → (Nat → Int64) → Int32 × (Nat → Nat) × (Nat → Nat → Int64) × (Nat → Int32)) (fun _ _ => default) (fun _ lb42 (y5_42 : Nat) (fq19_42 : Nat → Int64) => (if (r (2 * y.toNatClampNeg)) ≤ y5_42 then bnd4 (D_X10_changed r f (va_up q 3 t13) y (r (2 * y.toNatClampNeg)) (r (2 * y.toNatClampNeg + 1)) fq19_42) (fun (x54 : Int32) (rn56 : Nat → Nat) (fn57 : Nat → Nat → Int64) (qn58 : Nat → Int32) => (x54, rn56, fn57, qn58)) else (lb42 (y5_42 + 1) (vp_updL fq19_42 (y5_42 * 5 + ((z).toNatClampNeg)) (-(fq19_42 (y5_42 * 5 + ((z).toNatClampNeg)))))))) nn
theorem D_X10_turn_42_s {r : Nat → Nat} {f : Nat → Nat → Int64} {q : Nat → Int32} {y : Int32} {z : Int32} {t13 : Int32} {nn : Nat} {y5_42 : Nat} {fq19_42 : Nat → Int64} : D_X10_turn_42 r f q y z t13 (nn + 1) y5_42 fq19_42 = (if (r (2 * y.toNatClampNeg)) ≤ y5_42 then bnd4 (D_X10_changed r f (va_up q 3 t13) y (r (2 * y.toNatClampNeg)) (r (2 * y.toNatClampNeg + 1)) fq19_42) (fun (x54 : Int32) (rn56 : Nat → Nat) (fn57 : Nat → Nat → Int64) (qn58 : Nat → Int32) => (x54, rn56, fn57, qn58)) else ((D_X10_turn_42 r f q y z t13 nn) (y5_42 + 1) (vp_updL fq19_42 (y5_42 * 5 + ((z).toNatClampNeg)) (-(fq19_42 (y5_42 * 5 + ((z).toNatClampNeg))))))) := rfl
noncomputable def D_X10_turn (r : Nat → Nat) (f : Nat → Nat → Int64) (q : Nat → Int32) (y : Int32) (c0 : Int32) (z : Int32) : Int32 × (Nat → Nat) × (Nat → Nat → Int64) × (Nat → Int32) := bnd1 (D_X10_isLine r f q y c0 z) (fun (x1 : Int32) => (if x1 = 0 then bnd2 (D_X10_isThrown__ (q 0) (q 1) (q 2) (q 3) 1) (fun (x6 : Int32) (t7 : Int32) => (0, r, f, va_up q 3 t7)) else bnd2 (D_X10_isThrown__ (q 0) (q 1) (q 2) (q 3) 0) (fun (x12 : Int32) (t13 : Int32) => bnd1 (D_X7_copy (r (2 * y.toNatClampNeg)) (r (2 * y.toNatClampNeg + 1)) (f y.toNatClampNeg)) (fun (F20 : Nat → Int64) => (if c0 = 0 then bnd4 (D_X10_changed r f (va_up q 3 t13) y (r (2 * y.toNatClampNeg)) (r (2 * y.toNatClampNeg + 1)) (tr (r (2 * y.toNatClampNeg + 1)) ((z).toNatClampNeg) F20)) (fun (x24 : Int32) (rn26 : Nat → Nat) (fn27 : Nat → Nat → Int64) (qn28 : Nat → Int32) => (x24, rn26, fn27, qn28)) else (D_X10_turn_42 r f q y z t13 ((r (2 * y.toNatClampNeg)) + 1 - 0 + 1) 0 F20))))))
theorem D_X10_turn_s {r : Nat → Nat} {f : Nat → Nat → Int64} {q : Nat → Int32} {y : Int32} {c0 : Int32} {z : Int32} : D_X10_turn r f q y c0 z = bnd1 (D_X10_isLine r f q y c0 z) (fun (x1 : Int32) => (if x1 = 0 then bnd2 (D_X10_isThrown__ (q 0) (q 1) (q 2) (q 3) 1) (fun (x6 : Int32) (t7 : Int32) => (0, r, f, va_up q 3 t7)) else bnd2 (D_X10_isThrown__ (q 0) (q 1) (q 2) (q 3) 0) (fun (x12 : Int32) (t13 : Int32) => bnd1 (D_X7_copy (r (2 * y.toNatClampNeg)) (r (2 * y.toNatClampNeg + 1)) (f y.toNatClampNeg)) (fun (F20 : Nat → Int64) => (if c0 = 0 then bnd4 (D_X10_changed r f (va_up q 3 t13) y (r (2 * y.toNatClampNeg)) (r (2 * y.toNatClampNeg + 1)) (tr (r (2 * y.toNatClampNeg + 1)) ((z).toNatClampNeg) F20)) (fun (x24 : Int32) (rn26 : Nat → Nat) (fn27 : Nat → Nat → Int64) (qn28 : Nat → Int32) => (x24, rn26, fn27, qn28)) else (D_X10_turn_42 r f q y z t13 ((r (2 * y.toNatClampNeg)) + 1 - 0 + 1) 0 F20)))))) := rfl
set_option maxHeartbeats 4000000 in
set_option maxRecDepth 100000 in
theorem k_X10_turn (κ : Kt) (l : Launch) (w : va_W) (a r : Nat → Nat) (f : Nat → Nat → Int64) (q : Nat → Int32) (y : Int32) (c0 : Int32) (z : Int32) (hm : mok r f) (o_x : Int32) (o_r' : Nat → Nat) (o_f' : Nat → Nat → Int64) (o_q' : Nat → Int32) (hR : D_X10_turn r f q y c0 z = (o_x, o_r', o_f', o_q')) : CM κ l yX10_turn cX10_turn 6 (some .int) 3 65 2 23 [.ref (a 0), .int y, .int c0, .int z] (mw κ a r f q (tb a) w) (fun o w' => ∃ (a' : Nat → Nat), o = some (.int o_x) ∧ (a' 0 = a 0) ∧ (mok o_r' o_f') ∧ (o_q' 2 = q 2) ∧ w' = mw κ a' o_r' o_f' o_q' (tb a') w) := by
  refine CM_begin (plainFor_of_name (by decide)) (Nat.le_of_ble_eq_true rfl) ?_
  intro p e s m args below meth c A Q hX hnm hA3 hQ hB ls hl
  have hx := hX.1.1
  have hb := hX.1.2.1
  have hl : lv_has ls 6 [(0, .ref (a 0)), (1, .int y), (2, .int c0), (3, .int z)] := hl
  replace hR := (D_X10_turn_s).symm.trans hR
  refine lv_aload_n hx hb dX10_turn_0 rfl (lv_at hl 0 rfl) ?_
  refine lv_aload_n hx hb dX10_turn_1 rfl (lv_at hl 0 rfl) ?_
  refine lv_iload_n hx hb dX10_turn_2 rfl (lv_at hl 1 rfl) ?_
  refine lv_iload_n hx hb dX10_turn_3 rfl (lv_at hl 2 rfl) ?_
  refine lv_iload_n hx hb dX10_turn_4 rfl (lv_at hl 3 rfl) ?_
  obtain ⟨x1, hd2⟩ := ex1 (D_X10_isLine r f q y c0 z)
  replace hR := bnd1_use hd2 hR
  refine call_V (n := 3) (k0 := 0) (As := [.int y, .int c0, .int z]) (rest := [.ref (a 0)]) hX hB (k_X10_isLine κ l w a r f q y c0 z hm x1 hd2) ⟨rfl, by decide, by decide, by decide +kernel⟩ wm_6_42 wm_6_44 wp_34 wm_1_6 wm_6_45 ⟨Nat.le_of_ble_eq_true rfl, Nat.le_of_ble_eq_true rfl⟩ ⟨Nat.le_of_ble_eq_true rfl, Nat.le_of_ble_eq_true rfl⟩ (mw0x (a := a) (r := r) (f := f) (q := q) (T := tb a) (w := w) rfl) rfl rfl rfl hl.1 rfl (Nat.le_of_ble_eq_true rfl) dX10_turn_5 (fun o w' H locs hp hB => ?_)
  obtain ⟨rfl, hf3, hw9⟩ := hp
  replace hB : Bd κ A s (mw κ a r f q (tb a) w) H locs := by rw [hw9] at hB; exact hB
  rcases hf3 with rfl | ⟨rfl, hz4a, hz4b, hz4c, hz4d, hz4e⟩
  · replace hR := ifp rfl hR
    refine W.eq (g2 := F0 m 8 ls [.int 0, .ref (a 0)]) rfl ?_
    refine lv_if_ne (tgt := 15) hx hb dX10_turn_8 (by decide) (fun c5 => False.elim (by revert c5; decide)) (fun _ => ?_)
    refine lv_iconst (v := 1) hx hb dX10_turn_11 (by decide) ?_
    refine lv_goto (tgt := 16) hx hb dX10_turn_12 (by decide) ?_
    obtain ⟨x6, t7, hd8⟩ := ex2 (D_X10_isThrown__ (q 0) (q 1) (q 2) (q 3) 1)
    replace hR := bnd2_use hd8 hR
    refine call_V (n := 1) (k0 := 0) (As := [.int 1]) (rest := []) hX hB (k_X10_isThrown__ κ l (mw κ a r f q (tb a) w) 0 (a 0) (a 1) (q 0) (q 1) (q 2) (q 3) 1 (mw0x (a := a) (r := r) (f := f) (q := q) (T := tb a) (w := w) rfl) x6 t7 hd8) ⟨rfl, by decide, by decide, by decide +kernel⟩ wm_6_15 wm_6_17 wp_33 wm_1_6 wm_6_18 ⟨Nat.le_of_ble_eq_true rfl, Nat.le_of_ble_eq_true rfl⟩ ⟨Nat.le_of_ble_eq_true rfl, Nat.le_of_ble_eq_true rfl⟩ (mw0x (a := a) (r := r) (f := f) (q := q) (T := tb a) (w := w) rfl) rfl rfl rfl hl.1 rfl (Nat.le_of_ble_eq_true rfl) dX10_turn_16 (fun o w' H locs hp hB => ?_)
    obtain ⟨rfl, hf9, hw9⟩ := hp
    replace hB : Bd κ A s (mw κ a r f (va_up q 3 t7) (tb a) w) H locs := by exact Bd_eq (mwQ3x rfl _) (by rw [hw9] at hB; exact hB)
    obtain rfl : x6 = 1 := hf9.trans (by decide)
    refine W.eq (g2 := F0 m 19 ls [.int 1]) rfl ?_
    refine lv_if_eq (tgt := 24) hx hb dX10_turn_19 (by decide) (fun c10 => False.elim (by revert c10; decide)) (fun _ => ?_)
    refine lv_iconst (v := 0) hx hb dX10_turn_22 (by decide) ?_
    rw [← hQ]
    exact end_i hX hB hA3 rfl rfl (by obtain ⟨rfl, rfl, rfl, rfl⟩ := pr4 hR; exact ⟨a, rfl, rfl, hm, rfl, rfl⟩) (Nat.le_of_ble_eq_true rfl) (Nat.le_of_ble_eq_true rfl) dX10_turn_23
  · replace hR := ifn (by decide) hR
    refine W.eq (g2 := F0 m 8 ls [.int 1, .ref (a 0)]) rfl ?_
    refine lv_if_ne (tgt := 15) hx hb dX10_turn_8 (by decide) (fun _ => ?_) (fun c11 => False.elim (by revert c11; decide))
    refine lv_iconst (v := 0) hx hb dX10_turn_15 (by decide) ?_
    obtain ⟨x12, t13, hd14⟩ := ex2 (D_X10_isThrown__ (q 0) (q 1) (q 2) (q 3) 0)
    replace hR := bnd2_use hd14 hR
    refine call_V (n := 1) (k0 := 0) (As := [.int 0]) (rest := []) hX hB (k_X10_isThrown__ κ l (mw κ a r f q (tb a) w) 0 (a 0) (a 1) (q 0) (q 1) (q 2) (q 3) 0 (mw0x (a := a) (r := r) (f := f) (q := q) (T := tb a) (w := w) rfl) x12 t13 hd14) ⟨rfl, by decide, by decide, by decide +kernel⟩ wm_6_15 wm_6_17 wp_33 wm_1_6 wm_6_18 ⟨Nat.le_of_ble_eq_true rfl, Nat.le_of_ble_eq_true rfl⟩ ⟨Nat.le_of_ble_eq_true rfl, Nat.le_of_ble_eq_true rfl⟩ (mw0x (a := a) (r := r) (f := f) (q := q) (T := tb a) (w := w) rfl) rfl rfl rfl hl.1 rfl (Nat.le_of_ble_eq_true rfl) dX10_turn_16 (fun o w' H locs hp hB => ?_)
    obtain ⟨rfl, hf15, hw9⟩ := hp
    replace hB : Bd κ A s (mw κ a r f (va_up q 3 t13) (tb a) w) H locs := by exact Bd_eq (mwQ3x rfl _) (by rw [hw9] at hB; exact hB)
    obtain rfl : x12 = 0 := hf15.trans (by decide)
    refine W.eq (g2 := F0 m 19 ls [.int 0]) rfl ?_
    refine lv_if_eq (tgt := 24) hx hb dX10_turn_19 (by decide) (fun _ => ?_) (fun c16 => False.elim (by revert c16; decide))
    refine lv_aload_n hx hb dX10_turn_24 rfl (lv_at hl 0 rfl) ?_
    refine gf (k0 := 0) hX hB (mw0x (a := a) (r := r) (f := f) (q := (va_up q 3 t13)) (T := tb a) (w := w) rfl) rfl in10 0 (by decide) wm_5_162 rfl rfl dX10_turn_25 ?_
    refine lv_iload_n hx hb dX10_turn_28 rfl (lv_at hl 1 rfl) ?_
    refine aaldM (k0 := 1) hX hB (mw1 (a := a) (r := r) (f := f) (q := (va_up q 3 t13)) (T := tb a) (w := w)) (vp_in_mk (by assumption) (by assumption)) rfl dX10_turn_29 ?_
    have hb17 := mok_r hm y.toNatClampNeg (by omega)
    obtain ⟨F20, hd21⟩ := ex1 (D_X7_copy (r (2 * y.toNatClampNeg)) (r (2 * y.toNatClampNeg + 1)) (f y.toNatClampNeg))
    replace hR := bnd1_use hd21 hR
    refine call_V (n := 0) (k0 := (2 + 2 * y.toNatClampNeg)) (As := []) (rest := []) hX hB (k_X7_copy κ l (mw κ a r f (va_up q 3 t13) (tb a) w) (2 + 2 * y.toNatClampNeg) (3 + 2 * y.toNatClampNeg) (a (2 + 2 * y.toNatClampNeg)) (a (3 + 2 * y.toNatClampNeg)) (r (2 * y.toNatClampNeg)) (r (2 * y.toNatClampNeg + 1)) (f y.toNatClampNeg) (mwG (i := y.toNatClampNeg) (a := a) (r := r) (f := f) (q := (va_up q 3 t13)) (T := tb a) (w := w) (by omega)) (mwA (i := y.toNatClampNeg) (a := a) (r := r) (f := f) (q := (va_up q 3 t13)) (T := tb a) (w := w) (by omega)) (mok_shp (i := y.toNatClampNeg) hm (by omega)) F20 hd21) ⟨rfl, by decide, by decide, by decide +kernel⟩ wm_6_23 wm_6_24 wm_6_25 wm_1_7 wm_6_26 ⟨Nat.le_of_ble_eq_true rfl, Nat.le_of_ble_eq_true rfl⟩ ⟨Nat.le_of_ble_eq_true rfl, Nat.le_of_ble_eq_true rfl⟩ (mwG (i := y.toNatClampNeg) (a := a) (r := r) (f := f) (q := (va_up q 3 t13)) (T := tb a) (w := w) (by omega)) rfl rfl rfl hl.1 rfl (Nat.le_of_ble_eq_true rfl) dX10_turn_30 (fun o w' H locs hp hB => ?_)
    obtain ⟨q18, q19, rfl, hf22, hw9⟩ := hp
    replace hB : Bd κ A s (lA κ q19 ((r (2 * y.toNatClampNeg)) * 5) F20 :: gO q18 (r (2 * y.toNatClampNeg)) (r (2 * y.toNatClampNeg + 1)) q19 :: mw κ a r f (va_up q 3 t13) (tb a) w) H locs := by rw [hw9] at hB; exact hB
    have hscF20 : ∀ k, k < (r (2 * y.toNatClampNeg)) * 5 → sm (F20 k) := fun k hk => by rw [hf22 k hk]; exact (hm _ (by omega)).2 k hk
    refine W.eq (g2 := F0 m 33 ls [.ref q18]) rfl ?_
    refine lv_astore (lv' := [(4, .ref q18), (0, .ref (a 0)), (1, .int y), (2, .int c0), (3, .int z)]) hx hb dX10_turn_33 hl (by decide) rfl (fun ls hl => ?_)
    refine lv_iload_n hx hb dX10_turn_35 rfl (lv_at hl 3 rfl) ?_
    refine lv_if_eq (tgt := 78) hx hb dX10_turn_36 (by decide) (fun c23 => ?_) (fun c23 => ?_)
    · replace hR := ifp c23 hR
      have hz4l := hz4d c23
      refine lv_aload hx hb dX10_turn_78 (lv_at hl 0 rfl) ?_
      refine lv_iload_n hx hb dX10_turn_80 rfl (lv_at hl 4 rfl) ?_
      refine call_V (n := 1) (k0 := 1) (As := [.int z]) (rest := []) hX hB (k_X7_turnRow κ l (lA κ q19 ((r (2 * y.toNatClampNeg)) * 5) F20 :: gO q18 (r (2 * y.toNatClampNeg)) (r (2 * y.toNatClampNeg + 1)) q19 :: mw κ a r f (va_up q 3 t13) (tb a) w) 1 0 q18 q19 (r (2 * y.toNatClampNeg)) (r (2 * y.toNatClampNeg + 1)) F20 z ((z).toNatClampNeg) rfl rfl ⟨by omega, by omega, by omega, by omega⟩ (nI_rep (by assumption)) (by omega)) ⟨rfl, by decide, by decide, by decide +kernel⟩ wm_6_67 wm_6_68 wm_6_69 wm_1_7 wm_6_70 ⟨Nat.le_of_ble_eq_true rfl, Nat.le_of_ble_eq_true rfl⟩ ⟨Nat.le_of_ble_eq_true rfl, Nat.le_of_ble_eq_true rfl⟩ rfl rfl rfl rfl hl.1 rfl (Nat.le_of_ble_eq_true rfl) dX10_turn_81 (fun o w' H locs hp hB => ?_)
      obtain ⟨rfl, hw9⟩ := hp
      replace hB : Bd κ A s (lA κ q19 ((r (2 * y.toNatClampNeg)) * 5) (tr (r (2 * y.toNatClampNeg + 1)) ((z).toNatClampNeg) F20) :: gO q18 (r (2 * y.toNatClampNeg)) (r (2 * y.toNatClampNeg + 1)) q19 :: mw κ a r f (va_up q 3 t13) (tb a) w) H locs := by rw [hw9] at hB; exact hB
      refine W.eq (g2 := F0 m 84 ls []) rfl ?_
      refine lv_aload_n hx hb dX10_turn_84 rfl (lv_at hl 1 rfl) ?_
      refine lv_iload_n hx hb dX10_turn_85 rfl (lv_at hl 2 rfl) ?_
      refine lv_aload hx hb dX10_turn_86 (lv_at hl 0 rfl) ?_
      obtain ⟨x24, rn26, fn27, qn28, hd29⟩ := ex4 (D_X10_changed r f (va_up q 3 t13) y (r (2 * y.toNatClampNeg)) (r (2 * y.toNatClampNeg + 1)) (tr (r (2 * y.toNatClampNeg + 1)) ((z).toNatClampNeg) F20))
      replace hR := bnd4_use hd29 hR
      refine call_V (n := 2) (k0 := 2) (As := [.int y, .ref q18]) (rest := []) hX hB (k_X10_changed κ l w a r f (va_up q 3 t13) y q18 q19 (r (2 * y.toNatClampNeg)) (r (2 * y.toNatClampNeg + 1)) (tr (r (2 * y.toNatClampNeg + 1)) ((z).toNatClampNeg) F20) hm ⟨by omega, by omega, by omega, by omega⟩ (by assumption) (by assumption) (by omega) (sm_tr hscF20) x24 rn26 fn27 qn28 hd29) ⟨rfl, by decide, by decide, by decide +kernel⟩ wm_6_55 wm_6_57 wp_35 wm_1_6 wm_6_58 ⟨Nat.le_of_ble_eq_true rfl, Nat.le_of_ble_eq_true rfl⟩ ⟨Nat.le_of_ble_eq_true rfl, Nat.le_of_ble_eq_true rfl⟩ (mw0x (a := a) (r := r) (f := f) (q := (va_up q 3 t13)) (T := tb a) (w := w) rfl) rfl rfl rfl hl.1 rfl (Nat.le_of_ble_eq_true rfl) dX10_turn_88 (fun o w' H locs hp hB => ?_)
      obtain ⟨an25, rfl, hf30, hf31, hf32, hw9⟩ := hp
      replace hB : Bd κ A s (mw κ an25 rn26 fn27 qn28 (tb an25) w) H locs := by rw [hw9] at hB; exact hB
      refine W.eq (g2 := F0 m 91 ls [.int x24]) rfl ?_
      rw [← hQ]
      exact end_i hX hB hA3 rfl rfl (by obtain ⟨rfl, rfl, rfl, rfl⟩ := pr4 hR; exact ⟨an25, rfl, (hf30.trans rfl), hf31, (hf32.trans rfl), rfl⟩) (Nat.le_of_ble_eq_true rfl) (Nat.le_of_ble_eq_true rfl) dX10_turn_91
    · replace hR := ifn c23 hR
      have hz4l := hz4e c23
      refine lv_iconst (v := 0) hx hb dX10_turn_39 (by decide) ?_
      refine lv_istore (lv' := [(5, .int 0), (4, .ref q18), (0, .ref (a 0)), (1, .int y), (2, .int c0), (3, .int z)]) hx hb dX10_turn_40 hl (by decide) rfl (fun ls hl => ?_)
      have lp42 : ∀ (nn42 : Nat) (y5_42 : Nat) (fq19_42 : Nat → Int64) (H : Heap) (locs : List Loc), (y5_42 ≤ (r (2 * y.toNatClampNeg))) → (∀ k, k < r (2 * y.toNatClampNeg) * 5 → sm (fq19_42 k)) → (r (2 * y.toNatClampNeg)) + 1 - y5_42 < nn42 → D_X10_turn_42 r f q y z t13 nn42 y5_42 fq19_42 = (o_x, o_r', o_f', o_q') → Bd κ A s (lA κ q19 ((r (2 * y.toNatClampNeg)) * 5) fq19_42 :: gO q18 (r (2 * y.toNatClampNeg)) (r (2 * y.toNatClampNeg + 1)) q19 :: mw κ a r f (va_up q 3 t13) (tb a) w) H locs → ∀ ls : Array Slot, lv_has ls 6 [(5, .int (nI y5_42)), (4, .ref q18), (0, .ref (a 0)), (1, .int y), (2, .int c0), (3, .int z)] → W p l e (Rm 3 65 2 23) s m args below meth c H locs (2) (23) Q (F0 m 42 ls []) := by
        intro nn42
        induction nn42 with
        | zero => intro y5_42 fq19_42 H locs hn5_42 hft hμ; exact absurd hμ (Nat.not_lt_zero _)
        | succ nn42 ih42 =>
          intro y5_42 fq19_42 H locs hn5_42 hft hμ42 hR hB ls hl
          replace hR := (D_X10_turn_42_s).symm.trans hR
          refine lv_iload hx hb dX10_turn_42 (lv_at hl 0 rfl) ?_
          refine lv_aload hx hb dX10_turn_44 (lv_at hl 1 rfl) ?_
          refine gf (k0 := 1) hX hB rfl rfl in7 0 (by decide) wm_5_148 rfl rfl dX10_turn_46 ?_
          refine lv_icmp_ge (tgt := 75) hx hb dX10_turn_49 (by decide) (fun c53 => ?_) (fun c53 => ?_)
          · rw [nleP (a := r (2 * y.toNatClampNeg)) (b := y5_42) (by omega) (by omega)] at c53
            replace hR := ifp c53 hR
            refine lv_goto (tgt := 84) hx hb dX10_turn_75 (by decide) ?_
            refine lv_aload_n hx hb dX10_turn_84 rfl (lv_at hl 2 rfl) ?_
            refine lv_iload_n hx hb dX10_turn_85 rfl (lv_at hl 3 rfl) ?_
            refine lv_aload hx hb dX10_turn_86 (lv_at hl 1 rfl) ?_
            obtain ⟨x54, rn56, fn57, qn58, hd59⟩ := ex4 (D_X10_changed r f (va_up q 3 t13) y (r (2 * y.toNatClampNeg)) (r (2 * y.toNatClampNeg + 1)) fq19_42)
            replace hR := bnd4_use hd59 hR
            refine call_V (n := 2) (k0 := 2) (As := [.int y, .ref q18]) (rest := []) hX hB (k_X10_changed κ l w a r f (va_up q 3 t13) y q18 q19 (r (2 * y.toNatClampNeg)) (r (2 * y.toNatClampNeg + 1)) fq19_42 hm ⟨by omega, by omega, by omega, by omega⟩ (by assumption) (by assumption) (by omega) hft x54 rn56 fn57 qn58 hd59) ⟨rfl, by decide, by decide, by decide +kernel⟩ wm_6_55 wm_6_57 wp_35 wm_1_6 wm_6_58 ⟨Nat.le_of_ble_eq_true rfl, Nat.le_of_ble_eq_true rfl⟩ ⟨Nat.le_of_ble_eq_true rfl, Nat.le_of_ble_eq_true rfl⟩ (mw0x (a := a) (r := r) (f := f) (q := (va_up q 3 t13)) (T := tb a) (w := w) rfl) rfl rfl rfl hl.1 rfl (Nat.le_of_ble_eq_true rfl) dX10_turn_88 (fun o w' H locs hp hB => ?_)
            obtain ⟨an55, rfl, hf60, hf61, hf62, hw9⟩ := hp
            replace hB : Bd κ A s (mw κ an55 rn56 fn57 qn58 (tb an55) w) H locs := by rw [hw9] at hB; exact hB
            refine W.eq (g2 := F0 m 91 ls [.int x54]) rfl ?_
            rw [← hQ]
            exact end_i hX hB hA3 rfl rfl (by obtain ⟨rfl, rfl, rfl, rfl⟩ := pr4 hR; exact ⟨an55, rfl, (hf60.trans rfl), hf61, (hf62.trans rfl), rfl⟩) (Nat.le_of_ble_eq_true rfl) (Nat.le_of_ble_eq_true rfl) dX10_turn_91
          · rw [nleP (a := r (2 * y.toNatClampNeg)) (b := y5_42) (by omega) (by omega)] at c53
            replace hR := ifn c53 hR
            refine lv_aload hx hb dX10_turn_52 (lv_at hl 1 rfl) ?_
            refine lv_iload hx hb dX10_turn_54 (lv_at hl 0 rfl) ?_
            refine lv_iload_n hx hb dX10_turn_56 rfl (lv_at hl 5 rfl) ?_
            refine lv_aload hx hb dX10_turn_57 (lv_at hl 1 rfl) ?_
            refine lv_iload hx hb dX10_turn_59 (lv_at hl 0 rfl) ?_
            refine lv_iload_n hx hb dX10_turn_61 rfl (lv_at hl 5 rfl) ?_
            refine call_V (n := 2) (k0 := 1) (As := [.int (nI y5_42), .int z]) (rest := [.int z, .int (nI y5_42), .ref q18]) hX hB (k_X7_at κ l (lA κ q19 ((r (2 * y.toNatClampNeg)) * 5) fq19_42 :: gO q18 (r (2 * y.toNatClampNeg)) (r (2 * y.toNatClampNeg + 1)) q19 :: mw κ a r f (va_up q 3 t13) (tb a) w) 1 0 q18 q19 (r (2 * y.toNatClampNeg)) (r (2 * y.toNatClampNeg + 1)) fq19_42 (nI y5_42) y5_42 z ((z).toNatClampNeg) rfl rfl ⟨by omega, by omega, by omega, by omega⟩ rfl (nI_rep (by assumption)) (by omega)) ⟨rfl, by decide, by decide, by decide +kernel⟩ wm_5_237 wm_5_238 wm_5_239 wm_1_7 wm_6_0 ⟨Nat.le_of_ble_eq_true rfl, Nat.le_of_ble_eq_true rfl⟩ ⟨Nat.le_of_ble_eq_true rfl, Nat.le_of_ble_eq_true rfl⟩ rfl rfl rfl rfl hl.1 rfl (Nat.le_of_ble_eq_true rfl) dX10_turn_62 (fun o w' H locs hp hB => ?_)
            obtain ⟨rfl, hw9⟩ := hp
            replace hB : Bd κ A s (lA κ q19 ((r (2 * y.toNatClampNeg)) * 5) fq19_42 :: gO q18 (r (2 * y.toNatClampNeg)) (r (2 * y.toNatClampNeg + 1)) q19 :: mw κ a r f (va_up q 3 t13) (tb a) w) H locs := by rw [hw9] at hB; exact hB
            refine W.eq (g2 := F0 m 65 ls [.long (fq19_42 (y5_42 * 5 + ((z).toNatClampNeg))), .int z, .int (nI y5_42), .ref q18]) rfl ?_
            refine lv_lneg hx hb dX10_turn_65 ?_
            refine call_V (n := 3) (k0 := 1) (As := [.int (nI y5_42), .int z, .long (-(fq19_42 (y5_42 * 5 + ((z).toNatClampNeg))))]) (rest := []) hX hB (k_X7_put κ l (lA κ q19 ((r (2 * y.toNatClampNeg)) * 5) fq19_42 :: gO q18 (r (2 * y.toNatClampNeg)) (r (2 * y.toNatClampNeg + 1)) q19 :: mw κ a r f (va_up q 3 t13) (tb a) w) 1 0 q18 q19 (r (2 * y.toNatClampNeg)) (r (2 * y.toNatClampNeg + 1)) fq19_42 (nI y5_42) y5_42 z ((z).toNatClampNeg) (-(fq19_42 (y5_42 * 5 + ((z).toNatClampNeg)))) rfl rfl ⟨by omega, by omega, by omega, by omega⟩ rfl (nI_rep (by assumption)) (by omega)) ⟨rfl, by decide, by decide, by decide +kernel⟩ wm_6_1 wm_5_222 wm_5_223 wm_1_7 wm_5_224 ⟨Nat.le_of_ble_eq_true rfl, Nat.le_of_ble_eq_true rfl⟩ ⟨Nat.le_of_ble_eq_true rfl, Nat.le_of_ble_eq_true rfl⟩ rfl rfl rfl rfl hl.1 rfl (Nat.le_of_ble_eq_true rfl) dX10_turn_66 (fun o w' H locs hp hB => ?_)
            obtain ⟨rfl, hw9⟩ := hp
            replace hB : Bd κ A s (lA κ q19 ((r (2 * y.toNatClampNeg)) * 5) (vp_updL fq19_42 (y5_42 * 5 + ((z).toNatClampNeg)) (-(fq19_42 (y5_42 * 5 + ((z).toNatClampNeg))))) :: gO q18 (r (2 * y.toNatClampNeg)) (r (2 * y.toNatClampNeg + 1)) q19 :: mw κ a r f (va_up q 3 t13) (tb a) w) H locs := by rw [hw9] at hB; exact hB
            refine W.eq (g2 := F0 m 69 ls []) rfl ?_
            refine lv_iinc (v := nI (y5_42 + 1)) (lv' := [(5, .int (nI (y5_42 + 1))), (4, .ref q18), (0, .ref (a 0)), (1, .int y), (2, .int c0), (3, .int z)]) hx hb dX10_turn_69 hl (k := 0) rfl (nI_add y5_42 1) (by decide) rfl (fun ls hl => ?_)
            refine lv_goto (tgt := 42) hx hb dX10_turn_72 (by decide) ?_
            exact ih42 (y5_42 + 1) (vp_updL fq19_42 (y5_42 * 5 + ((z).toNatClampNeg)) (-(fq19_42 (y5_42 * 5 + ((z).toNatClampNeg))))) _ _ (by omega) (sm_upd hft (sm_neg (hft _ (by omega)))) (by omega) hR hB _ hl
      exact lp42 _ 0 F20 _ _ (by omega) hscF20 (Nat.lt_succ_self _) hR hB _ hl
noncomputable def D_X10_add (r : Nat → Nat) (f : Nat → Nat → Int64) (q : Nat → Int32) (y : Int32) (c0 : Int32) (z : Int32) (u : Int32) (v : Int32) : Int32 × (Nat → Nat) × (Nat → Nat → Int64) × (Nat → Int32) := bnd1 (D_X10_isLine r f q y c0 z) (fun (x1 : Int32) => (if x1 = 0 then (if z = u then bnd2 (D_X10_isThrown_ (q 0) (q 1) (q 2) (q 3) 1 1) (fun (x7 : Int32) (t8 : Int32) => (0, r, f, va_up q 3 t8)) else (if v < (-20) then bnd2 (D_X10_isThrown_ (q 0) (q 1) (q 2) (q 3) 1 1) (fun (x13 : Int32) (t14 : Int32) => (0, r, f, va_up q 3 t14)) else (if v ≤ 20 then bnd2 (D_X10_isThrown_ (q 0) (q 1) (q 2) (q 3) 1 0) (fun (x19 : Int32) (t20 : Int32) => (0, r, f, va_up q 3 t20)) else bnd2 (D_X10_isThrown_ (q 0) (q 1) (q 2) (q 3) 1 1) (fun (x24 : Int32) (t25 : Int32) => (0, r, f, va_up q 3 t25))))) else bnd1 (D_X10_isLine r f q y c0 u) (fun (x30 : Int32) => (if x30 = 0 then (if z = u then bnd2 (D_X10_isThrown_ (q 0) (q 1) (q 2) (q 3) 1 1) (fun (x36 : Int32) (t37 : Int32) => (0, r, f, va_up q 3 t37)) else (if v < (-20) then bnd2 (D_X10_isThrown_ (q 0) (q 1) (q 2) (q 3) 1 1) (fun (x42 : Int32) (t43 : Int32) => (0, r, f, va_up q 3 t43)) else (if v ≤ 20 then bnd2 (D_X10_isThrown_ (q 0) (q 1) (q 2) (q 3) 1 0) (fun (x48 : Int32) (t49 : Int32) => (0, r, f, va_up q 3 t49)) else bnd2 (D_X10_isThrown_ (q 0) (q 1) (q 2) (q 3) 1 1) (fun (x53 : Int32) (t54 : Int32) => (0, r, f, va_up q 3 t54))))) else (if z = u then bnd2 (D_X10_isThrown_ (q 0) (q 1) (q 2) (q 3) 0 1) (fun (x60 : Int32) (t61 : Int32) => (0, r, f, va_up q 3 t61)) else (if v < (-20) then bnd2 (D_X10_isThrown_ (q 0) (q 1) (q 2) (q 3) 0 1) (fun (x66 : Int32) (t67 : Int32) => (0, r, f, va_up q 3 t67)) else (if v ≤ 20 then bnd2 (D_X10_isThrown_ (q 0) (q 1) (q 2) (q 3) 0 0) (fun (x72 : Int32) (t73 : Int32) => bnd1 (D_X7_copy (r (2 * y.toNatClampNeg)) (r (2 * y.toNatClampNeg + 1)) (f y.toNatClampNeg)) (fun (F80 : Nat → Int64) => (if c0 = 0 then bnd1 (D_X7_isLet (r (2 * y.toNatClampNeg)) (r (2 * y.toNatClampNeg + 1)) (ar (r (2 * y.toNatClampNeg + 1)) ((z).toNatClampNeg) ((u).toNatClampNeg) ((v).toInt64) F80)) (fun (x84 : Int32) => (if x84 = 0 then (-9, r, f, va_up (va_up q 3 t73) 1 (((va_up q 3 t73) 1) + 1)) else bnd4 (D_X10_changed r f (va_up q 3 t73) y (r (2 * y.toNatClampNeg)) (r (2 * y.toNatClampNeg + 1)) (ar (r (2 * y.toNatClampNeg + 1)) ((z).toNatClampNeg) ((u).toNatClampNeg) ((v).toInt64) F80)) (fun (x90 : Int32) (rn92 : Nat → Nat) (fn93 : Nat → Nat → Int64) (qn94 : Nat → Int32) => (x90, rn92, fn93, qn94)))) else bnd1 (D_X7_isLet (r (2 * y.toNatClampNeg)) (r (2 * y.toNatClampNeg + 1)) (ac (r (2 * y.toNatClampNeg)) ((z).toNatClampNeg) ((u).toNatClampNeg) ((v).toInt64) F80)) (fun (x99 : Int32) => (if x99 = 0 then (-9, r, f, va_up (va_up q 3 t73) 1 (((va_up q 3 t73) 1) + 1)) else bnd4 (D_X10_changed r f (va_up q 3 t73) y (r (2 * y.toNatClampNeg)) (r (2 * y.toNatClampNeg + 1)) (ac (r (2 * y.toNatClampNeg)) ((z).toNatClampNeg) ((u).toNatClampNeg) ((v).toInt64) F80)) (fun (x105 : Int32) (rn107 : Nat → Nat) (fn108 : Nat → Nat → Int64) (qn109 : Nat → Int32) => (x105, rn107, fn108, qn109))))))) else bnd2 (D_X10_isThrown_ (q 0) (q 1) (q 2) (q 3) 0 1) (fun (x114 : Int32) (t115 : Int32) => (0, r, f, va_up q 3 t115)))))))))
theorem D_X10_add_s {r : Nat → Nat} {f : Nat → Nat → Int64} {q : Nat → Int32} {y : Int32} {c0 : Int32} {z : Int32} {u : Int32} {v : Int32} : D_X10_add r f q y c0 z u v = bnd1 (D_X10_isLine r f q y c0 z) (fun (x1 : Int32) => (if x1 = 0 then (if z = u then bnd2 (D_X10_isThrown_ (q 0) (q 1) (q 2) (q 3) 1 1) (fun (x7 : Int32) (t8 : Int32) => (0, r, f, va_up q 3 t8)) else (if v < (-20) then bnd2 (D_X10_isThrown_ (q 0) (q 1) (q 2) (q 3) 1 1) (fun (x13 : Int32) (t14 : Int32) => (0, r, f, va_up q 3 t14)) else (if v ≤ 20 then bnd2 (D_X10_isThrown_ (q 0) (q 1) (q 2) (q 3) 1 0) (fun (x19 : Int32) (t20 : Int32) => (0, r, f, va_up q 3 t20)) else bnd2 (D_X10_isThrown_ (q 0) (q 1) (q 2) (q 3) 1 1) (fun (x24 : Int32) (t25 : Int32) => (0, r, f, va_up q 3 t25))))) else bnd1 (D_X10_isLine r f q y c0 u) (fun (x30 : Int32) => (if x30 = 0 then (if z = u then bnd2 (D_X10_isThrown_ (q 0) (q 1) (q 2) (q 3) 1 1) (fun (x36 : Int32) (t37 : Int32) => (0, r, f, va_up q 3 t37)) else (if v < (-20) then bnd2 (D_X10_isThrown_ (q 0) (q 1) (q 2) (q 3) 1 1) (fun (x42 : Int32) (t43 : Int32) => (0, r, f, va_up q 3 t43)) else (if v ≤ 20 then bnd2 (D_X10_isThrown_ (q 0) (q 1) (q 2) (q 3) 1 0) (fun (x48 : Int32) (t49 : Int32) => (0, r, f, va_up q 3 t49)) else bnd2 (D_X10_isThrown_ (q 0) (q 1) (q 2) (q 3) 1 1) (fun (x53 : Int32) (t54 : Int32) => (0, r, f, va_up q 3 t54))))) else (if z = u then bnd2 (D_X10_isThrown_ (q 0) (q 1) (q 2) (q 3) 0 1) (fun (x60 : Int32) (t61 : Int32) => (0, r, f, va_up q 3 t61)) else (if v < (-20) then bnd2 (D_X10_isThrown_ (q 0) (q 1) (q 2) (q 3) 0 1) (fun (x66 : Int32) (t67 : Int32) => (0, r, f, va_up q 3 t67)) else (if v ≤ 20 then bnd2 (D_X10_isThrown_ (q 0) (q 1) (q 2) (q 3) 0 0) (fun (x72 : Int32) (t73 : Int32) => bnd1 (D_X7_copy (r (2 * y.toNatClampNeg)) (r (2 * y.toNatClampNeg + 1)) (f y.toNatClampNeg)) (fun (F80 : Nat → Int64) => (if c0 = 0 then bnd1 (D_X7_isLet (r (2 * y.toNatClampNeg)) (r (2 * y.toNatClampNeg + 1)) (ar (r (2 * y.toNatClampNeg + 1)) ((z).toNatClampNeg) ((u).toNatClampNeg) ((v).toInt64) F80)) (fun (x84 : Int32) => (if x84 = 0 then (-9, r, f, va_up (va_up q 3 t73) 1 (((va_up q 3 t73) 1) + 1)) else bnd4 (D_X10_changed r f (va_up q 3 t73) y (r (2 * y.toNatClampNeg)) (r (2 * y.toNatClampNeg + 1)) (ar (r (2 * y.toNatClampNeg + 1)) ((z).toNatClampNeg) ((u).toNatClampNeg) ((v).toInt64) F80)) (fun (x90 : Int32) (rn92 : Nat → Nat) (fn93 : Nat → Nat → Int64) (qn94 : Nat → Int32) => (x90, rn92, fn93, qn94)))) else bnd1 (D_X7_isLet (r (2 * y.toNatClampNeg)) (r (2 * y.toNatClampNeg + 1)) (ac (r (2 * y.toNatClampNeg)) ((z).toNatClampNeg) ((u).toNatClampNeg) ((v).toInt64) F80)) (fun (x99 : Int32) => (if x99 = 0 then (-9, r, f, va_up (va_up q 3 t73) 1 (((va_up q 3 t73) 1) + 1)) else bnd4 (D_X10_changed r f (va_up q 3 t73) y (r (2 * y.toNatClampNeg)) (r (2 * y.toNatClampNeg + 1)) (ac (r (2 * y.toNatClampNeg)) ((z).toNatClampNeg) ((u).toNatClampNeg) ((v).toInt64) F80)) (fun (x105 : Int32) (rn107 : Nat → Nat) (fn108 : Nat → Nat → Int64) (qn109 : Nat → Int32) => (x105, rn107, fn108, qn109))))))) else bnd2 (D_X10_isThrown_ (q 0) (q 1) (q 2) (q 3) 0 1) (fun (x114 : Int32) (t115 : Int32) => (0, r, f, va_up q 3 t115))))))))) := rfl
set_option maxHeartbeats 4000000 in
set_option maxRecDepth 100000 in
theorem k_X10_add (κ : Kt) (l : Launch) (w : va_W) (a r : Nat → Nat) (f : Nat → Nat → Int64) (q : Nat → Int32) (y : Int32) (c0 : Int32) (z : Int32) (u : Int32) (v : Int32) (hm : mok r f) (o_x : Int32) (o_r' : Nat → Nat) (o_f' : Nat → Nat → Int64) (o_q' : Nat → Int32) (hR : D_X10_add r f q y c0 z u v = (o_x, o_r', o_f', o_q')) : CM κ l yX10_add cX10_add 7 (some .int) 3 65 2 23 [.ref (a 0), .int y, .int c0, .int z, .int u, .int v] (mw κ a r f q (tb a) w) (fun o w' => ∃ (a' : Nat → Nat), o = some (.int o_x) ∧ (a' 0 = a 0) ∧ (mok o_r' o_f') ∧ (o_q' 2 = q 2) ∧ w' = mw κ a' o_r' o_f' o_q' (tb a') w) := by
  refine CM_begin (plainFor_of_name (by decide)) (Nat.le_of_ble_eq_true rfl) ?_
  intro p e s m args below meth c A Q hX hnm hA3 hQ hB ls hl
  have hx := hX.1.1
  have hb := hX.1.2.1
  have hl : lv_has ls 7 [(0, .ref (a 0)), (1, .int y), (2, .int c0), (3, .int z), (4, .int u), (5, .int v)] := hl
  replace hR := (D_X10_add_s).symm.trans hR
  refine lv_aload_n hx hb dX10_add_0 rfl (lv_at hl 0 rfl) ?_
  refine lv_aload_n hx hb dX10_add_1 rfl (lv_at hl 0 rfl) ?_
  refine lv_iload_n hx hb dX10_add_2 rfl (lv_at hl 1 rfl) ?_
  refine lv_iload_n hx hb dX10_add_3 rfl (lv_at hl 2 rfl) ?_
  refine lv_iload_n hx hb dX10_add_4 rfl (lv_at hl 3 rfl) ?_
  obtain ⟨x1, hd2⟩ := ex1 (D_X10_isLine r f q y c0 z)
  replace hR := bnd1_use hd2 hR
  refine call_V (n := 3) (k0 := 0) (As := [.int y, .int c0, .int z]) (rest := [.ref (a 0)]) hX hB (k_X10_isLine κ l w a r f q y c0 z hm x1 hd2) ⟨rfl, by decide, by decide, by decide +kernel⟩ wm_6_42 wm_6_44 wp_34 wm_1_6 wm_6_45 ⟨Nat.le_of_ble_eq_true rfl, Nat.le_of_ble_eq_true rfl⟩ ⟨Nat.le_of_ble_eq_true rfl, Nat.le_of_ble_eq_true rfl⟩ (mw0x (a := a) (r := r) (f := f) (q := q) (T := tb a) (w := w) rfl) rfl rfl rfl hl.1 rfl (Nat.le_of_ble_eq_true rfl) dX10_add_5 (fun o w' H locs hp hB => ?_)
  obtain ⟨rfl, hf3, hw9⟩ := hp
  replace hB : Bd κ A s (mw κ a r f q (tb a) w) H locs := by rw [hw9] at hB; exact hB
  rcases hf3 with rfl | ⟨rfl, hz4a, hz4b, hz4c, hz4d, hz4e⟩
  · replace hR := ifp rfl hR
    refine W.eq (g2 := F0 m 8 ls [.int 0, .ref (a 0)]) rfl ?_
    refine lv_if_eq (tgt := 22) hx hb dX10_add_8 (by decide) (fun _ => ?_) (fun c5 => False.elim (by revert c5; decide))
    refine lv_iconst (v := 1) hx hb dX10_add_22 (by decide) ?_
    refine lv_goto (tgt := 27) hx hb dX10_add_23 (by decide) ?_
    refine lv_iload_n hx hb dX10_add_27 rfl (lv_at hl 3 rfl) ?_
    refine lv_iload hx hb dX10_add_28 (lv_at hl 4 rfl) ?_
    refine lv_icmp_eq (tgt := 47) hx hb dX10_add_30 (by decide) (fun c6 => ?_) (fun c6 => ?_)
    · replace hR := ifp c6 hR
      refine lv_iconst (v := 1) hx hb dX10_add_47 (by decide) ?_
      refine lv_goto (tgt := 52) hx hb dX10_add_48 (by decide) ?_
      obtain ⟨x7, t8, hd9⟩ := ex2 (D_X10_isThrown_ (q 0) (q 1) (q 2) (q 3) 1 1)
      replace hR := bnd2_use hd9 hR
      refine call_V (n := 2) (k0 := 0) (As := [.int 1, .int 1]) (rest := []) hX hB (k_X10_isThrown_ κ l (mw κ a r f q (tb a) w) 0 (a 0) (a 1) (q 0) (q 1) (q 2) (q 3) 1 1 (mw0x (a := a) (r := r) (f := f) (q := q) (T := tb a) (w := w) rfl) x7 t8 hd9) ⟨rfl, by decide, by decide, by decide +kernel⟩ wm_5_192 wm_5_194 wp_27 wm_1_6 wm_5_195 ⟨Nat.le_of_ble_eq_true rfl, Nat.le_of_ble_eq_true rfl⟩ ⟨Nat.le_of_ble_eq_true rfl, Nat.le_of_ble_eq_true rfl⟩ (mw0x (a := a) (r := r) (f := f) (q := q) (T := tb a) (w := w) rfl) rfl rfl rfl hl.1 rfl (Nat.le_of_ble_eq_true rfl) dX10_add_52 (fun o w' H locs hp hB => ?_)
      obtain ⟨rfl, hf10, hw9⟩ := hp
      replace hB : Bd κ A s (mw κ a r f (va_up q 3 t8) (tb a) w) H locs := by exact Bd_eq (mwQ3x rfl _) (by rw [hw9] at hB; exact hB)
      obtain rfl : x7 = 1 := hf10.trans (by decide)
      refine W.eq (g2 := F0 m 55 ls [.int 1]) rfl ?_
      refine lv_if_eq (tgt := 60) hx hb dX10_add_55 (by decide) (fun c11 => False.elim (by revert c11; decide)) (fun _ => ?_)
      refine lv_iconst (v := 0) hx hb dX10_add_58 (by decide) ?_
      rw [← hQ]
      exact end_i hX hB hA3 rfl rfl (by obtain ⟨rfl, rfl, rfl, rfl⟩ := pr4 hR; exact ⟨a, rfl, rfl, hm, rfl, rfl⟩) (Nat.le_of_ble_eq_true rfl) (Nat.le_of_ble_eq_true rfl) dX10_add_59
    · replace hR := ifn c6 hR
      refine lv_iload hx hb dX10_add_33 (lv_at hl 5 rfl) ?_
      refine lv_bipush (v := (-20)) hx hb dX10_add_35 (by decide) ?_
      refine lv_icmp_lt (tgt := 47) hx hb dX10_add_37 (by decide) (fun c12 => ?_) (fun c12 => ?_)
      · replace hR := ifp c12 hR
        refine lv_iconst (v := 1) hx hb dX10_add_47 (by decide) ?_
        refine lv_goto (tgt := 52) hx hb dX10_add_48 (by decide) ?_
        obtain ⟨x13, t14, hd15⟩ := ex2 (D_X10_isThrown_ (q 0) (q 1) (q 2) (q 3) 1 1)
        replace hR := bnd2_use hd15 hR
        refine call_V (n := 2) (k0 := 0) (As := [.int 1, .int 1]) (rest := []) hX hB (k_X10_isThrown_ κ l (mw κ a r f q (tb a) w) 0 (a 0) (a 1) (q 0) (q 1) (q 2) (q 3) 1 1 (mw0x (a := a) (r := r) (f := f) (q := q) (T := tb a) (w := w) rfl) x13 t14 hd15) ⟨rfl, by decide, by decide, by decide +kernel⟩ wm_5_192 wm_5_194 wp_27 wm_1_6 wm_5_195 ⟨Nat.le_of_ble_eq_true rfl, Nat.le_of_ble_eq_true rfl⟩ ⟨Nat.le_of_ble_eq_true rfl, Nat.le_of_ble_eq_true rfl⟩ (mw0x (a := a) (r := r) (f := f) (q := q) (T := tb a) (w := w) rfl) rfl rfl rfl hl.1 rfl (Nat.le_of_ble_eq_true rfl) dX10_add_52 (fun o w' H locs hp hB => ?_)
        obtain ⟨rfl, hf16, hw9⟩ := hp
        replace hB : Bd κ A s (mw κ a r f (va_up q 3 t14) (tb a) w) H locs := by exact Bd_eq (mwQ3x rfl _) (by rw [hw9] at hB; exact hB)
        obtain rfl : x13 = 1 := hf16.trans (by decide)
        refine W.eq (g2 := F0 m 55 ls [.int 1]) rfl ?_
        refine lv_if_eq (tgt := 60) hx hb dX10_add_55 (by decide) (fun c17 => False.elim (by revert c17; decide)) (fun _ => ?_)
        refine lv_iconst (v := 0) hx hb dX10_add_58 (by decide) ?_
        rw [← hQ]
        exact end_i hX hB hA3 rfl rfl (by obtain ⟨rfl, rfl, rfl, rfl⟩ := pr4 hR; exact ⟨a, rfl, rfl, hm, rfl, rfl⟩) (Nat.le_of_ble_eq_true rfl) (Nat.le_of_ble_eq_true rfl) dX10_add_59
      · replace hR := ifn c12 hR
        refine lv_iload hx hb dX10_add_40 (lv_at hl 5 rfl) ?_
        refine lv_bipush (v := 20) hx hb dX10_add_42 (by decide) ?_
        refine lv_icmp_le (tgt := 51) hx hb dX10_add_44 (by decide) (fun c18 => ?_) (fun c18 => ?_)
        · replace hR := ifp c18 hR
          refine lv_iconst (v := 0) hx hb dX10_add_51 (by decide) ?_
          obtain ⟨x19, t20, hd21⟩ := ex2 (D_X10_isThrown_ (q 0) (q 1) (q 2) (q 3) 1 0)
          replace hR := bnd2_use hd21 hR
          refine call_V (n := 2) (k0 := 0) (As := [.int 1, .int 0]) (rest := []) hX hB (k_X10_isThrown_ κ l (mw κ a r f q (tb a) w) 0 (a 0) (a 1) (q 0) (q 1) (q 2) (q 3) 1 0 (mw0x (a := a) (r := r) (f := f) (q := q) (T := tb a) (w := w) rfl) x19 t20 hd21) ⟨rfl, by decide, by decide, by decide +kernel⟩ wm_5_192 wm_5_194 wp_27 wm_1_6 wm_5_195 ⟨Nat.le_of_ble_eq_true rfl, Nat.le_of_ble_eq_true rfl⟩ ⟨Nat.le_of_ble_eq_true rfl, Nat.le_of_ble_eq_true rfl⟩ (mw0x (a := a) (r := r) (f := f) (q := q) (T := tb a) (w := w) rfl) rfl rfl rfl hl.1 rfl (Nat.le_of_ble_eq_true rfl) dX10_add_52 (fun o w' H locs hp hB => ?_)
          obtain ⟨rfl, hf22, hw9⟩ := hp
          replace hB : Bd κ A s (mw κ a r f (va_up q 3 t20) (tb a) w) H locs := by exact Bd_eq (mwQ3x rfl _) (by rw [hw9] at hB; exact hB)
          obtain rfl : x19 = 1 := hf22.trans (by decide)
          refine W.eq (g2 := F0 m 55 ls [.int 1]) rfl ?_
          refine lv_if_eq (tgt := 60) hx hb dX10_add_55 (by decide) (fun c23 => False.elim (by revert c23; decide)) (fun _ => ?_)
          refine lv_iconst (v := 0) hx hb dX10_add_58 (by decide) ?_
          rw [← hQ]
          exact end_i hX hB hA3 rfl rfl (by obtain ⟨rfl, rfl, rfl, rfl⟩ := pr4 hR; exact ⟨a, rfl, rfl, hm, rfl, rfl⟩) (Nat.le_of_ble_eq_true rfl) (Nat.le_of_ble_eq_true rfl) dX10_add_59
        · replace hR := ifn c18 hR
          refine lv_iconst (v := 1) hx hb dX10_add_47 (by decide) ?_
          refine lv_goto (tgt := 52) hx hb dX10_add_48 (by decide) ?_
          obtain ⟨x24, t25, hd26⟩ := ex2 (D_X10_isThrown_ (q 0) (q 1) (q 2) (q 3) 1 1)
          replace hR := bnd2_use hd26 hR
          refine call_V (n := 2) (k0 := 0) (As := [.int 1, .int 1]) (rest := []) hX hB (k_X10_isThrown_ κ l (mw κ a r f q (tb a) w) 0 (a 0) (a 1) (q 0) (q 1) (q 2) (q 3) 1 1 (mw0x (a := a) (r := r) (f := f) (q := q) (T := tb a) (w := w) rfl) x24 t25 hd26) ⟨rfl, by decide, by decide, by decide +kernel⟩ wm_5_192 wm_5_194 wp_27 wm_1_6 wm_5_195 ⟨Nat.le_of_ble_eq_true rfl, Nat.le_of_ble_eq_true rfl⟩ ⟨Nat.le_of_ble_eq_true rfl, Nat.le_of_ble_eq_true rfl⟩ (mw0x (a := a) (r := r) (f := f) (q := q) (T := tb a) (w := w) rfl) rfl rfl rfl hl.1 rfl (Nat.le_of_ble_eq_true rfl) dX10_add_52 (fun o w' H locs hp hB => ?_)
          obtain ⟨rfl, hf27, hw9⟩ := hp
          replace hB : Bd κ A s (mw κ a r f (va_up q 3 t25) (tb a) w) H locs := by exact Bd_eq (mwQ3x rfl _) (by rw [hw9] at hB; exact hB)
          obtain rfl : x24 = 1 := hf27.trans (by decide)
          refine W.eq (g2 := F0 m 55 ls [.int 1]) rfl ?_
          refine lv_if_eq (tgt := 60) hx hb dX10_add_55 (by decide) (fun c28 => False.elim (by revert c28; decide)) (fun _ => ?_)
          refine lv_iconst (v := 0) hx hb dX10_add_58 (by decide) ?_
          rw [← hQ]
          exact end_i hX hB hA3 rfl rfl (by obtain ⟨rfl, rfl, rfl, rfl⟩ := pr4 hR; exact ⟨a, rfl, rfl, hm, rfl, rfl⟩) (Nat.le_of_ble_eq_true rfl) (Nat.le_of_ble_eq_true rfl) dX10_add_59
  · replace hR := ifn (by decide) hR
    refine W.eq (g2 := F0 m 8 ls [.int 1, .ref (a 0)]) rfl ?_
    refine lv_if_eq (tgt := 22) hx hb dX10_add_8 (by decide) (fun c29 => False.elim (by revert c29; decide)) (fun _ => ?_)
    refine lv_aload_n hx hb dX10_add_11 rfl (lv_at hl 0 rfl) ?_
    refine lv_iload_n hx hb dX10_add_12 rfl (lv_at hl 1 rfl) ?_
    refine lv_iload_n hx hb dX10_add_13 rfl (lv_at hl 2 rfl) ?_
    refine lv_iload hx hb dX10_add_14 (lv_at hl 4 rfl) ?_
    obtain ⟨x30, hd31⟩ := ex1 (D_X10_isLine r f q y c0 u)
    replace hR := bnd1_use hd31 hR
    refine call_V (n := 3) (k0 := 0) (As := [.int y, .int c0, .int u]) (rest := [.ref (a 0)]) hX hB (k_X10_isLine κ l w a r f q y c0 u hm x30 hd31) ⟨rfl, by decide, by decide, by decide +kernel⟩ wm_6_42 wm_6_44 wp_34 wm_1_6 wm_6_45 ⟨Nat.le_of_ble_eq_true rfl, Nat.le_of_ble_eq_true rfl⟩ ⟨Nat.le_of_ble_eq_true rfl, Nat.le_of_ble_eq_true rfl⟩ (mw0x (a := a) (r := r) (f := f) (q := q) (T := tb a) (w := w) rfl) rfl rfl rfl hl.1 rfl (Nat.le_of_ble_eq_true rfl) dX10_add_16 (fun o w' H locs hp hB => ?_)
    obtain ⟨rfl, hf32, hw9⟩ := hp
    replace hB : Bd κ A s (mw κ a r f q (tb a) w) H locs := by rw [hw9] at hB; exact hB
    rcases hf32 with rfl | ⟨rfl, hz33a, hz33b, hz33c, hz33d, hz33e⟩
    · replace hR := ifp rfl hR
      refine W.eq (g2 := F0 m 19 ls [.int 0, .ref (a 0)]) rfl ?_
      refine lv_if_ne (tgt := 26) hx hb dX10_add_19 (by decide) (fun c34 => False.elim (by revert c34; decide)) (fun _ => ?_)
      refine lv_iconst (v := 1) hx hb dX10_add_22 (by decide) ?_
      refine lv_goto (tgt := 27) hx hb dX10_add_23 (by decide) ?_
      refine lv_iload_n hx hb dX10_add_27 rfl (lv_at hl 3 rfl) ?_
      refine lv_iload hx hb dX10_add_28 (lv_at hl 4 rfl) ?_
      refine lv_icmp_eq (tgt := 47) hx hb dX10_add_30 (by decide) (fun c35 => ?_) (fun c35 => ?_)
      · replace hR := ifp c35 hR
        refine lv_iconst (v := 1) hx hb dX10_add_47 (by decide) ?_
        refine lv_goto (tgt := 52) hx hb dX10_add_48 (by decide) ?_
        obtain ⟨x36, t37, hd38⟩ := ex2 (D_X10_isThrown_ (q 0) (q 1) (q 2) (q 3) 1 1)
        replace hR := bnd2_use hd38 hR
        refine call_V (n := 2) (k0 := 0) (As := [.int 1, .int 1]) (rest := []) hX hB (k_X10_isThrown_ κ l (mw κ a r f q (tb a) w) 0 (a 0) (a 1) (q 0) (q 1) (q 2) (q 3) 1 1 (mw0x (a := a) (r := r) (f := f) (q := q) (T := tb a) (w := w) rfl) x36 t37 hd38) ⟨rfl, by decide, by decide, by decide +kernel⟩ wm_5_192 wm_5_194 wp_27 wm_1_6 wm_5_195 ⟨Nat.le_of_ble_eq_true rfl, Nat.le_of_ble_eq_true rfl⟩ ⟨Nat.le_of_ble_eq_true rfl, Nat.le_of_ble_eq_true rfl⟩ (mw0x (a := a) (r := r) (f := f) (q := q) (T := tb a) (w := w) rfl) rfl rfl rfl hl.1 rfl (Nat.le_of_ble_eq_true rfl) dX10_add_52 (fun o w' H locs hp hB => ?_)
        obtain ⟨rfl, hf39, hw9⟩ := hp
        replace hB : Bd κ A s (mw κ a r f (va_up q 3 t37) (tb a) w) H locs := by exact Bd_eq (mwQ3x rfl _) (by rw [hw9] at hB; exact hB)
        obtain rfl : x36 = 1 := hf39.trans (by decide)
        refine W.eq (g2 := F0 m 55 ls [.int 1]) rfl ?_
        refine lv_if_eq (tgt := 60) hx hb dX10_add_55 (by decide) (fun c40 => False.elim (by revert c40; decide)) (fun _ => ?_)
        refine lv_iconst (v := 0) hx hb dX10_add_58 (by decide) ?_
        rw [← hQ]
        exact end_i hX hB hA3 rfl rfl (by obtain ⟨rfl, rfl, rfl, rfl⟩ := pr4 hR; exact ⟨a, rfl, rfl, hm, rfl, rfl⟩) (Nat.le_of_ble_eq_true rfl) (Nat.le_of_ble_eq_true rfl) dX10_add_59
      · replace hR := ifn c35 hR
        refine lv_iload hx hb dX10_add_33 (lv_at hl 5 rfl) ?_
        refine lv_bipush (v := (-20)) hx hb dX10_add_35 (by decide) ?_
        refine lv_icmp_lt (tgt := 47) hx hb dX10_add_37 (by decide) (fun c41 => ?_) (fun c41 => ?_)
        · replace hR := ifp c41 hR
          refine lv_iconst (v := 1) hx hb dX10_add_47 (by decide) ?_
          refine lv_goto (tgt := 52) hx hb dX10_add_48 (by decide) ?_
          obtain ⟨x42, t43, hd44⟩ := ex2 (D_X10_isThrown_ (q 0) (q 1) (q 2) (q 3) 1 1)
          replace hR := bnd2_use hd44 hR
          refine call_V (n := 2) (k0 := 0) (As := [.int 1, .int 1]) (rest := []) hX hB (k_X10_isThrown_ κ l (mw κ a r f q (tb a) w) 0 (a 0) (a 1) (q 0) (q 1) (q 2) (q 3) 1 1 (mw0x (a := a) (r := r) (f := f) (q := q) (T := tb a) (w := w) rfl) x42 t43 hd44) ⟨rfl, by decide, by decide, by decide +kernel⟩ wm_5_192 wm_5_194 wp_27 wm_1_6 wm_5_195 ⟨Nat.le_of_ble_eq_true rfl, Nat.le_of_ble_eq_true rfl⟩ ⟨Nat.le_of_ble_eq_true rfl, Nat.le_of_ble_eq_true rfl⟩ (mw0x (a := a) (r := r) (f := f) (q := q) (T := tb a) (w := w) rfl) rfl rfl rfl hl.1 rfl (Nat.le_of_ble_eq_true rfl) dX10_add_52 (fun o w' H locs hp hB => ?_)
          obtain ⟨rfl, hf45, hw9⟩ := hp
          replace hB : Bd κ A s (mw κ a r f (va_up q 3 t43) (tb a) w) H locs := by exact Bd_eq (mwQ3x rfl _) (by rw [hw9] at hB; exact hB)
          obtain rfl : x42 = 1 := hf45.trans (by decide)
          refine W.eq (g2 := F0 m 55 ls [.int 1]) rfl ?_
          refine lv_if_eq (tgt := 60) hx hb dX10_add_55 (by decide) (fun c46 => False.elim (by revert c46; decide)) (fun _ => ?_)
          refine lv_iconst (v := 0) hx hb dX10_add_58 (by decide) ?_
          rw [← hQ]
          exact end_i hX hB hA3 rfl rfl (by obtain ⟨rfl, rfl, rfl, rfl⟩ := pr4 hR; exact ⟨a, rfl, rfl, hm, rfl, rfl⟩) (Nat.le_of_ble_eq_true rfl) (Nat.le_of_ble_eq_true rfl) dX10_add_59
        · replace hR := ifn c41 hR
          refine lv_iload hx hb dX10_add_40 (lv_at hl 5 rfl) ?_
          refine lv_bipush (v := 20) hx hb dX10_add_42 (by decide) ?_
          refine lv_icmp_le (tgt := 51) hx hb dX10_add_44 (by decide) (fun c47 => ?_) (fun c47 => ?_)
          · replace hR := ifp c47 hR
            refine lv_iconst (v := 0) hx hb dX10_add_51 (by decide) ?_
            obtain ⟨x48, t49, hd50⟩ := ex2 (D_X10_isThrown_ (q 0) (q 1) (q 2) (q 3) 1 0)
            replace hR := bnd2_use hd50 hR
            refine call_V (n := 2) (k0 := 0) (As := [.int 1, .int 0]) (rest := []) hX hB (k_X10_isThrown_ κ l (mw κ a r f q (tb a) w) 0 (a 0) (a 1) (q 0) (q 1) (q 2) (q 3) 1 0 (mw0x (a := a) (r := r) (f := f) (q := q) (T := tb a) (w := w) rfl) x48 t49 hd50) ⟨rfl, by decide, by decide, by decide +kernel⟩ wm_5_192 wm_5_194 wp_27 wm_1_6 wm_5_195 ⟨Nat.le_of_ble_eq_true rfl, Nat.le_of_ble_eq_true rfl⟩ ⟨Nat.le_of_ble_eq_true rfl, Nat.le_of_ble_eq_true rfl⟩ (mw0x (a := a) (r := r) (f := f) (q := q) (T := tb a) (w := w) rfl) rfl rfl rfl hl.1 rfl (Nat.le_of_ble_eq_true rfl) dX10_add_52 (fun o w' H locs hp hB => ?_)
            obtain ⟨rfl, hf51, hw9⟩ := hp
            replace hB : Bd κ A s (mw κ a r f (va_up q 3 t49) (tb a) w) H locs := by exact Bd_eq (mwQ3x rfl _) (by rw [hw9] at hB; exact hB)
            obtain rfl : x48 = 1 := hf51.trans (by decide)
            refine W.eq (g2 := F0 m 55 ls [.int 1]) rfl ?_
            refine lv_if_eq (tgt := 60) hx hb dX10_add_55 (by decide) (fun c52 => False.elim (by revert c52; decide)) (fun _ => ?_)
            refine lv_iconst (v := 0) hx hb dX10_add_58 (by decide) ?_
            rw [← hQ]
            exact end_i hX hB hA3 rfl rfl (by obtain ⟨rfl, rfl, rfl, rfl⟩ := pr4 hR; exact ⟨a, rfl, rfl, hm, rfl, rfl⟩) (Nat.le_of_ble_eq_true rfl) (Nat.le_of_ble_eq_true rfl) dX10_add_59
          · replace hR := ifn c47 hR
            refine lv_iconst (v := 1) hx hb dX10_add_47 (by decide) ?_
            refine lv_goto (tgt := 52) hx hb dX10_add_48 (by decide) ?_
            obtain ⟨x53, t54, hd55⟩ := ex2 (D_X10_isThrown_ (q 0) (q 1) (q 2) (q 3) 1 1)
            replace hR := bnd2_use hd55 hR
            refine call_V (n := 2) (k0 := 0) (As := [.int 1, .int 1]) (rest := []) hX hB (k_X10_isThrown_ κ l (mw κ a r f q (tb a) w) 0 (a 0) (a 1) (q 0) (q 1) (q 2) (q 3) 1 1 (mw0x (a := a) (r := r) (f := f) (q := q) (T := tb a) (w := w) rfl) x53 t54 hd55) ⟨rfl, by decide, by decide, by decide +kernel⟩ wm_5_192 wm_5_194 wp_27 wm_1_6 wm_5_195 ⟨Nat.le_of_ble_eq_true rfl, Nat.le_of_ble_eq_true rfl⟩ ⟨Nat.le_of_ble_eq_true rfl, Nat.le_of_ble_eq_true rfl⟩ (mw0x (a := a) (r := r) (f := f) (q := q) (T := tb a) (w := w) rfl) rfl rfl rfl hl.1 rfl (Nat.le_of_ble_eq_true rfl) dX10_add_52 (fun o w' H locs hp hB => ?_)
            obtain ⟨rfl, hf56, hw9⟩ := hp
            replace hB : Bd κ A s (mw κ a r f (va_up q 3 t54) (tb a) w) H locs := by exact Bd_eq (mwQ3x rfl _) (by rw [hw9] at hB; exact hB)
            obtain rfl : x53 = 1 := hf56.trans (by decide)
            refine W.eq (g2 := F0 m 55 ls [.int 1]) rfl ?_
            refine lv_if_eq (tgt := 60) hx hb dX10_add_55 (by decide) (fun c57 => False.elim (by revert c57; decide)) (fun _ => ?_)
            refine lv_iconst (v := 0) hx hb dX10_add_58 (by decide) ?_
            rw [← hQ]
            exact end_i hX hB hA3 rfl rfl (by obtain ⟨rfl, rfl, rfl, rfl⟩ := pr4 hR; exact ⟨a, rfl, rfl, hm, rfl, rfl⟩) (Nat.le_of_ble_eq_true rfl) (Nat.le_of_ble_eq_true rfl) dX10_add_59
    · replace hR := ifn (by decide) hR
      refine W.eq (g2 := F0 m 19 ls [.int 1, .ref (a 0)]) rfl ?_
      refine lv_if_ne (tgt := 26) hx hb dX10_add_19 (by decide) (fun _ => ?_) (fun c58 => False.elim (by revert c58; decide))
      refine lv_iconst (v := 0) hx hb dX10_add_26 (by decide) ?_
      refine lv_iload_n hx hb dX10_add_27 rfl (lv_at hl 3 rfl) ?_
      refine lv_iload hx hb dX10_add_28 (lv_at hl 4 rfl) ?_
      refine lv_icmp_eq (tgt := 47) hx hb dX10_add_30 (by decide) (fun c59 => ?_) (fun c59 => ?_)
      · replace hR := ifp c59 hR
        refine lv_iconst (v := 1) hx hb dX10_add_47 (by decide) ?_
        refine lv_goto (tgt := 52) hx hb dX10_add_48 (by decide) ?_
        obtain ⟨x60, t61, hd62⟩ := ex2 (D_X10_isThrown_ (q 0) (q 1) (q 2) (q 3) 0 1)
        replace hR := bnd2_use hd62 hR
        refine call_V (n := 2) (k0 := 0) (As := [.int 0, .int 1]) (rest := []) hX hB (k_X10_isThrown_ κ l (mw κ a r f q (tb a) w) 0 (a 0) (a 1) (q 0) (q 1) (q 2) (q 3) 0 1 (mw0x (a := a) (r := r) (f := f) (q := q) (T := tb a) (w := w) rfl) x60 t61 hd62) ⟨rfl, by decide, by decide, by decide +kernel⟩ wm_5_192 wm_5_194 wp_27 wm_1_6 wm_5_195 ⟨Nat.le_of_ble_eq_true rfl, Nat.le_of_ble_eq_true rfl⟩ ⟨Nat.le_of_ble_eq_true rfl, Nat.le_of_ble_eq_true rfl⟩ (mw0x (a := a) (r := r) (f := f) (q := q) (T := tb a) (w := w) rfl) rfl rfl rfl hl.1 rfl (Nat.le_of_ble_eq_true rfl) dX10_add_52 (fun o w' H locs hp hB => ?_)
        obtain ⟨rfl, hf63, hw9⟩ := hp
        replace hB : Bd κ A s (mw κ a r f (va_up q 3 t61) (tb a) w) H locs := by exact Bd_eq (mwQ3x rfl _) (by rw [hw9] at hB; exact hB)
        obtain rfl : x60 = 1 := hf63.trans (by decide)
        refine W.eq (g2 := F0 m 55 ls [.int 1]) rfl ?_
        refine lv_if_eq (tgt := 60) hx hb dX10_add_55 (by decide) (fun c64 => False.elim (by revert c64; decide)) (fun _ => ?_)
        refine lv_iconst (v := 0) hx hb dX10_add_58 (by decide) ?_
        rw [← hQ]
        exact end_i hX hB hA3 rfl rfl (by obtain ⟨rfl, rfl, rfl, rfl⟩ := pr4 hR; exact ⟨a, rfl, rfl, hm, rfl, rfl⟩) (Nat.le_of_ble_eq_true rfl) (Nat.le_of_ble_eq_true rfl) dX10_add_59
      · replace hR := ifn c59 hR
        refine lv_iload hx hb dX10_add_33 (lv_at hl 5 rfl) ?_
        refine lv_bipush (v := (-20)) hx hb dX10_add_35 (by decide) ?_
        refine lv_icmp_lt (tgt := 47) hx hb dX10_add_37 (by decide) (fun c65 => ?_) (fun c65 => ?_)
        · replace hR := ifp c65 hR
          refine lv_iconst (v := 1) hx hb dX10_add_47 (by decide) ?_
          refine lv_goto (tgt := 52) hx hb dX10_add_48 (by decide) ?_
          obtain ⟨x66, t67, hd68⟩ := ex2 (D_X10_isThrown_ (q 0) (q 1) (q 2) (q 3) 0 1)
          replace hR := bnd2_use hd68 hR
          refine call_V (n := 2) (k0 := 0) (As := [.int 0, .int 1]) (rest := []) hX hB (k_X10_isThrown_ κ l (mw κ a r f q (tb a) w) 0 (a 0) (a 1) (q 0) (q 1) (q 2) (q 3) 0 1 (mw0x (a := a) (r := r) (f := f) (q := q) (T := tb a) (w := w) rfl) x66 t67 hd68) ⟨rfl, by decide, by decide, by decide +kernel⟩ wm_5_192 wm_5_194 wp_27 wm_1_6 wm_5_195 ⟨Nat.le_of_ble_eq_true rfl, Nat.le_of_ble_eq_true rfl⟩ ⟨Nat.le_of_ble_eq_true rfl, Nat.le_of_ble_eq_true rfl⟩ (mw0x (a := a) (r := r) (f := f) (q := q) (T := tb a) (w := w) rfl) rfl rfl rfl hl.1 rfl (Nat.le_of_ble_eq_true rfl) dX10_add_52 (fun o w' H locs hp hB => ?_)
          obtain ⟨rfl, hf69, hw9⟩ := hp
          replace hB : Bd κ A s (mw κ a r f (va_up q 3 t67) (tb a) w) H locs := by exact Bd_eq (mwQ3x rfl _) (by rw [hw9] at hB; exact hB)
          obtain rfl : x66 = 1 := hf69.trans (by decide)
          refine W.eq (g2 := F0 m 55 ls [.int 1]) rfl ?_
          refine lv_if_eq (tgt := 60) hx hb dX10_add_55 (by decide) (fun c70 => False.elim (by revert c70; decide)) (fun _ => ?_)
          refine lv_iconst (v := 0) hx hb dX10_add_58 (by decide) ?_
          rw [← hQ]
          exact end_i hX hB hA3 rfl rfl (by obtain ⟨rfl, rfl, rfl, rfl⟩ := pr4 hR; exact ⟨a, rfl, rfl, hm, rfl, rfl⟩) (Nat.le_of_ble_eq_true rfl) (Nat.le_of_ble_eq_true rfl) dX10_add_59
        · replace hR := ifn c65 hR
          refine lv_iload hx hb dX10_add_40 (lv_at hl 5 rfl) ?_
          refine lv_bipush (v := 20) hx hb dX10_add_42 (by decide) ?_
          refine lv_icmp_le (tgt := 51) hx hb dX10_add_44 (by decide) (fun c71 => ?_) (fun c71 => ?_)
          · replace hR := ifp c71 hR
            refine lv_iconst (v := 0) hx hb dX10_add_51 (by decide) ?_
            obtain ⟨x72, t73, hd74⟩ := ex2 (D_X10_isThrown_ (q 0) (q 1) (q 2) (q 3) 0 0)
            replace hR := bnd2_use hd74 hR
            refine call_V (n := 2) (k0 := 0) (As := [.int 0, .int 0]) (rest := []) hX hB (k_X10_isThrown_ κ l (mw κ a r f q (tb a) w) 0 (a 0) (a 1) (q 0) (q 1) (q 2) (q 3) 0 0 (mw0x (a := a) (r := r) (f := f) (q := q) (T := tb a) (w := w) rfl) x72 t73 hd74) ⟨rfl, by decide, by decide, by decide +kernel⟩ wm_5_192 wm_5_194 wp_27 wm_1_6 wm_5_195 ⟨Nat.le_of_ble_eq_true rfl, Nat.le_of_ble_eq_true rfl⟩ ⟨Nat.le_of_ble_eq_true rfl, Nat.le_of_ble_eq_true rfl⟩ (mw0x (a := a) (r := r) (f := f) (q := q) (T := tb a) (w := w) rfl) rfl rfl rfl hl.1 rfl (Nat.le_of_ble_eq_true rfl) dX10_add_52 (fun o w' H locs hp hB => ?_)
            obtain ⟨rfl, hf75, hw9⟩ := hp
            replace hB : Bd κ A s (mw κ a r f (va_up q 3 t73) (tb a) w) H locs := by exact Bd_eq (mwQ3x rfl _) (by rw [hw9] at hB; exact hB)
            obtain rfl : x72 = 0 := hf75.trans (by decide)
            refine W.eq (g2 := F0 m 55 ls [.int 0]) rfl ?_
            refine lv_if_eq (tgt := 60) hx hb dX10_add_55 (by decide) (fun _ => ?_) (fun c76 => False.elim (by revert c76; decide))
            refine lv_aload_n hx hb dX10_add_60 rfl (lv_at hl 0 rfl) ?_
            refine gf (k0 := 0) hX hB (mw0x (a := a) (r := r) (f := f) (q := (va_up q 3 t73)) (T := tb a) (w := w) rfl) rfl in10 0 (by decide) wm_5_162 rfl rfl dX10_add_61 ?_
            refine lv_iload_n hx hb dX10_add_64 rfl (lv_at hl 1 rfl) ?_
            refine aaldM (k0 := 1) hX hB (mw1 (a := a) (r := r) (f := f) (q := (va_up q 3 t73)) (T := tb a) (w := w)) (vp_in_mk (by assumption) (by assumption)) rfl dX10_add_65 ?_
            have hb77 := mok_r hm y.toNatClampNeg (by omega)
            obtain ⟨F80, hd81⟩ := ex1 (D_X7_copy (r (2 * y.toNatClampNeg)) (r (2 * y.toNatClampNeg + 1)) (f y.toNatClampNeg))
            replace hR := bnd1_use hd81 hR
            refine call_V (n := 0) (k0 := (2 + 2 * y.toNatClampNeg)) (As := []) (rest := []) hX hB (k_X7_copy κ l (mw κ a r f (va_up q 3 t73) (tb a) w) (2 + 2 * y.toNatClampNeg) (3 + 2 * y.toNatClampNeg) (a (2 + 2 * y.toNatClampNeg)) (a (3 + 2 * y.toNatClampNeg)) (r (2 * y.toNatClampNeg)) (r (2 * y.toNatClampNeg + 1)) (f y.toNatClampNeg) (mwG (i := y.toNatClampNeg) (a := a) (r := r) (f := f) (q := (va_up q 3 t73)) (T := tb a) (w := w) (by omega)) (mwA (i := y.toNatClampNeg) (a := a) (r := r) (f := f) (q := (va_up q 3 t73)) (T := tb a) (w := w) (by omega)) (mok_shp (i := y.toNatClampNeg) hm (by omega)) F80 hd81) ⟨rfl, by decide, by decide, by decide +kernel⟩ wm_6_23 wm_6_24 wm_6_25 wm_1_7 wm_6_26 ⟨Nat.le_of_ble_eq_true rfl, Nat.le_of_ble_eq_true rfl⟩ ⟨Nat.le_of_ble_eq_true rfl, Nat.le_of_ble_eq_true rfl⟩ (mwG (i := y.toNatClampNeg) (a := a) (r := r) (f := f) (q := (va_up q 3 t73)) (T := tb a) (w := w) (by omega)) rfl rfl rfl hl.1 rfl (Nat.le_of_ble_eq_true rfl) dX10_add_66 (fun o w' H locs hp hB => ?_)
            obtain ⟨q78, q79, rfl, hf82, hw9⟩ := hp
            replace hB : Bd κ A s (lA κ q79 ((r (2 * y.toNatClampNeg)) * 5) F80 :: gO q78 (r (2 * y.toNatClampNeg)) (r (2 * y.toNatClampNeg + 1)) q79 :: mw κ a r f (va_up q 3 t73) (tb a) w) H locs := by rw [hw9] at hB; exact hB
            have hscF80 : ∀ k, k < (r (2 * y.toNatClampNeg)) * 5 → sm (F80 k) := fun k hk => by rw [hf82 k hk]; exact (hm _ (by omega)).2 k hk
            refine W.eq (g2 := F0 m 69 ls [.ref q78]) rfl ?_
            refine lv_astore (lv' := [(6, .ref q78), (0, .ref (a 0)), (1, .int y), (2, .int c0), (3, .int z), (4, .int u), (5, .int v)]) hx hb dX10_add_69 hl (by decide) rfl (fun ls hl => ?_)
            refine lv_iload_n hx hb dX10_add_71 rfl (lv_at hl 3 rfl) ?_
            refine lv_if_eq (tgt := 89) hx hb dX10_add_72 (by decide) (fun c83 => ?_) (fun c83 => ?_)
            · replace hR := ifp c83 hR
              have hz4l := hz4d c83
              have hz33l := hz33d c83
              refine lv_aload hx hb dX10_add_89 (lv_at hl 0 rfl) ?_
              refine lv_iload_n hx hb dX10_add_91 rfl (lv_at hl 4 rfl) ?_
              refine lv_iload hx hb dX10_add_92 (lv_at hl 5 rfl) ?_
              refine lv_iload hx hb dX10_add_94 (lv_at hl 6 rfl) ?_
              refine lv_i2l hx hb dX10_add_96 rfl ?_
              refine call_V (n := 3) (k0 := 1) (As := [.int z, .int u, .long ((v).toInt64)]) (rest := []) hX hB (k_X7_addRow κ l (lA κ q79 ((r (2 * y.toNatClampNeg)) * 5) F80 :: gO q78 (r (2 * y.toNatClampNeg)) (r (2 * y.toNatClampNeg + 1)) q79 :: mw κ a r f (va_up q 3 t73) (tb a) w) 1 0 q78 q79 (r (2 * y.toNatClampNeg)) (r (2 * y.toNatClampNeg + 1)) F80 z ((z).toNatClampNeg) u ((u).toNatClampNeg) ((v).toInt64) rfl rfl ⟨by omega, by omega, by omega, by omega⟩ (nI_rep (by assumption)) (nI_rep (by assumption)) (by omega) (by omega) (ne_nat (by assumption) (by assumption) (by assumption))) ⟨rfl, by decide, by decide, by decide +kernel⟩ wm_6_79 wm_6_80 wm_6_81 wm_1_7 wm_6_82 ⟨Nat.le_of_ble_eq_true rfl, Nat.le_of_ble_eq_true rfl⟩ ⟨Nat.le_of_ble_eq_true rfl, Nat.le_of_ble_eq_true rfl⟩ rfl rfl rfl rfl hl.1 rfl (Nat.le_of_ble_eq_true rfl) dX10_add_97 (fun o w' H locs hp hB => ?_)
              obtain ⟨rfl, hw9⟩ := hp
              replace hB : Bd κ A s (lA κ q79 ((r (2 * y.toNatClampNeg)) * 5) (ar (r (2 * y.toNatClampNeg + 1)) ((z).toNatClampNeg) ((u).toNatClampNeg) ((v).toInt64) F80) :: gO q78 (r (2 * y.toNatClampNeg)) (r (2 * y.toNatClampNeg + 1)) q79 :: mw κ a r f (va_up q 3 t73) (tb a) w) H locs := by rw [hw9] at hB; exact hB
              refine W.eq (g2 := F0 m 100 ls []) rfl ?_
              refine lv_aload hx hb dX10_add_100 (lv_at hl 0 rfl) ?_
              obtain ⟨x84, hd85⟩ := ex1 (D_X7_isLet (r (2 * y.toNatClampNeg)) (r (2 * y.toNatClampNeg + 1)) (ar (r (2 * y.toNatClampNeg + 1)) ((z).toNatClampNeg) ((u).toNatClampNeg) ((v).toInt64) F80))
              replace hR := bnd1_use hd85 hR
              refine call_V (n := 0) (k0 := 1) (As := []) (rest := []) hX hB (k_X7_isLet κ l (lA κ q79 ((r (2 * y.toNatClampNeg)) * 5) (ar (r (2 * y.toNatClampNeg + 1)) ((z).toNatClampNeg) ((u).toNatClampNeg) ((v).toInt64) F80) :: gO q78 (r (2 * y.toNatClampNeg)) (r (2 * y.toNatClampNeg + 1)) q79 :: mw κ a r f (va_up q 3 t73) (tb a) w) 1 0 q78 q79 (r (2 * y.toNatClampNeg)) (r (2 * y.toNatClampNeg + 1)) (ar (r (2 * y.toNatClampNeg + 1)) ((z).toNatClampNeg) ((u).toNatClampNeg) ((v).toInt64) F80) rfl rfl ⟨by omega, by omega, by omega, by omega⟩ x84 hd85) ⟨rfl, by decide, by decide, by decide +kernel⟩ wm_6_83 wm_6_84 wm_6_85 wm_1_7 wm_6_86 ⟨Nat.le_of_ble_eq_true rfl, Nat.le_of_ble_eq_true rfl⟩ ⟨Nat.le_of_ble_eq_true rfl, Nat.le_of_ble_eq_true rfl⟩ rfl rfl rfl rfl hl.1 rfl (Nat.le_of_ble_eq_true rfl) dX10_add_102 (fun o w' H locs hp hB => ?_)
              obtain ⟨rfl, hf86, hf87, hw9⟩ := hp
              replace hB : Bd κ A s (lA κ q79 ((r (2 * y.toNatClampNeg)) * 5) (ar (r (2 * y.toNatClampNeg + 1)) ((z).toNatClampNeg) ((u).toNatClampNeg) ((v).toInt64) F80) :: gO q78 (r (2 * y.toNatClampNeg)) (r (2 * y.toNatClampNeg + 1)) q79 :: mw κ a r f (va_up q 3 t73) (tb a) w) H locs := by rw [hw9] at hB; exact hB
              rcases hf86 with rfl | rfl
              · replace hR := ifp rfl hR
                refine W.eq (g2 := F0 m 105 ls [.int 0]) rfl ?_
                refine lv_if_eq (tgt := 118) hx hb dX10_add_105 (by decide) (fun _ => ?_) (fun c88 => False.elim (by revert c88; decide))
                refine lv_aload_n hx hb dX10_add_118 rfl (lv_at hl 1 rfl) ?_
                refine call_V (n := 0) (k0 := 2) (As := []) (rest := []) hX hB (k_X10_no κ l (lA κ q79 ((r (2 * y.toNatClampNeg)) * 5) (ar (r (2 * y.toNatClampNeg + 1)) ((z).toNatClampNeg) ((u).toNatClampNeg) ((v).toInt64) F80) :: gO q78 (r (2 * y.toNatClampNeg)) (r (2 * y.toNatClampNeg + 1)) q79 :: mw κ a r f (va_up q 3 t73) (tb a) w) 2 (a 0) (a 1) ((va_up q 3 t73) 0) ((va_up q 3 t73) 1) ((va_up q 3 t73) 2) ((va_up q 3 t73) 3) (mw0x (a := a) (r := r) (f := f) (q := (va_up q 3 t73)) (T := tb a) (w := w) rfl)) ⟨rfl, by decide, by decide, by decide +kernel⟩ wm_6_89 wm_6_91 wp_36 wm_1_6 wm_6_92 ⟨Nat.le_of_ble_eq_true rfl, Nat.le_of_ble_eq_true rfl⟩ ⟨Nat.le_of_ble_eq_true rfl, Nat.le_of_ble_eq_true rfl⟩ (mw0x (a := a) (r := r) (f := f) (q := (va_up q 3 t73)) (T := tb a) (w := w) rfl) rfl rfl rfl hl.1 rfl (Nat.le_of_ble_eq_true rfl) dX10_add_119 (fun o w' H locs hp hB => ?_)
                obtain ⟨rfl, hw9⟩ := hp
                replace hB : Bd κ A s (lA κ q79 ((r (2 * y.toNatClampNeg)) * 5) (ar (r (2 * y.toNatClampNeg + 1)) ((z).toNatClampNeg) ((u).toNatClampNeg) ((v).toInt64) F80) :: gO q78 (r (2 * y.toNatClampNeg)) (r (2 * y.toNatClampNeg + 1)) q79 :: mw κ a r f (va_up (va_up q 3 t73) 1 (((va_up q 3 t73) 1) + 1)) (tb a) w) H locs := by exact Bd_eq (congrArg (List.cons _) (congrArg (List.cons _) (mwQ1x rfl _))) (by rw [hw9] at hB; exact hB)
                refine W.eq (g2 := F0 m 122 ls [.int (-9)]) rfl ?_
                replace hB : Bd κ A s (lA κ q79 ((r (2 * y.toNatClampNeg)) * 5) (ar (r (2 * y.toNatClampNeg + 1)) ((z).toNatClampNeg) ((u).toNatClampNeg) ((v).toInt64) F80) :: mw κ a r f (va_up (va_up q 3 t73) 1 (((va_up q 3 t73) 1) + 1)) (tb a) w) H locs := Bd_del 1 hB
                replace hB : Bd κ A s (mw κ a r f (va_up (va_up q 3 t73) 1 (((va_up q 3 t73) 1) + 1)) (tb a) w) H locs := Bd_del 0 hB
                rw [← hQ]
                exact end_i hX hB hA3 rfl rfl (by obtain ⟨rfl, rfl, rfl, rfl⟩ := pr4 hR; exact ⟨a, rfl, rfl, hm, rfl, rfl⟩) (Nat.le_of_ble_eq_true rfl) (Nat.le_of_ble_eq_true rfl) dX10_add_122
              · replace hR := ifn (by decide) hR
                refine W.eq (g2 := F0 m 105 ls [.int 1]) rfl ?_
                refine lv_if_eq (tgt := 118) hx hb dX10_add_105 (by decide) (fun c89 => False.elim (by revert c89; decide)) (fun _ => ?_)
                refine lv_aload_n hx hb dX10_add_108 rfl (lv_at hl 1 rfl) ?_
                refine lv_iload_n hx hb dX10_add_109 rfl (lv_at hl 2 rfl) ?_
                refine lv_aload hx hb dX10_add_110 (lv_at hl 0 rfl) ?_
                obtain ⟨x90, rn92, fn93, qn94, hd95⟩ := ex4 (D_X10_changed r f (va_up q 3 t73) y (r (2 * y.toNatClampNeg)) (r (2 * y.toNatClampNeg + 1)) (ar (r (2 * y.toNatClampNeg + 1)) ((z).toNatClampNeg) ((u).toNatClampNeg) ((v).toInt64) F80))
                replace hR := bnd4_use hd95 hR
                refine call_V (n := 2) (k0 := 2) (As := [.int y, .ref q78]) (rest := []) hX hB (k_X10_changed κ l w a r f (va_up q 3 t73) y q78 q79 (r (2 * y.toNatClampNeg)) (r (2 * y.toNatClampNeg + 1)) (ar (r (2 * y.toNatClampNeg + 1)) ((z).toNatClampNeg) ((u).toNatClampNeg) ((v).toInt64) F80) hm ⟨by omega, by omega, by omega, by omega⟩ (by assumption) (by assumption) (by omega) (hf87 rfl) x90 rn92 fn93 qn94 hd95) ⟨rfl, by decide, by decide, by decide +kernel⟩ wm_6_55 wm_6_57 wp_35 wm_1_6 wm_6_58 ⟨Nat.le_of_ble_eq_true rfl, Nat.le_of_ble_eq_true rfl⟩ ⟨Nat.le_of_ble_eq_true rfl, Nat.le_of_ble_eq_true rfl⟩ (mw0x (a := a) (r := r) (f := f) (q := (va_up q 3 t73)) (T := tb a) (w := w) rfl) rfl rfl rfl hl.1 rfl (Nat.le_of_ble_eq_true rfl) dX10_add_112 (fun o w' H locs hp hB => ?_)
                obtain ⟨an91, rfl, hf96, hf97, hf98, hw9⟩ := hp
                replace hB : Bd κ A s (mw κ an91 rn92 fn93 qn94 (tb an91) w) H locs := by rw [hw9] at hB; exact hB
                refine W.eq (g2 := F0 m 115 ls [.int x90]) rfl ?_
                refine lv_goto (tgt := 122) hx hb dX10_add_115 (by decide) ?_
                rw [← hQ]
                exact end_i hX hB hA3 rfl rfl (by obtain ⟨rfl, rfl, rfl, rfl⟩ := pr4 hR; exact ⟨an91, rfl, (hf96.trans rfl), hf97, (hf98.trans rfl), rfl⟩) (Nat.le_of_ble_eq_true rfl) (Nat.le_of_ble_eq_true rfl) dX10_add_122
            · replace hR := ifn c83 hR
              have hz4l := hz4e c83
              have hz33l := hz33e c83
              refine lv_aload hx hb dX10_add_75 (lv_at hl 0 rfl) ?_
              refine lv_iload_n hx hb dX10_add_77 rfl (lv_at hl 4 rfl) ?_
              refine lv_iload hx hb dX10_add_78 (lv_at hl 5 rfl) ?_
              refine lv_iload hx hb dX10_add_80 (lv_at hl 6 rfl) ?_
              refine lv_i2l hx hb dX10_add_82 rfl ?_
              refine call_V (n := 3) (k0 := 1) (As := [.int z, .int u, .long ((v).toInt64)]) (rest := []) hX hB (k_X7_addColumn κ l (lA κ q79 ((r (2 * y.toNatClampNeg)) * 5) F80 :: gO q78 (r (2 * y.toNatClampNeg)) (r (2 * y.toNatClampNeg + 1)) q79 :: mw κ a r f (va_up q 3 t73) (tb a) w) 1 0 q78 q79 (r (2 * y.toNatClampNeg)) (r (2 * y.toNatClampNeg + 1)) F80 z ((z).toNatClampNeg) u ((u).toNatClampNeg) ((v).toInt64) rfl rfl ⟨by omega, by omega, by omega, by omega⟩ (nI_rep (by assumption)) (nI_rep (by assumption)) (by omega) (by omega) (ne_nat (by assumption) (by assumption) (by assumption))) ⟨rfl, by decide, by decide, by decide +kernel⟩ wm_6_75 wm_6_76 wm_6_77 wm_1_7 wm_6_78 ⟨Nat.le_of_ble_eq_true rfl, Nat.le_of_ble_eq_true rfl⟩ ⟨Nat.le_of_ble_eq_true rfl, Nat.le_of_ble_eq_true rfl⟩ rfl rfl rfl rfl hl.1 rfl (Nat.le_of_ble_eq_true rfl) dX10_add_83 (fun o w' H locs hp hB => ?_)
              obtain ⟨rfl, hw9⟩ := hp
              replace hB : Bd κ A s (lA κ q79 ((r (2 * y.toNatClampNeg)) * 5) (ac (r (2 * y.toNatClampNeg)) ((z).toNatClampNeg) ((u).toNatClampNeg) ((v).toInt64) F80) :: gO q78 (r (2 * y.toNatClampNeg)) (r (2 * y.toNatClampNeg + 1)) q79 :: mw κ a r f (va_up q 3 t73) (tb a) w) H locs := by rw [hw9] at hB; exact hB
              refine W.eq (g2 := F0 m 86 ls []) rfl ?_
              refine lv_goto (tgt := 100) hx hb dX10_add_86 (by decide) ?_
              refine lv_aload hx hb dX10_add_100 (lv_at hl 0 rfl) ?_
              obtain ⟨x99, hd100⟩ := ex1 (D_X7_isLet (r (2 * y.toNatClampNeg)) (r (2 * y.toNatClampNeg + 1)) (ac (r (2 * y.toNatClampNeg)) ((z).toNatClampNeg) ((u).toNatClampNeg) ((v).toInt64) F80))
              replace hR := bnd1_use hd100 hR
              refine call_V (n := 0) (k0 := 1) (As := []) (rest := []) hX hB (k_X7_isLet κ l (lA κ q79 ((r (2 * y.toNatClampNeg)) * 5) (ac (r (2 * y.toNatClampNeg)) ((z).toNatClampNeg) ((u).toNatClampNeg) ((v).toInt64) F80) :: gO q78 (r (2 * y.toNatClampNeg)) (r (2 * y.toNatClampNeg + 1)) q79 :: mw κ a r f (va_up q 3 t73) (tb a) w) 1 0 q78 q79 (r (2 * y.toNatClampNeg)) (r (2 * y.toNatClampNeg + 1)) (ac (r (2 * y.toNatClampNeg)) ((z).toNatClampNeg) ((u).toNatClampNeg) ((v).toInt64) F80) rfl rfl ⟨by omega, by omega, by omega, by omega⟩ x99 hd100) ⟨rfl, by decide, by decide, by decide +kernel⟩ wm_6_83 wm_6_84 wm_6_85 wm_1_7 wm_6_86 ⟨Nat.le_of_ble_eq_true rfl, Nat.le_of_ble_eq_true rfl⟩ ⟨Nat.le_of_ble_eq_true rfl, Nat.le_of_ble_eq_true rfl⟩ rfl rfl rfl rfl hl.1 rfl (Nat.le_of_ble_eq_true rfl) dX10_add_102 (fun o w' H locs hp hB => ?_)
              obtain ⟨rfl, hf101, hf102, hw9⟩ := hp
              replace hB : Bd κ A s (lA κ q79 ((r (2 * y.toNatClampNeg)) * 5) (ac (r (2 * y.toNatClampNeg)) ((z).toNatClampNeg) ((u).toNatClampNeg) ((v).toInt64) F80) :: gO q78 (r (2 * y.toNatClampNeg)) (r (2 * y.toNatClampNeg + 1)) q79 :: mw κ a r f (va_up q 3 t73) (tb a) w) H locs := by rw [hw9] at hB; exact hB
              rcases hf101 with rfl | rfl
              · replace hR := ifp rfl hR
                refine W.eq (g2 := F0 m 105 ls [.int 0]) rfl ?_
                refine lv_if_eq (tgt := 118) hx hb dX10_add_105 (by decide) (fun _ => ?_) (fun c103 => False.elim (by revert c103; decide))
                refine lv_aload_n hx hb dX10_add_118 rfl (lv_at hl 1 rfl) ?_
                refine call_V (n := 0) (k0 := 2) (As := []) (rest := []) hX hB (k_X10_no κ l (lA κ q79 ((r (2 * y.toNatClampNeg)) * 5) (ac (r (2 * y.toNatClampNeg)) ((z).toNatClampNeg) ((u).toNatClampNeg) ((v).toInt64) F80) :: gO q78 (r (2 * y.toNatClampNeg)) (r (2 * y.toNatClampNeg + 1)) q79 :: mw κ a r f (va_up q 3 t73) (tb a) w) 2 (a 0) (a 1) ((va_up q 3 t73) 0) ((va_up q 3 t73) 1) ((va_up q 3 t73) 2) ((va_up q 3 t73) 3) (mw0x (a := a) (r := r) (f := f) (q := (va_up q 3 t73)) (T := tb a) (w := w) rfl)) ⟨rfl, by decide, by decide, by decide +kernel⟩ wm_6_89 wm_6_91 wp_36 wm_1_6 wm_6_92 ⟨Nat.le_of_ble_eq_true rfl, Nat.le_of_ble_eq_true rfl⟩ ⟨Nat.le_of_ble_eq_true rfl, Nat.le_of_ble_eq_true rfl⟩ (mw0x (a := a) (r := r) (f := f) (q := (va_up q 3 t73)) (T := tb a) (w := w) rfl) rfl rfl rfl hl.1 rfl (Nat.le_of_ble_eq_true rfl) dX10_add_119 (fun o w' H locs hp hB => ?_)
                obtain ⟨rfl, hw9⟩ := hp
                replace hB : Bd κ A s (lA κ q79 ((r (2 * y.toNatClampNeg)) * 5) (ac (r (2 * y.toNatClampNeg)) ((z).toNatClampNeg) ((u).toNatClampNeg) ((v).toInt64) F80) :: gO q78 (r (2 * y.toNatClampNeg)) (r (2 * y.toNatClampNeg + 1)) q79 :: mw κ a r f (va_up (va_up q 3 t73) 1 (((va_up q 3 t73) 1) + 1)) (tb a) w) H locs := by exact Bd_eq (congrArg (List.cons _) (congrArg (List.cons _) (mwQ1x rfl _))) (by rw [hw9] at hB; exact hB)
                refine W.eq (g2 := F0 m 122 ls [.int (-9)]) rfl ?_
                replace hB : Bd κ A s (lA κ q79 ((r (2 * y.toNatClampNeg)) * 5) (ac (r (2 * y.toNatClampNeg)) ((z).toNatClampNeg) ((u).toNatClampNeg) ((v).toInt64) F80) :: mw κ a r f (va_up (va_up q 3 t73) 1 (((va_up q 3 t73) 1) + 1)) (tb a) w) H locs := Bd_del 1 hB
                replace hB : Bd κ A s (mw κ a r f (va_up (va_up q 3 t73) 1 (((va_up q 3 t73) 1) + 1)) (tb a) w) H locs := Bd_del 0 hB
                rw [← hQ]
                exact end_i hX hB hA3 rfl rfl (by obtain ⟨rfl, rfl, rfl, rfl⟩ := pr4 hR; exact ⟨a, rfl, rfl, hm, rfl, rfl⟩) (Nat.le_of_ble_eq_true rfl) (Nat.le_of_ble_eq_true rfl) dX10_add_122
              · replace hR := ifn (by decide) hR
                refine W.eq (g2 := F0 m 105 ls [.int 1]) rfl ?_
                refine lv_if_eq (tgt := 118) hx hb dX10_add_105 (by decide) (fun c104 => False.elim (by revert c104; decide)) (fun _ => ?_)
                refine lv_aload_n hx hb dX10_add_108 rfl (lv_at hl 1 rfl) ?_
                refine lv_iload_n hx hb dX10_add_109 rfl (lv_at hl 2 rfl) ?_
                refine lv_aload hx hb dX10_add_110 (lv_at hl 0 rfl) ?_
                obtain ⟨x105, rn107, fn108, qn109, hd110⟩ := ex4 (D_X10_changed r f (va_up q 3 t73) y (r (2 * y.toNatClampNeg)) (r (2 * y.toNatClampNeg + 1)) (ac (r (2 * y.toNatClampNeg)) ((z).toNatClampNeg) ((u).toNatClampNeg) ((v).toInt64) F80))
                replace hR := bnd4_use hd110 hR
                refine call_V (n := 2) (k0 := 2) (As := [.int y, .ref q78]) (rest := []) hX hB (k_X10_changed κ l w a r f (va_up q 3 t73) y q78 q79 (r (2 * y.toNatClampNeg)) (r (2 * y.toNatClampNeg + 1)) (ac (r (2 * y.toNatClampNeg)) ((z).toNatClampNeg) ((u).toNatClampNeg) ((v).toInt64) F80) hm ⟨by omega, by omega, by omega, by omega⟩ (by assumption) (by assumption) (by omega) (hf102 rfl) x105 rn107 fn108 qn109 hd110) ⟨rfl, by decide, by decide, by decide +kernel⟩ wm_6_55 wm_6_57 wp_35 wm_1_6 wm_6_58 ⟨Nat.le_of_ble_eq_true rfl, Nat.le_of_ble_eq_true rfl⟩ ⟨Nat.le_of_ble_eq_true rfl, Nat.le_of_ble_eq_true rfl⟩ (mw0x (a := a) (r := r) (f := f) (q := (va_up q 3 t73)) (T := tb a) (w := w) rfl) rfl rfl rfl hl.1 rfl (Nat.le_of_ble_eq_true rfl) dX10_add_112 (fun o w' H locs hp hB => ?_)
                obtain ⟨an106, rfl, hf111, hf112, hf113, hw9⟩ := hp
                replace hB : Bd κ A s (mw κ an106 rn107 fn108 qn109 (tb an106) w) H locs := by rw [hw9] at hB; exact hB
                refine W.eq (g2 := F0 m 115 ls [.int x105]) rfl ?_
                refine lv_goto (tgt := 122) hx hb dX10_add_115 (by decide) ?_
                rw [← hQ]
                exact end_i hX hB hA3 rfl rfl (by obtain ⟨rfl, rfl, rfl, rfl⟩ := pr4 hR; exact ⟨an106, rfl, (hf111.trans rfl), hf112, (hf113.trans rfl), rfl⟩) (Nat.le_of_ble_eq_true rfl) (Nat.le_of_ble_eq_true rfl) dX10_add_122
          · replace hR := ifn c71 hR
            refine lv_iconst (v := 1) hx hb dX10_add_47 (by decide) ?_
            refine lv_goto (tgt := 52) hx hb dX10_add_48 (by decide) ?_
            obtain ⟨x114, t115, hd116⟩ := ex2 (D_X10_isThrown_ (q 0) (q 1) (q 2) (q 3) 0 1)
            replace hR := bnd2_use hd116 hR
            refine call_V (n := 2) (k0 := 0) (As := [.int 0, .int 1]) (rest := []) hX hB (k_X10_isThrown_ κ l (mw κ a r f q (tb a) w) 0 (a 0) (a 1) (q 0) (q 1) (q 2) (q 3) 0 1 (mw0x (a := a) (r := r) (f := f) (q := q) (T := tb a) (w := w) rfl) x114 t115 hd116) ⟨rfl, by decide, by decide, by decide +kernel⟩ wm_5_192 wm_5_194 wp_27 wm_1_6 wm_5_195 ⟨Nat.le_of_ble_eq_true rfl, Nat.le_of_ble_eq_true rfl⟩ ⟨Nat.le_of_ble_eq_true rfl, Nat.le_of_ble_eq_true rfl⟩ (mw0x (a := a) (r := r) (f := f) (q := q) (T := tb a) (w := w) rfl) rfl rfl rfl hl.1 rfl (Nat.le_of_ble_eq_true rfl) dX10_add_52 (fun o w' H locs hp hB => ?_)
            obtain ⟨rfl, hf117, hw9⟩ := hp
            replace hB : Bd κ A s (mw κ a r f (va_up q 3 t115) (tb a) w) H locs := by exact Bd_eq (mwQ3x rfl _) (by rw [hw9] at hB; exact hB)
            obtain rfl : x114 = 1 := hf117.trans (by decide)
            refine W.eq (g2 := F0 m 55 ls [.int 1]) rfl ?_
            refine lv_if_eq (tgt := 60) hx hb dX10_add_55 (by decide) (fun c118 => False.elim (by revert c118; decide)) (fun _ => ?_)
            refine lv_iconst (v := 0) hx hb dX10_add_58 (by decide) ?_
            rw [← hQ]
            exact end_i hX hB hA3 rfl rfl (by obtain ⟨rfl, rfl, rfl, rfl⟩ := pr4 hR; exact ⟨a, rfl, rfl, hm, rfl, rfl⟩) (Nat.le_of_ble_eq_true rfl) (Nat.le_of_ble_eq_true rfl) dX10_add_59
noncomputable def D_X10_widen (r : Nat → Nat) (f : Nat → Nat → Int64) (q : Nat → Int32) (y : Int32) (c0 : Int32) : Int32 × (Nat → Nat) × (Nat → Nat → Int64) × (Nat → Int32) := bnd1 (D_X10_isTable y) (fun (z1 : Int32) => (if z1 = 0 then bnd2 (D_X10_isThrown__ (q 0) (q 1) (q 2) (q 3) 1) (fun (x6 : Int32) (t7 : Int32) => (0, r, f, va_up q 3 t7)) else bnd2 (D_X10_isThrown__ (q 0) (q 1) (q 2) (q 3) 0) (fun (x12 : Int32) (t13 : Int32) => (if c0 = 0 then (if ((r (2 * y.toNatClampNeg)) + 1) ≤ 4 then bnd1 (D_X10_shaped (r (2 * y.toNatClampNeg)) (r (2 * y.toNatClampNeg + 1)) (f y.toNatClampNeg) ((r (2 * y.toNatClampNeg)) + 1) (r (2 * y.toNatClampNeg + 1)) 9 9) (fun (F24 : Nat → Int64) => (nI ((r (2 * y.toNatClampNeg)) + 1), va_up (va_up r (2 * y.toNatClampNeg) ((r (2 * y.toNatClampNeg)) + 1)) (2 * y.toNatClampNeg + 1) (r (2 * y.toNatClampNeg + 1)), va_up f y.toNatClampNeg F24, va_up (va_up q 3 t13) 0 (((va_up q 3 t13) 0) + 1))) else (-9, r, f, va_up (va_up q 3 t13) 1 (((va_up q 3 t13) 1) + 1))) else (if ((r (2 * y.toNatClampNeg + 1)) + 1) ≤ 4 then bnd1 (D_X10_shaped (r (2 * y.toNatClampNeg)) (r (2 * y.toNatClampNeg + 1)) (f y.toNatClampNeg) (r (2 * y.toNatClampNeg)) ((r (2 * y.toNatClampNeg + 1)) + 1) 9 9) (fun (F35 : Nat → Int64) => (nI ((r (2 * y.toNatClampNeg + 1)) + 1), va_up (va_up r (2 * y.toNatClampNeg) (r (2 * y.toNatClampNeg))) (2 * y.toNatClampNeg + 1) ((r (2 * y.toNatClampNeg + 1)) + 1), va_up f y.toNatClampNeg F35, va_up (va_up q 3 t13) 0 (((va_up q 3 t13) 0) + 1))) else (-9, r, f, va_up (va_up q 3 t13) 1 (((va_up q 3 t13) 1) + 1)))))))
theorem D_X10_widen_s {r : Nat → Nat} {f : Nat → Nat → Int64} {q : Nat → Int32} {y : Int32} {c0 : Int32} : D_X10_widen r f q y c0 = bnd1 (D_X10_isTable y) (fun (z1 : Int32) => (if z1 = 0 then bnd2 (D_X10_isThrown__ (q 0) (q 1) (q 2) (q 3) 1) (fun (x6 : Int32) (t7 : Int32) => (0, r, f, va_up q 3 t7)) else bnd2 (D_X10_isThrown__ (q 0) (q 1) (q 2) (q 3) 0) (fun (x12 : Int32) (t13 : Int32) => (if c0 = 0 then (if ((r (2 * y.toNatClampNeg)) + 1) ≤ 4 then bnd1 (D_X10_shaped (r (2 * y.toNatClampNeg)) (r (2 * y.toNatClampNeg + 1)) (f y.toNatClampNeg) ((r (2 * y.toNatClampNeg)) + 1) (r (2 * y.toNatClampNeg + 1)) 9 9) (fun (F24 : Nat → Int64) => (nI ((r (2 * y.toNatClampNeg)) + 1), va_up (va_up r (2 * y.toNatClampNeg) ((r (2 * y.toNatClampNeg)) + 1)) (2 * y.toNatClampNeg + 1) (r (2 * y.toNatClampNeg + 1)), va_up f y.toNatClampNeg F24, va_up (va_up q 3 t13) 0 (((va_up q 3 t13) 0) + 1))) else (-9, r, f, va_up (va_up q 3 t13) 1 (((va_up q 3 t13) 1) + 1))) else (if ((r (2 * y.toNatClampNeg + 1)) + 1) ≤ 4 then bnd1 (D_X10_shaped (r (2 * y.toNatClampNeg)) (r (2 * y.toNatClampNeg + 1)) (f y.toNatClampNeg) (r (2 * y.toNatClampNeg)) ((r (2 * y.toNatClampNeg + 1)) + 1) 9 9) (fun (F35 : Nat → Int64) => (nI ((r (2 * y.toNatClampNeg + 1)) + 1), va_up (va_up r (2 * y.toNatClampNeg) (r (2 * y.toNatClampNeg))) (2 * y.toNatClampNeg + 1) ((r (2 * y.toNatClampNeg + 1)) + 1), va_up f y.toNatClampNeg F35, va_up (va_up q 3 t13) 0 (((va_up q 3 t13) 0) + 1))) else (-9, r, f, va_up (va_up q 3 t13) 1 (((va_up q 3 t13) 1) + 1))))))) := rfl
set_option maxHeartbeats 4000000 in
set_option maxRecDepth 100000 in
theorem k_X10_widen (κ : Kt) (l : Launch) (w : va_W) (a r : Nat → Nat) (f : Nat → Nat → Int64) (q : Nat → Int32) (y : Int32) (c0 : Int32) (hm : mok r f) (o_x : Int32) (o_r' : Nat → Nat) (o_f' : Nat → Nat → Int64) (o_q' : Nat → Int32) (hR : D_X10_widen r f q y c0 = (o_x, o_r', o_f', o_q')) : CM κ l yX10_widen cX10_widen 5 (some .int) 3 71 2 23 [.ref (a 0), .int y, .int c0] (mw κ a r f q (tb a) w) (fun o w' => ∃ (a' : Nat → Nat), o = some (.int o_x) ∧ (a' 0 = a 0) ∧ (mok o_r' o_f') ∧ (o_q' 2 = q 2) ∧ w' = mw κ a' o_r' o_f' o_q' (tb a') w) := by
  refine CM_begin (plainFor_of_name (by decide)) (Nat.le_of_ble_eq_true rfl) ?_
  intro p e s m args below meth c A Q hX hnm hA3 hQ hB ls hl
  have hx := hX.1.1
  have hb := hX.1.2.1
  have hl : lv_has ls 5 [(0, .ref (a 0)), (1, .int y), (2, .int c0)] := hl
  replace hR := (D_X10_widen_s).symm.trans hR
  refine lv_aload_n hx hb dX10_widen_0 rfl (lv_at hl 0 rfl) ?_
  refine lv_iload_n hx hb dX10_widen_1 rfl (lv_at hl 1 rfl) ?_
  obtain ⟨z1, hd2⟩ := ex1 (D_X10_isTable y)
  replace hR := bnd1_use hd2 hR
  refine call_S (n := 1) (As := [.int y]) (rest := [.ref (a 0)]) hX hB (k_X10_isTable κ l (mw κ a r f q (tb a) w) y z1 hd2) ⟨by decide, by decide, by decide +kernel⟩ wm_5_186 wm_5_187 wm_1_6 wm_5_188 ⟨Nat.le_of_ble_eq_true rfl, Nat.le_of_ble_eq_true rfl⟩ ⟨Nat.le_of_ble_eq_true rfl, Nat.le_of_ble_eq_true rfl⟩ rfl hl.1 rfl (Nat.le_of_ble_eq_true rfl) dX10_widen_2 (fun o w' H locs hp hB => ?_)
  obtain ⟨rfl, hf3, hw9⟩ := hp
  replace hB : Bd κ A s (mw κ a r f q (tb a) w) H locs := by rw [hw9] at hB; exact hB
  rcases hf3 with rfl | ⟨rfl, hz4a, hz4b⟩
  · replace hR := ifp rfl hR
    refine W.eq (g2 := F0 m 5 ls [.int 0, .ref (a 0)]) rfl ?_
    refine lv_if_ne (tgt := 12) hx hb dX10_widen_5 (by decide) (fun c5 => False.elim (by revert c5; decide)) (fun _ => ?_)
    refine lv_iconst (v := 1) hx hb dX10_widen_8 (by decide) ?_
    refine lv_goto (tgt := 13) hx hb dX10_widen_9 (by decide) ?_
    obtain ⟨x6, t7, hd8⟩ := ex2 (D_X10_isThrown__ (q 0) (q 1) (q 2) (q 3) 1)
    replace hR := bnd2_use hd8 hR
    refine call_V (n := 1) (k0 := 0) (As := [.int 1]) (rest := []) hX hB (k_X10_isThrown__ κ l (mw κ a r f q (tb a) w) 0 (a 0) (a 1) (q 0) (q 1) (q 2) (q 3) 1 (mw0x (a := a) (r := r) (f := f) (q := q) (T := tb a) (w := w) rfl) x6 t7 hd8) ⟨rfl, by decide, by decide, by decide +kernel⟩ wm_6_15 wm_6_17 wp_33 wm_1_6 wm_6_18 ⟨Nat.le_of_ble_eq_true rfl, Nat.le_of_ble_eq_true rfl⟩ ⟨Nat.le_of_ble_eq_true rfl, Nat.le_of_ble_eq_true rfl⟩ (mw0x (a := a) (r := r) (f := f) (q := q) (T := tb a) (w := w) rfl) rfl rfl rfl hl.1 rfl (Nat.le_of_ble_eq_true rfl) dX10_widen_13 (fun o w' H locs hp hB => ?_)
    obtain ⟨rfl, hf9, hw9⟩ := hp
    replace hB : Bd κ A s (mw κ a r f (va_up q 3 t7) (tb a) w) H locs := by exact Bd_eq (mwQ3x rfl _) (by rw [hw9] at hB; exact hB)
    obtain rfl : x6 = 1 := hf9.trans (by decide)
    refine W.eq (g2 := F0 m 16 ls [.int 1]) rfl ?_
    refine lv_if_eq (tgt := 21) hx hb dX10_widen_16 (by decide) (fun c10 => False.elim (by revert c10; decide)) (fun _ => ?_)
    refine lv_iconst (v := 0) hx hb dX10_widen_19 (by decide) ?_
    rw [← hQ]
    exact end_i hX hB hA3 rfl rfl (by obtain ⟨rfl, rfl, rfl, rfl⟩ := pr4 hR; exact ⟨a, rfl, rfl, hm, rfl, rfl⟩) (Nat.le_of_ble_eq_true rfl) (Nat.le_of_ble_eq_true rfl) dX10_widen_20
  · replace hR := ifn (by decide) hR
    refine W.eq (g2 := F0 m 5 ls [.int 1, .ref (a 0)]) rfl ?_
    refine lv_if_ne (tgt := 12) hx hb dX10_widen_5 (by decide) (fun _ => ?_) (fun c11 => False.elim (by revert c11; decide))
    refine lv_iconst (v := 0) hx hb dX10_widen_12 (by decide) ?_
    obtain ⟨x12, t13, hd14⟩ := ex2 (D_X10_isThrown__ (q 0) (q 1) (q 2) (q 3) 0)
    replace hR := bnd2_use hd14 hR
    refine call_V (n := 1) (k0 := 0) (As := [.int 0]) (rest := []) hX hB (k_X10_isThrown__ κ l (mw κ a r f q (tb a) w) 0 (a 0) (a 1) (q 0) (q 1) (q 2) (q 3) 0 (mw0x (a := a) (r := r) (f := f) (q := q) (T := tb a) (w := w) rfl) x12 t13 hd14) ⟨rfl, by decide, by decide, by decide +kernel⟩ wm_6_15 wm_6_17 wp_33 wm_1_6 wm_6_18 ⟨Nat.le_of_ble_eq_true rfl, Nat.le_of_ble_eq_true rfl⟩ ⟨Nat.le_of_ble_eq_true rfl, Nat.le_of_ble_eq_true rfl⟩ (mw0x (a := a) (r := r) (f := f) (q := q) (T := tb a) (w := w) rfl) rfl rfl rfl hl.1 rfl (Nat.le_of_ble_eq_true rfl) dX10_widen_13 (fun o w' H locs hp hB => ?_)
    obtain ⟨rfl, hf15, hw9⟩ := hp
    replace hB : Bd κ A s (mw κ a r f (va_up q 3 t13) (tb a) w) H locs := by exact Bd_eq (mwQ3x rfl _) (by rw [hw9] at hB; exact hB)
    obtain rfl : x12 = 0 := hf15.trans (by decide)
    refine W.eq (g2 := F0 m 16 ls [.int 0]) rfl ?_
    refine lv_if_eq (tgt := 21) hx hb dX10_widen_16 (by decide) (fun _ => ?_) (fun c16 => False.elim (by revert c16; decide))
    refine lv_aload_n hx hb dX10_widen_21 rfl (lv_at hl 0 rfl) ?_
    refine gf (k0 := 0) hX hB (mw0x (a := a) (r := r) (f := f) (q := (va_up q 3 t13)) (T := tb a) (w := w) rfl) rfl in10 0 (by decide) wm_5_162 rfl rfl dX10_widen_22 ?_
    refine lv_iload_n hx hb dX10_widen_25 rfl (lv_at hl 1 rfl) ?_
    refine aaldM (k0 := 1) hX hB (mw1 (a := a) (r := r) (f := f) (q := (va_up q 3 t13)) (T := tb a) (w := w)) (vp_in_mk (by assumption) (by assumption)) rfl dX10_widen_26 ?_
    have hb17 := mok_r hm y.toNatClampNeg (by omega)
    refine lv_astore_n (lv' := [(3, .ref (a (2 + 2 * y.toNatClampNeg))), (0, .ref (a 0)), (1, .int y), (2, .int c0)]) hx hb dX10_widen_27 rfl hl (by decide) rfl (fun ls hl => ?_)
    refine lv_iload_n hx hb dX10_widen_28 rfl (lv_at hl 3 rfl) ?_
    refine lv_if_eq (tgt := 39) hx hb dX10_widen_29 (by decide) (fun c18 => ?_) (fun c18 => ?_)
    · replace hR := ifp c18 hR
      refine lv_aload_n hx hb dX10_widen_39 rfl (lv_at hl 0 rfl) ?_
      refine gf (k0 := 2 + 2 * y.toNatClampNeg) hX hB (mwG (i := y.toNatClampNeg) (a := a) (r := r) (f := f) (q := (va_up q 3 t13)) (T := tb a) (w := w) (by omega)) rfl in7 0 (by decide) wm_5_148 rfl rfl dX10_widen_40 ?_
      refine lv_iconst (v := 1) hx hb dX10_widen_43 (by decide) ?_
      refine lv_iadd hx hb dX10_widen_44 ?_
      refine eqi (y := nI ((r (2 * y.toNatClampNeg)) + 1)) (nI_add (r (2 * y.toNatClampNeg)) 1) ?_
      refine lv_istore (lv' := [(4, .int (nI ((r (2 * y.toNatClampNeg)) + 1))), (3, .ref (a (2 + 2 * y.toNatClampNeg))), (0, .ref (a 0)), (1, .int y), (2, .int c0)]) hx hb dX10_widen_45 hl (by decide) rfl (fun ls hl => ?_)
      refine lv_iload hx hb dX10_widen_47 (lv_at hl 0 rfl) ?_
      refine lv_iconst (v := 4) hx hb dX10_widen_49 (by decide) ?_
      refine lv_icmp_le (tgt := 58) hx hb dX10_widen_50 (by decide) (fun c19 => ?_) (fun c19 => ?_)
      · replace c19 : nI ((r (2 * y.toNatClampNeg)) + 1) ≤ nI 4 := c19
        rw [nleP (by omega) (by omega)] at c19
        replace hR := ifp c19 hR
        refine lv_aload_n hx hb dX10_widen_58 rfl (lv_at hl 2 rfl) ?_
        refine gf (k0 := 0) hX hB (mw0x (a := a) (r := r) (f := f) (q := (va_up q 3 t13)) (T := tb a) (w := w) rfl) rfl in10 0 (by decide) wm_5_162 rfl rfl dX10_widen_59 ?_
        refine lv_iload_n hx hb dX10_widen_62 rfl (lv_at hl 3 rfl) ?_
        refine lv_aload_n hx hb dX10_widen_63 rfl (lv_at hl 1 rfl) ?_
        refine lv_iload_n hx hb dX10_widen_64 rfl (lv_at hl 4 rfl) ?_
        refine lv_if_eq (tgt := 75) hx hb dX10_widen_65 (by decide) (fun _ => ?_) (fun c20 => False.elim (c20 c18))
        refine lv_iload hx hb dX10_widen_75 (lv_at hl 0 rfl) ?_
        refine lv_iload_n hx hb dX10_widen_77 rfl (lv_at hl 4 rfl) ?_
        refine lv_if_eq (tgt := 86) hx hb dX10_widen_78 (by decide) (fun _ => ?_) (fun c21 => False.elim (c21 c18))
        refine lv_aload_n hx hb dX10_widen_86 rfl (lv_at hl 1 rfl) ?_
        refine gf (k0 := 2 + 2 * y.toNatClampNeg) hX hB (mwG (i := y.toNatClampNeg) (a := a) (r := r) (f := f) (q := (va_up q 3 t13)) (T := tb a) (w := w) (by omega)) rfl in7 1 (by decide) wm_5_152 rfl rfl dX10_widen_87 ?_
        refine lv_bipush (v := 9) hx hb dX10_widen_90 (by decide) ?_
        refine lv_bipush (v := 9) hx hb dX10_widen_92 (by decide) ?_
        obtain ⟨F24, hd25⟩ := ex1 (D_X10_shaped (r (2 * y.toNatClampNeg)) (r (2 * y.toNatClampNeg + 1)) (f y.toNatClampNeg) ((r (2 * y.toNatClampNeg)) + 1) (r (2 * y.toNatClampNeg + 1)) 9 9)
        replace hR := bnd1_use hd25 hR
        refine call_S (n := 5) (As := [.ref (a (2 + 2 * y.toNatClampNeg)), .int (nI ((r (2 * y.toNatClampNeg)) + 1)), .int (nI (r (2 * y.toNatClampNeg + 1))), .int 9, .int 9]) (rest := [.int y, .ref (a 1)]) hX hB (k_X10_shaped κ l (mw κ a r f (va_up q 3 t13) (tb a) w) (2 + 2 * y.toNatClampNeg) (3 + 2 * y.toNatClampNeg) (a (2 + 2 * y.toNatClampNeg)) (a (3 + 2 * y.toNatClampNeg)) (r (2 * y.toNatClampNeg)) (r (2 * y.toNatClampNeg + 1)) (f y.toNatClampNeg) (nI ((r (2 * y.toNatClampNeg)) + 1)) ((r (2 * y.toNatClampNeg)) + 1) (nI (r (2 * y.toNatClampNeg + 1))) (r (2 * y.toNatClampNeg + 1)) 9 9 (mwG (i := y.toNatClampNeg) (a := a) (r := r) (f := f) (q := (va_up q 3 t13)) (T := tb a) (w := w) (by omega)) (mwA (i := y.toNatClampNeg) (a := a) (r := r) (f := f) (q := (va_up q 3 t13)) (T := tb a) (w := w) (by omega)) (mok_shp (i := y.toNatClampNeg) hm (by omega)) rfl rfl (by omega) ((hm _ (by omega)).2) F24 hd25) ⟨by decide, by decide, by decide +kernel⟩ wm_6_97 wm_6_98 wm_1_6 wm_6_99 ⟨Nat.le_of_ble_eq_true rfl, Nat.le_of_ble_eq_true rfl⟩ ⟨Nat.le_of_ble_eq_true rfl, Nat.le_of_ble_eq_true rfl⟩ rfl hl.1 rfl (Nat.le_of_ble_eq_true rfl) dX10_widen_94 (fun o w' H locs hp hB => ?_)
        obtain ⟨q22, q23, rfl, hf26, hw9⟩ := hp
        replace hB : Bd κ A s (lA κ q23 (((r (2 * y.toNatClampNeg)) + 1) * 5) F24 :: gO q22 ((r (2 * y.toNatClampNeg)) + 1) (r (2 * y.toNatClampNeg + 1)) q23 :: mw κ a r f (va_up q 3 t13) (tb a) w) H locs := by rw [hw9] at hB; exact hB
        refine W.eq (g2 := F0 m 97 ls [.ref q22, .int y, .ref (a 1)]) rfl ?_
        refine astM (f := tb a) (k0 := 3) (k1 := 1) hX hB (mw1 (a := a) (r := r) (f := f) (q := (va_up q 3 t13)) (T := tb a) (w := w)) rfl (vp_in_mk (by assumption) (by assumption)) (w1 := lA κ q23 (((r (2 * y.toNatClampNeg)) + 1) * 5) F24 :: gO q22 ((r (2 * y.toNatClampNeg)) + 1) (r (2 * y.toNatClampNeg + 1)) q23 :: mw κ a r f (va_up q 3 t13) (va_up (tb a) y.toNatClampNeg (some q22)) w) (congrArg (List.cons _) (congrArg (List.cons _) (mwST _))) dX10_widen_97 (fun H locs hB => ?_)
        obtain ⟨a27, ha28, hg29, hB⟩ := Bd_repl2 (t := y.toNatClampNeg) (by omega) hB
        have hba27 := mok_r hm y.toNatClampNeg (by omega)
        refine lv_aload_n hx hb dX10_widen_98 rfl (lv_at hl 2 rfl) ?_
        refine lv_iload hx hb dX10_widen_99 (lv_at hl 0 rfl) ?_
        refine call_V (n := 1) (k0 := 0) (As := [.int (nI ((r (2 * y.toNatClampNeg)) + 1))]) (rest := []) hX hB (k_X10_told κ l (mw κ a27 (va_up (va_up r (2 * y.toNatClampNeg) ((r (2 * y.toNatClampNeg)) + 1)) (2 * y.toNatClampNeg + 1) (r (2 * y.toNatClampNeg + 1))) (va_up f y.toNatClampNeg F24) (va_up q 3 t13) (tb a27) w) 0 (a 0) (a27 1) ((va_up q 3 t13) 0) ((va_up q 3 t13) 1) ((va_up q 3 t13) 2) ((va_up q 3 t13) 3) (nI ((r (2 * y.toNatClampNeg)) + 1)) (mw0x (a := a27) (r := (va_up (va_up r (2 * y.toNatClampNeg) ((r (2 * y.toNatClampNeg)) + 1)) (2 * y.toNatClampNeg + 1) (r (2 * y.toNatClampNeg + 1)))) (f := (va_up f y.toNatClampNeg F24)) (q := (va_up q 3 t13)) (T := tb a27) (w := w) (ha28.trans rfl))) ⟨rfl, by decide, by decide, by decide +kernel⟩ wm_5_208 wm_5_210 wp_30 wm_1_6 wm_5_211 ⟨Nat.le_of_ble_eq_true rfl, Nat.le_of_ble_eq_true rfl⟩ ⟨Nat.le_of_ble_eq_true rfl, Nat.le_of_ble_eq_true rfl⟩ (mw0x (a := a27) (r := (va_up (va_up r (2 * y.toNatClampNeg) ((r (2 * y.toNatClampNeg)) + 1)) (2 * y.toNatClampNeg + 1) (r (2 * y.toNatClampNeg + 1)))) (f := (va_up f y.toNatClampNeg F24)) (q := (va_up q 3 t13)) (T := tb a27) (w := w) (ha28.trans rfl)) rfl rfl rfl hl.1 rfl (Nat.le_of_ble_eq_true rfl) dX10_widen_101 (fun o w' H locs hp hB => ?_)
        obtain ⟨rfl, hw9⟩ := hp
        replace hB : Bd κ A s (mw κ a27 (va_up (va_up r (2 * y.toNatClampNeg) ((r (2 * y.toNatClampNeg)) + 1)) (2 * y.toNatClampNeg + 1) (r (2 * y.toNatClampNeg + 1))) (va_up f y.toNatClampNeg F24) (va_up (va_up q 3 t13) 0 (((va_up q 3 t13) 0) + 1)) (tb a27) w) H locs := by exact Bd_eq (mwQ0x (ha28.trans rfl) _) (by rw [hw9] at hB; exact hB)
        refine W.eq (g2 := F0 m 104 ls [.int (nI ((r (2 * y.toNatClampNeg)) + 1))]) rfl ?_
        rw [← hQ]
        exact end_i hX hB hA3 rfl rfl (by obtain ⟨rfl, rfl, rfl, rfl⟩ := pr4 hR; exact ⟨a27, rfl, (ha28.trans rfl), (mok_repl (t := y.toNatClampNeg) (R := ((r (2 * y.toNatClampNeg)) + 1)) (C := (r (2 * y.toNatClampNeg + 1))) (F := F24) hm ⟨by omega, by omega, by omega, by omega⟩ hf26), rfl, rfl⟩) (Nat.le_of_ble_eq_true rfl) (Nat.le_of_ble_eq_true rfl) dX10_widen_104
      · replace c19 : ¬ nI ((r (2 * y.toNatClampNeg)) + 1) ≤ nI 4 := c19
        rw [nleP (by omega) (by omega)] at c19
        replace hR := ifn c19 hR
        refine lv_aload_n hx hb dX10_widen_53 rfl (lv_at hl 2 rfl) ?_
        refine call_V (n := 0) (k0 := 0) (As := []) (rest := []) hX hB (k_X10_no κ l (mw κ a r f (va_up q 3 t13) (tb a) w) 0 (a 0) (a 1) ((va_up q 3 t13) 0) ((va_up q 3 t13) 1) ((va_up q 3 t13) 2) ((va_up q 3 t13) 3) (mw0x (a := a) (r := r) (f := f) (q := (va_up q 3 t13)) (T := tb a) (w := w) rfl)) ⟨rfl, by decide, by decide, by decide +kernel⟩ wm_6_89 wm_6_91 wp_36 wm_1_6 wm_6_92 ⟨Nat.le_of_ble_eq_true rfl, Nat.le_of_ble_eq_true rfl⟩ ⟨Nat.le_of_ble_eq_true rfl, Nat.le_of_ble_eq_true rfl⟩ (mw0x (a := a) (r := r) (f := f) (q := (va_up q 3 t13)) (T := tb a) (w := w) rfl) rfl rfl rfl hl.1 rfl (Nat.le_of_ble_eq_true rfl) dX10_widen_54 (fun o w' H locs hp hB => ?_)
        obtain ⟨rfl, hw9⟩ := hp
        replace hB : Bd κ A s (mw κ a r f (va_up (va_up q 3 t13) 1 (((va_up q 3 t13) 1) + 1)) (tb a) w) H locs := by exact Bd_eq (mwQ1x rfl _) (by rw [hw9] at hB; exact hB)
        refine W.eq (g2 := F0 m 57 ls [.int (-9)]) rfl ?_
        rw [← hQ]
        exact end_i hX hB hA3 rfl rfl (by obtain ⟨rfl, rfl, rfl, rfl⟩ := pr4 hR; exact ⟨a, rfl, rfl, hm, rfl, rfl⟩) (Nat.le_of_ble_eq_true rfl) (Nat.le_of_ble_eq_true rfl) dX10_widen_57
    · replace hR := ifn c18 hR
      refine lv_aload_n hx hb dX10_widen_32 rfl (lv_at hl 0 rfl) ?_
      refine gf (k0 := 2 + 2 * y.toNatClampNeg) hX hB (mwG (i := y.toNatClampNeg) (a := a) (r := r) (f := f) (q := (va_up q 3 t13)) (T := tb a) (w := w) (by omega)) rfl in7 1 (by decide) wm_5_152 rfl rfl dX10_widen_33 ?_
      refine lv_goto (tgt := 43) hx hb dX10_widen_36 (by decide) ?_
      refine lv_iconst (v := 1) hx hb dX10_widen_43 (by decide) ?_
      refine lv_iadd hx hb dX10_widen_44 ?_
      refine eqi (y := nI ((r (2 * y.toNatClampNeg + 1)) + 1)) (nI_add (r (2 * y.toNatClampNeg + 1)) 1) ?_
      refine lv_istore (lv' := [(4, .int (nI ((r (2 * y.toNatClampNeg + 1)) + 1))), (3, .ref (a (2 + 2 * y.toNatClampNeg))), (0, .ref (a 0)), (1, .int y), (2, .int c0)]) hx hb dX10_widen_45 hl (by decide) rfl (fun ls hl => ?_)
      refine lv_iload hx hb dX10_widen_47 (lv_at hl 0 rfl) ?_
      refine lv_iconst (v := 4) hx hb dX10_widen_49 (by decide) ?_
      refine lv_icmp_le (tgt := 58) hx hb dX10_widen_50 (by decide) (fun c30 => ?_) (fun c30 => ?_)
      · replace c30 : nI ((r (2 * y.toNatClampNeg + 1)) + 1) ≤ nI 4 := c30
        rw [nleP (by omega) (by omega)] at c30
        replace hR := ifp c30 hR
        refine lv_aload_n hx hb dX10_widen_58 rfl (lv_at hl 2 rfl) ?_
        refine gf (k0 := 0) hX hB (mw0x (a := a) (r := r) (f := f) (q := (va_up q 3 t13)) (T := tb a) (w := w) rfl) rfl in10 0 (by decide) wm_5_162 rfl rfl dX10_widen_59 ?_
        refine lv_iload_n hx hb dX10_widen_62 rfl (lv_at hl 3 rfl) ?_
        refine lv_aload_n hx hb dX10_widen_63 rfl (lv_at hl 1 rfl) ?_
        refine lv_iload_n hx hb dX10_widen_64 rfl (lv_at hl 4 rfl) ?_
        refine lv_if_eq (tgt := 75) hx hb dX10_widen_65 (by decide) (fun c31 => False.elim (c18 c31)) (fun _ => ?_)
        refine lv_aload_n hx hb dX10_widen_68 rfl (lv_at hl 1 rfl) ?_
        refine gf (k0 := 2 + 2 * y.toNatClampNeg) hX hB (mwG (i := y.toNatClampNeg) (a := a) (r := r) (f := f) (q := (va_up q 3 t13)) (T := tb a) (w := w) (by omega)) rfl in7 0 (by decide) wm_5_148 rfl rfl dX10_widen_69 ?_
        refine lv_goto (tgt := 77) hx hb dX10_widen_72 (by decide) ?_
        refine lv_iload_n hx hb dX10_widen_77 rfl (lv_at hl 4 rfl) ?_
        refine lv_if_eq (tgt := 86) hx hb dX10_widen_78 (by decide) (fun c32 => False.elim (c18 c32)) (fun _ => ?_)
        refine lv_iload hx hb dX10_widen_81 (lv_at hl 0 rfl) ?_
        refine lv_goto (tgt := 90) hx hb dX10_widen_83 (by decide) ?_
        refine lv_bipush (v := 9) hx hb dX10_widen_90 (by decide) ?_
        refine lv_bipush (v := 9) hx hb dX10_widen_92 (by decide) ?_
        obtain ⟨F35, hd36⟩ := ex1 (D_X10_shaped (r (2 * y.toNatClampNeg)) (r (2 * y.toNatClampNeg + 1)) (f y.toNatClampNeg) (r (2 * y.toNatClampNeg)) ((r (2 * y.toNatClampNeg + 1)) + 1) 9 9)
        replace hR := bnd1_use hd36 hR
        refine call_S (n := 5) (As := [.ref (a (2 + 2 * y.toNatClampNeg)), .int (nI (r (2 * y.toNatClampNeg))), .int (nI ((r (2 * y.toNatClampNeg + 1)) + 1)), .int 9, .int 9]) (rest := [.int y, .ref (a 1)]) hX hB (k_X10_shaped κ l (mw κ a r f (va_up q 3 t13) (tb a) w) (2 + 2 * y.toNatClampNeg) (3 + 2 * y.toNatClampNeg) (a (2 + 2 * y.toNatClampNeg)) (a (3 + 2 * y.toNatClampNeg)) (r (2 * y.toNatClampNeg)) (r (2 * y.toNatClampNeg + 1)) (f y.toNatClampNeg) (nI (r (2 * y.toNatClampNeg))) (r (2 * y.toNatClampNeg)) (nI ((r (2 * y.toNatClampNeg + 1)) + 1)) ((r (2 * y.toNatClampNeg + 1)) + 1) 9 9 (mwG (i := y.toNatClampNeg) (a := a) (r := r) (f := f) (q := (va_up q 3 t13)) (T := tb a) (w := w) (by omega)) (mwA (i := y.toNatClampNeg) (a := a) (r := r) (f := f) (q := (va_up q 3 t13)) (T := tb a) (w := w) (by omega)) (mok_shp (i := y.toNatClampNeg) hm (by omega)) rfl rfl (by omega) ((hm _ (by omega)).2) F35 hd36) ⟨by decide, by decide, by decide +kernel⟩ wm_6_97 wm_6_98 wm_1_6 wm_6_99 ⟨Nat.le_of_ble_eq_true rfl, Nat.le_of_ble_eq_true rfl⟩ ⟨Nat.le_of_ble_eq_true rfl, Nat.le_of_ble_eq_true rfl⟩ rfl hl.1 rfl (Nat.le_of_ble_eq_true rfl) dX10_widen_94 (fun o w' H locs hp hB => ?_)
        obtain ⟨q33, q34, rfl, hf37, hw9⟩ := hp
        replace hB : Bd κ A s (lA κ q34 ((r (2 * y.toNatClampNeg)) * 5) F35 :: gO q33 (r (2 * y.toNatClampNeg)) ((r (2 * y.toNatClampNeg + 1)) + 1) q34 :: mw κ a r f (va_up q 3 t13) (tb a) w) H locs := by rw [hw9] at hB; exact hB
        refine W.eq (g2 := F0 m 97 ls [.ref q33, .int y, .ref (a 1)]) rfl ?_
        refine astM (f := tb a) (k0 := 3) (k1 := 1) hX hB (mw1 (a := a) (r := r) (f := f) (q := (va_up q 3 t13)) (T := tb a) (w := w)) rfl (vp_in_mk (by assumption) (by assumption)) (w1 := lA κ q34 ((r (2 * y.toNatClampNeg)) * 5) F35 :: gO q33 (r (2 * y.toNatClampNeg)) ((r (2 * y.toNatClampNeg + 1)) + 1) q34 :: mw κ a r f (va_up q 3 t13) (va_up (tb a) y.toNatClampNeg (some q33)) w) (congrArg (List.cons _) (congrArg (List.cons _) (mwST _))) dX10_widen_97 (fun H locs hB => ?_)
        obtain ⟨a38, ha39, hg40, hB⟩ := Bd_repl2 (t := y.toNatClampNeg) (by omega) hB
        have hba38 := mok_r hm y.toNatClampNeg (by omega)
        refine lv_aload_n hx hb dX10_widen_98 rfl (lv_at hl 2 rfl) ?_
        refine lv_iload hx hb dX10_widen_99 (lv_at hl 0 rfl) ?_
        refine call_V (n := 1) (k0 := 0) (As := [.int (nI ((r (2 * y.toNatClampNeg + 1)) + 1))]) (rest := []) hX hB (k_X10_told κ l (mw κ a38 (va_up (va_up r (2 * y.toNatClampNeg) (r (2 * y.toNatClampNeg))) (2 * y.toNatClampNeg + 1) ((r (2 * y.toNatClampNeg + 1)) + 1)) (va_up f y.toNatClampNeg F35) (va_up q 3 t13) (tb a38) w) 0 (a 0) (a38 1) ((va_up q 3 t13) 0) ((va_up q 3 t13) 1) ((va_up q 3 t13) 2) ((va_up q 3 t13) 3) (nI ((r (2 * y.toNatClampNeg + 1)) + 1)) (mw0x (a := a38) (r := (va_up (va_up r (2 * y.toNatClampNeg) (r (2 * y.toNatClampNeg))) (2 * y.toNatClampNeg + 1) ((r (2 * y.toNatClampNeg + 1)) + 1))) (f := (va_up f y.toNatClampNeg F35)) (q := (va_up q 3 t13)) (T := tb a38) (w := w) (ha39.trans rfl))) ⟨rfl, by decide, by decide, by decide +kernel⟩ wm_5_208 wm_5_210 wp_30 wm_1_6 wm_5_211 ⟨Nat.le_of_ble_eq_true rfl, Nat.le_of_ble_eq_true rfl⟩ ⟨Nat.le_of_ble_eq_true rfl, Nat.le_of_ble_eq_true rfl⟩ (mw0x (a := a38) (r := (va_up (va_up r (2 * y.toNatClampNeg) (r (2 * y.toNatClampNeg))) (2 * y.toNatClampNeg + 1) ((r (2 * y.toNatClampNeg + 1)) + 1))) (f := (va_up f y.toNatClampNeg F35)) (q := (va_up q 3 t13)) (T := tb a38) (w := w) (ha39.trans rfl)) rfl rfl rfl hl.1 rfl (Nat.le_of_ble_eq_true rfl) dX10_widen_101 (fun o w' H locs hp hB => ?_)
        obtain ⟨rfl, hw9⟩ := hp
        replace hB : Bd κ A s (mw κ a38 (va_up (va_up r (2 * y.toNatClampNeg) (r (2 * y.toNatClampNeg))) (2 * y.toNatClampNeg + 1) ((r (2 * y.toNatClampNeg + 1)) + 1)) (va_up f y.toNatClampNeg F35) (va_up (va_up q 3 t13) 0 (((va_up q 3 t13) 0) + 1)) (tb a38) w) H locs := by exact Bd_eq (mwQ0x (ha39.trans rfl) _) (by rw [hw9] at hB; exact hB)
        refine W.eq (g2 := F0 m 104 ls [.int (nI ((r (2 * y.toNatClampNeg + 1)) + 1))]) rfl ?_
        rw [← hQ]
        exact end_i hX hB hA3 rfl rfl (by obtain ⟨rfl, rfl, rfl, rfl⟩ := pr4 hR; exact ⟨a38, rfl, (ha39.trans rfl), (mok_repl (t := y.toNatClampNeg) (R := (r (2 * y.toNatClampNeg))) (C := ((r (2 * y.toNatClampNeg + 1)) + 1)) (F := F35) hm ⟨by omega, by omega, by omega, by omega⟩ hf37), rfl, rfl⟩) (Nat.le_of_ble_eq_true rfl) (Nat.le_of_ble_eq_true rfl) dX10_widen_104
      · replace c30 : ¬ nI ((r (2 * y.toNatClampNeg + 1)) + 1) ≤ nI 4 := c30
        rw [nleP (by omega) (by omega)] at c30
        replace hR := ifn c30 hR
        refine lv_aload_n hx hb dX10_widen_53 rfl (lv_at hl 2 rfl) ?_
        refine call_V (n := 0) (k0 := 0) (As := []) (rest := []) hX hB (k_X10_no κ l (mw κ a r f (va_up q 3 t13) (tb a) w) 0 (a 0) (a 1) ((va_up q 3 t13) 0) ((va_up q 3 t13) 1) ((va_up q 3 t13) 2) ((va_up q 3 t13) 3) (mw0x (a := a) (r := r) (f := f) (q := (va_up q 3 t13)) (T := tb a) (w := w) rfl)) ⟨rfl, by decide, by decide, by decide +kernel⟩ wm_6_89 wm_6_91 wp_36 wm_1_6 wm_6_92 ⟨Nat.le_of_ble_eq_true rfl, Nat.le_of_ble_eq_true rfl⟩ ⟨Nat.le_of_ble_eq_true rfl, Nat.le_of_ble_eq_true rfl⟩ (mw0x (a := a) (r := r) (f := f) (q := (va_up q 3 t13)) (T := tb a) (w := w) rfl) rfl rfl rfl hl.1 rfl (Nat.le_of_ble_eq_true rfl) dX10_widen_54 (fun o w' H locs hp hB => ?_)
        obtain ⟨rfl, hw9⟩ := hp
        replace hB : Bd κ A s (mw κ a r f (va_up (va_up q 3 t13) 1 (((va_up q 3 t13) 1) + 1)) (tb a) w) H locs := by exact Bd_eq (mwQ1x rfl _) (by rw [hw9] at hB; exact hB)
        refine W.eq (g2 := F0 m 57 ls [.int (-9)]) rfl ?_
        rw [← hQ]
        exact end_i hX hB hA3 rfl rfl (by obtain ⟨rfl, rfl, rfl, rfl⟩ := pr4 hR; exact ⟨a, rfl, rfl, hm, rfl, rfl⟩) (Nat.le_of_ble_eq_true rfl) (Nat.le_of_ble_eq_true rfl) dX10_widen_57
noncomputable def D_X10_drop (r : Nat → Nat) (f : Nat → Nat → Int64) (q : Nat → Int32) (y : Int32) (c0 : Int32) (z : Int32) : Int32 × (Nat → Nat) × (Nat → Nat → Int64) × (Nat → Int32) := bnd1 (D_X10_isLine r f q y c0 z) (fun (x1 : Int32) => (if x1 = 0 then bnd2 (D_X10_isThrown__ (q 0) (q 1) (q 2) (q 3) 1) (fun (x6 : Int32) (t7 : Int32) => (0, r, f, va_up q 3 t7)) else bnd2 (D_X10_isThrown__ (q 0) (q 1) (q 2) (q 3) 0) (fun (x12 : Int32) (t13 : Int32) => (if c0 = 0 then (if ((r (2 * y.toNatClampNeg)) - 1) = 0 then (-9, r, f, va_up (va_up q 3 t13) 1 (((va_up q 3 t13) 1) + 1)) else bnd1 (D_X10_shaped (r (2 * y.toNatClampNeg)) (r (2 * y.toNatClampNeg + 1)) (f y.toNatClampNeg) ((r (2 * y.toNatClampNeg)) - 1) (r (2 * y.toNatClampNeg + 1)) z 9) (fun (F26 : Nat → Int64) => (nI ((r (2 * y.toNatClampNeg)) - 1), va_up (va_up r (2 * y.toNatClampNeg) ((r (2 * y.toNatClampNeg)) - 1)) (2 * y.toNatClampNeg + 1) (r (2 * y.toNatClampNeg + 1)), va_up f y.toNatClampNeg F26, va_up (va_up q 3 t13) 0 (((va_up q 3 t13) 0) + 1)))) else (if ((r (2 * y.toNatClampNeg + 1)) - 1) = 0 then (-9, r, f, va_up (va_up q 3 t13) 1 (((va_up q 3 t13) 1) + 1)) else bnd1 (D_X10_shaped (r (2 * y.toNatClampNeg)) (r (2 * y.toNatClampNeg + 1)) (f y.toNatClampNeg) (r (2 * y.toNatClampNeg)) ((r (2 * y.toNatClampNeg + 1)) - 1) 9 z) (fun (F39 : Nat → Int64) => (nI ((r (2 * y.toNatClampNeg + 1)) - 1), va_up (va_up r (2 * y.toNatClampNeg) (r (2 * y.toNatClampNeg))) (2 * y.toNatClampNeg + 1) ((r (2 * y.toNatClampNeg + 1)) - 1), va_up f y.toNatClampNeg F39, va_up (va_up q 3 t13) 0 (((va_up q 3 t13) 0) + 1))))))))
theorem D_X10_drop_s {r : Nat → Nat} {f : Nat → Nat → Int64} {q : Nat → Int32} {y : Int32} {c0 : Int32} {z : Int32} : D_X10_drop r f q y c0 z = bnd1 (D_X10_isLine r f q y c0 z) (fun (x1 : Int32) => (if x1 = 0 then bnd2 (D_X10_isThrown__ (q 0) (q 1) (q 2) (q 3) 1) (fun (x6 : Int32) (t7 : Int32) => (0, r, f, va_up q 3 t7)) else bnd2 (D_X10_isThrown__ (q 0) (q 1) (q 2) (q 3) 0) (fun (x12 : Int32) (t13 : Int32) => (if c0 = 0 then (if ((r (2 * y.toNatClampNeg)) - 1) = 0 then (-9, r, f, va_up (va_up q 3 t13) 1 (((va_up q 3 t13) 1) + 1)) else bnd1 (D_X10_shaped (r (2 * y.toNatClampNeg)) (r (2 * y.toNatClampNeg + 1)) (f y.toNatClampNeg) ((r (2 * y.toNatClampNeg)) - 1) (r (2 * y.toNatClampNeg + 1)) z 9) (fun (F26 : Nat → Int64) => (nI ((r (2 * y.toNatClampNeg)) - 1), va_up (va_up r (2 * y.toNatClampNeg) ((r (2 * y.toNatClampNeg)) - 1)) (2 * y.toNatClampNeg + 1) (r (2 * y.toNatClampNeg + 1)), va_up f y.toNatClampNeg F26, va_up (va_up q 3 t13) 0 (((va_up q 3 t13) 0) + 1)))) else (if ((r (2 * y.toNatClampNeg + 1)) - 1) = 0 then (-9, r, f, va_up (va_up q 3 t13) 1 (((va_up q 3 t13) 1) + 1)) else bnd1 (D_X10_shaped (r (2 * y.toNatClampNeg)) (r (2 * y.toNatClampNeg + 1)) (f y.toNatClampNeg) (r (2 * y.toNatClampNeg)) ((r (2 * y.toNatClampNeg + 1)) - 1) 9 z) (fun (F39 : Nat → Int64) => (nI ((r (2 * y.toNatClampNeg + 1)) - 1), va_up (va_up r (2 * y.toNatClampNeg) (r (2 * y.toNatClampNeg))) (2 * y.toNatClampNeg + 1) ((r (2 * y.toNatClampNeg + 1)) - 1), va_up f y.toNatClampNeg F39, va_up (va_up q 3 t13) 0 (((va_up q 3 t13) 0) + 1)))))))) := rfl
set_option maxHeartbeats 4000000 in
set_option maxRecDepth 100000 in
theorem k_X10_drop (κ : Kt) (l : Launch) (w : va_W) (a r : Nat → Nat) (f : Nat → Nat → Int64) (q : Nat → Int32) (y : Int32) (c0 : Int32) (z : Int32) (hm : mok r f) (o_x : Int32) (o_r' : Nat → Nat) (o_f' : Nat → Nat → Int64) (o_q' : Nat → Int32) (hR : D_X10_drop r f q y c0 z = (o_x, o_r', o_f', o_q')) : CM κ l yX10_drop cX10_drop 6 (some .int) 3 71 2 23 [.ref (a 0), .int y, .int c0, .int z] (mw κ a r f q (tb a) w) (fun o w' => ∃ (a' : Nat → Nat), o = some (.int o_x) ∧ (a' 0 = a 0) ∧ (mok o_r' o_f') ∧ (o_q' 2 = q 2) ∧ w' = mw κ a' o_r' o_f' o_q' (tb a') w) := by
  refine CM_begin (plainFor_of_name (by decide)) (Nat.le_of_ble_eq_true rfl) ?_
  intro p e s m args below meth c A Q hX hnm hA3 hQ hB ls hl
  have hx := hX.1.1
  have hb := hX.1.2.1
  have hl : lv_has ls 6 [(0, .ref (a 0)), (1, .int y), (2, .int c0), (3, .int z)] := hl
  replace hR := (D_X10_drop_s).symm.trans hR
  refine lv_aload_n hx hb dX10_drop_0 rfl (lv_at hl 0 rfl) ?_
  refine lv_aload_n hx hb dX10_drop_1 rfl (lv_at hl 0 rfl) ?_
  refine lv_iload_n hx hb dX10_drop_2 rfl (lv_at hl 1 rfl) ?_
  refine lv_iload_n hx hb dX10_drop_3 rfl (lv_at hl 2 rfl) ?_
  refine lv_iload_n hx hb dX10_drop_4 rfl (lv_at hl 3 rfl) ?_
  obtain ⟨x1, hd2⟩ := ex1 (D_X10_isLine r f q y c0 z)
  replace hR := bnd1_use hd2 hR
  refine call_V (n := 3) (k0 := 0) (As := [.int y, .int c0, .int z]) (rest := [.ref (a 0)]) hX hB (k_X10_isLine κ l w a r f q y c0 z hm x1 hd2) ⟨rfl, by decide, by decide, by decide +kernel⟩ wm_6_42 wm_6_44 wp_34 wm_1_6 wm_6_45 ⟨Nat.le_of_ble_eq_true rfl, Nat.le_of_ble_eq_true rfl⟩ ⟨Nat.le_of_ble_eq_true rfl, Nat.le_of_ble_eq_true rfl⟩ (mw0x (a := a) (r := r) (f := f) (q := q) (T := tb a) (w := w) rfl) rfl rfl rfl hl.1 rfl (Nat.le_of_ble_eq_true rfl) dX10_drop_5 (fun o w' H locs hp hB => ?_)
  obtain ⟨rfl, hf3, hw9⟩ := hp
  replace hB : Bd κ A s (mw κ a r f q (tb a) w) H locs := by rw [hw9] at hB; exact hB
  rcases hf3 with rfl | ⟨rfl, hz4a, hz4b, hz4c, hz4d, hz4e⟩
  · replace hR := ifp rfl hR
    refine W.eq (g2 := F0 m 8 ls [.int 0, .ref (a 0)]) rfl ?_
    refine lv_if_ne (tgt := 15) hx hb dX10_drop_8 (by decide) (fun c5 => False.elim (by revert c5; decide)) (fun _ => ?_)
    refine lv_iconst (v := 1) hx hb dX10_drop_11 (by decide) ?_
    refine lv_goto (tgt := 16) hx hb dX10_drop_12 (by decide) ?_
    obtain ⟨x6, t7, hd8⟩ := ex2 (D_X10_isThrown__ (q 0) (q 1) (q 2) (q 3) 1)
    replace hR := bnd2_use hd8 hR
    refine call_V (n := 1) (k0 := 0) (As := [.int 1]) (rest := []) hX hB (k_X10_isThrown__ κ l (mw κ a r f q (tb a) w) 0 (a 0) (a 1) (q 0) (q 1) (q 2) (q 3) 1 (mw0x (a := a) (r := r) (f := f) (q := q) (T := tb a) (w := w) rfl) x6 t7 hd8) ⟨rfl, by decide, by decide, by decide +kernel⟩ wm_6_15 wm_6_17 wp_33 wm_1_6 wm_6_18 ⟨Nat.le_of_ble_eq_true rfl, Nat.le_of_ble_eq_true rfl⟩ ⟨Nat.le_of_ble_eq_true rfl, Nat.le_of_ble_eq_true rfl⟩ (mw0x (a := a) (r := r) (f := f) (q := q) (T := tb a) (w := w) rfl) rfl rfl rfl hl.1 rfl (Nat.le_of_ble_eq_true rfl) dX10_drop_16 (fun o w' H locs hp hB => ?_)
    obtain ⟨rfl, hf9, hw9⟩ := hp
    replace hB : Bd κ A s (mw κ a r f (va_up q 3 t7) (tb a) w) H locs := by exact Bd_eq (mwQ3x rfl _) (by rw [hw9] at hB; exact hB)
    obtain rfl : x6 = 1 := hf9.trans (by decide)
    refine W.eq (g2 := F0 m 19 ls [.int 1]) rfl ?_
    refine lv_if_eq (tgt := 24) hx hb dX10_drop_19 (by decide) (fun c10 => False.elim (by revert c10; decide)) (fun _ => ?_)
    refine lv_iconst (v := 0) hx hb dX10_drop_22 (by decide) ?_
    rw [← hQ]
    exact end_i hX hB hA3 rfl rfl (by obtain ⟨rfl, rfl, rfl, rfl⟩ := pr4 hR; exact ⟨a, rfl, rfl, hm, rfl, rfl⟩) (Nat.le_of_ble_eq_true rfl) (Nat.le_of_ble_eq_true rfl) dX10_drop_23
  · replace hR := ifn (by decide) hR
    refine W.eq (g2 := F0 m 8 ls [.int 1, .ref (a 0)]) rfl ?_
    refine lv_if_ne (tgt := 15) hx hb dX10_drop_8 (by decide) (fun _ => ?_) (fun c11 => False.elim (by revert c11; decide))
    refine lv_iconst (v := 0) hx hb dX10_drop_15 (by decide) ?_
    obtain ⟨x12, t13, hd14⟩ := ex2 (D_X10_isThrown__ (q 0) (q 1) (q 2) (q 3) 0)
    replace hR := bnd2_use hd14 hR
    refine call_V (n := 1) (k0 := 0) (As := [.int 0]) (rest := []) hX hB (k_X10_isThrown__ κ l (mw κ a r f q (tb a) w) 0 (a 0) (a 1) (q 0) (q 1) (q 2) (q 3) 0 (mw0x (a := a) (r := r) (f := f) (q := q) (T := tb a) (w := w) rfl) x12 t13 hd14) ⟨rfl, by decide, by decide, by decide +kernel⟩ wm_6_15 wm_6_17 wp_33 wm_1_6 wm_6_18 ⟨Nat.le_of_ble_eq_true rfl, Nat.le_of_ble_eq_true rfl⟩ ⟨Nat.le_of_ble_eq_true rfl, Nat.le_of_ble_eq_true rfl⟩ (mw0x (a := a) (r := r) (f := f) (q := q) (T := tb a) (w := w) rfl) rfl rfl rfl hl.1 rfl (Nat.le_of_ble_eq_true rfl) dX10_drop_16 (fun o w' H locs hp hB => ?_)
    obtain ⟨rfl, hf15, hw9⟩ := hp
    replace hB : Bd κ A s (mw κ a r f (va_up q 3 t13) (tb a) w) H locs := by exact Bd_eq (mwQ3x rfl _) (by rw [hw9] at hB; exact hB)
    obtain rfl : x12 = 0 := hf15.trans (by decide)
    refine W.eq (g2 := F0 m 19 ls [.int 0]) rfl ?_
    refine lv_if_eq (tgt := 24) hx hb dX10_drop_19 (by decide) (fun _ => ?_) (fun c16 => False.elim (by revert c16; decide))
    refine lv_aload_n hx hb dX10_drop_24 rfl (lv_at hl 0 rfl) ?_
    refine gf (k0 := 0) hX hB (mw0x (a := a) (r := r) (f := f) (q := (va_up q 3 t13)) (T := tb a) (w := w) rfl) rfl in10 0 (by decide) wm_5_162 rfl rfl dX10_drop_25 ?_
    refine lv_iload_n hx hb dX10_drop_28 rfl (lv_at hl 1 rfl) ?_
    refine aaldM (k0 := 1) hX hB (mw1 (a := a) (r := r) (f := f) (q := (va_up q 3 t13)) (T := tb a) (w := w)) (vp_in_mk (by assumption) (by assumption)) rfl dX10_drop_29 ?_
    have hb17 := mok_r hm y.toNatClampNeg (by omega)
    refine lv_astore (lv' := [(4, .ref (a (2 + 2 * y.toNatClampNeg))), (0, .ref (a 0)), (1, .int y), (2, .int c0), (3, .int z)]) hx hb dX10_drop_30 hl (by decide) rfl (fun ls hl => ?_)
    refine lv_iload_n hx hb dX10_drop_32 rfl (lv_at hl 3 rfl) ?_
    refine lv_if_eq (tgt := 44) hx hb dX10_drop_33 (by decide) (fun c18 => ?_) (fun c18 => ?_)
    · replace hR := ifp c18 hR
      have hz4l := hz4d c18
      refine lv_aload hx hb dX10_drop_44 (lv_at hl 0 rfl) ?_
      refine gf (k0 := 2 + 2 * y.toNatClampNeg) hX hB (mwG (i := y.toNatClampNeg) (a := a) (r := r) (f := f) (q := (va_up q 3 t13)) (T := tb a) (w := w) (by omega)) rfl in7 0 (by decide) wm_5_148 rfl rfl dX10_drop_46 ?_
      refine lv_iconst (v := 1) hx hb dX10_drop_49 (by decide) ?_
      refine lv_isub hx hb dX10_drop_50 ?_
      refine eqi (y := nI ((r (2 * y.toNatClampNeg)) - 1)) (nI_sub (a := r (2 * y.toNatClampNeg)) (b := 1) (by omega)) ?_
      refine lv_istore (lv' := [(5, .int (nI ((r (2 * y.toNatClampNeg)) - 1))), (4, .ref (a (2 + 2 * y.toNatClampNeg))), (0, .ref (a 0)), (1, .int y), (2, .int c0), (3, .int z)]) hx hb dX10_drop_51 hl (by decide) rfl (fun ls hl => ?_)
      refine lv_iload hx hb dX10_drop_53 (lv_at hl 0 rfl) ?_
      refine lv_if_ne (tgt := 63) hx hb dX10_drop_55 (by decide) (fun c19 => ?_) (fun c19 => ?_)
      · replace c19 : ¬ nI ((r (2 * y.toNatClampNeg)) - 1) = nI 0 := c19
        rw [neqP (by omega) (by omega)] at c19
        replace hR := ifn c19 hR
        refine lv_aload_n hx hb dX10_drop_63 rfl (lv_at hl 2 rfl) ?_
        refine gf (k0 := 0) hX hB (mw0x (a := a) (r := r) (f := f) (q := (va_up q 3 t13)) (T := tb a) (w := w) rfl) rfl in10 0 (by decide) wm_5_162 rfl rfl dX10_drop_64 ?_
        refine lv_iload_n hx hb dX10_drop_67 rfl (lv_at hl 3 rfl) ?_
        refine lv_aload hx hb dX10_drop_68 (lv_at hl 1 rfl) ?_
        refine lv_iload_n hx hb dX10_drop_70 rfl (lv_at hl 4 rfl) ?_
        refine lv_if_eq (tgt := 82) hx hb dX10_drop_71 (by decide) (fun _ => ?_) (fun c20 => False.elim (c20 c18))
        refine lv_iload hx hb dX10_drop_82 (lv_at hl 0 rfl) ?_
        refine lv_iload_n hx hb dX10_drop_84 rfl (lv_at hl 4 rfl) ?_
        refine lv_if_eq (tgt := 93) hx hb dX10_drop_85 (by decide) (fun _ => ?_) (fun c21 => False.elim (c21 c18))
        refine lv_aload hx hb dX10_drop_93 (lv_at hl 1 rfl) ?_
        refine gf (k0 := 2 + 2 * y.toNatClampNeg) hX hB (mwG (i := y.toNatClampNeg) (a := a) (r := r) (f := f) (q := (va_up q 3 t13)) (T := tb a) (w := w) (by omega)) rfl in7 1 (by decide) wm_5_152 rfl rfl dX10_drop_95 ?_
        refine lv_iload_n hx hb dX10_drop_98 rfl (lv_at hl 4 rfl) ?_
        refine lv_if_eq (tgt := 107) hx hb dX10_drop_99 (by decide) (fun _ => ?_) (fun c22 => False.elim (c22 c18))
        refine lv_iload_n hx hb dX10_drop_107 rfl (lv_at hl 5 rfl) ?_
        refine lv_iload_n hx hb dX10_drop_108 rfl (lv_at hl 4 rfl) ?_
        refine lv_if_eq (tgt := 116) hx hb dX10_drop_109 (by decide) (fun _ => ?_) (fun c23 => False.elim (c23 c18))
        refine lv_bipush (v := 9) hx hb dX10_drop_116 (by decide) ?_
        obtain ⟨F26, hd27⟩ := ex1 (D_X10_shaped (r (2 * y.toNatClampNeg)) (r (2 * y.toNatClampNeg + 1)) (f y.toNatClampNeg) ((r (2 * y.toNatClampNeg)) - 1) (r (2 * y.toNatClampNeg + 1)) z 9)
        replace hR := bnd1_use hd27 hR
        refine call_S (n := 5) (As := [.ref (a (2 + 2 * y.toNatClampNeg)), .int (nI ((r (2 * y.toNatClampNeg)) - 1)), .int (nI (r (2 * y.toNatClampNeg + 1))), .int z, .int 9]) (rest := [.int y, .ref (a 1)]) hX hB (k_X10_shaped κ l (mw κ a r f (va_up q 3 t13) (tb a) w) (2 + 2 * y.toNatClampNeg) (3 + 2 * y.toNatClampNeg) (a (2 + 2 * y.toNatClampNeg)) (a (3 + 2 * y.toNatClampNeg)) (r (2 * y.toNatClampNeg)) (r (2 * y.toNatClampNeg + 1)) (f y.toNatClampNeg) (nI ((r (2 * y.toNatClampNeg)) - 1)) ((r (2 * y.toNatClampNeg)) - 1) (nI (r (2 * y.toNatClampNeg + 1))) (r (2 * y.toNatClampNeg + 1)) z 9 (mwG (i := y.toNatClampNeg) (a := a) (r := r) (f := f) (q := (va_up q 3 t13)) (T := tb a) (w := w) (by omega)) (mwA (i := y.toNatClampNeg) (a := a) (r := r) (f := f) (q := (va_up q 3 t13)) (T := tb a) (w := w) (by omega)) (mok_shp (i := y.toNatClampNeg) hm (by omega)) rfl rfl (by omega) ((hm _ (by omega)).2) F26 hd27) ⟨by decide, by decide, by decide +kernel⟩ wm_6_97 wm_6_98 wm_1_6 wm_6_99 ⟨Nat.le_of_ble_eq_true rfl, Nat.le_of_ble_eq_true rfl⟩ ⟨Nat.le_of_ble_eq_true rfl, Nat.le_of_ble_eq_true rfl⟩ rfl hl.1 rfl (Nat.le_of_ble_eq_true rfl) dX10_drop_118 (fun o w' H locs hp hB => ?_)
        obtain ⟨q24, q25, rfl, hf28, hw9⟩ := hp
        replace hB : Bd κ A s (lA κ q25 (((r (2 * y.toNatClampNeg)) - 1) * 5) F26 :: gO q24 ((r (2 * y.toNatClampNeg)) - 1) (r (2 * y.toNatClampNeg + 1)) q25 :: mw κ a r f (va_up q 3 t13) (tb a) w) H locs := by rw [hw9] at hB; exact hB
        refine W.eq (g2 := F0 m 121 ls [.ref q24, .int y, .ref (a 1)]) rfl ?_
        refine astM (f := tb a) (k0 := 3) (k1 := 1) hX hB (mw1 (a := a) (r := r) (f := f) (q := (va_up q 3 t13)) (T := tb a) (w := w)) rfl (vp_in_mk (by assumption) (by assumption)) (w1 := lA κ q25 (((r (2 * y.toNatClampNeg)) - 1) * 5) F26 :: gO q24 ((r (2 * y.toNatClampNeg)) - 1) (r (2 * y.toNatClampNeg + 1)) q25 :: mw κ a r f (va_up q 3 t13) (va_up (tb a) y.toNatClampNeg (some q24)) w) (congrArg (List.cons _) (congrArg (List.cons _) (mwST _))) dX10_drop_121 (fun H locs hB => ?_)
        obtain ⟨a29, ha30, hg31, hB⟩ := Bd_repl2 (t := y.toNatClampNeg) (by omega) hB
        have hba29 := mok_r hm y.toNatClampNeg (by omega)
        refine lv_aload_n hx hb dX10_drop_122 rfl (lv_at hl 2 rfl) ?_
        refine lv_iload hx hb dX10_drop_123 (lv_at hl 0 rfl) ?_
        refine call_V (n := 1) (k0 := 0) (As := [.int (nI ((r (2 * y.toNatClampNeg)) - 1))]) (rest := []) hX hB (k_X10_told κ l (mw κ a29 (va_up (va_up r (2 * y.toNatClampNeg) ((r (2 * y.toNatClampNeg)) - 1)) (2 * y.toNatClampNeg + 1) (r (2 * y.toNatClampNeg + 1))) (va_up f y.toNatClampNeg F26) (va_up q 3 t13) (tb a29) w) 0 (a 0) (a29 1) ((va_up q 3 t13) 0) ((va_up q 3 t13) 1) ((va_up q 3 t13) 2) ((va_up q 3 t13) 3) (nI ((r (2 * y.toNatClampNeg)) - 1)) (mw0x (a := a29) (r := (va_up (va_up r (2 * y.toNatClampNeg) ((r (2 * y.toNatClampNeg)) - 1)) (2 * y.toNatClampNeg + 1) (r (2 * y.toNatClampNeg + 1)))) (f := (va_up f y.toNatClampNeg F26)) (q := (va_up q 3 t13)) (T := tb a29) (w := w) (ha30.trans rfl))) ⟨rfl, by decide, by decide, by decide +kernel⟩ wm_5_208 wm_5_210 wp_30 wm_1_6 wm_5_211 ⟨Nat.le_of_ble_eq_true rfl, Nat.le_of_ble_eq_true rfl⟩ ⟨Nat.le_of_ble_eq_true rfl, Nat.le_of_ble_eq_true rfl⟩ (mw0x (a := a29) (r := (va_up (va_up r (2 * y.toNatClampNeg) ((r (2 * y.toNatClampNeg)) - 1)) (2 * y.toNatClampNeg + 1) (r (2 * y.toNatClampNeg + 1)))) (f := (va_up f y.toNatClampNeg F26)) (q := (va_up q 3 t13)) (T := tb a29) (w := w) (ha30.trans rfl)) rfl rfl rfl hl.1 rfl (Nat.le_of_ble_eq_true rfl) dX10_drop_125 (fun o w' H locs hp hB => ?_)
        obtain ⟨rfl, hw9⟩ := hp
        replace hB : Bd κ A s (mw κ a29 (va_up (va_up r (2 * y.toNatClampNeg) ((r (2 * y.toNatClampNeg)) - 1)) (2 * y.toNatClampNeg + 1) (r (2 * y.toNatClampNeg + 1))) (va_up f y.toNatClampNeg F26) (va_up (va_up q 3 t13) 0 (((va_up q 3 t13) 0) + 1)) (tb a29) w) H locs := by exact Bd_eq (mwQ0x (ha30.trans rfl) _) (by rw [hw9] at hB; exact hB)
        refine W.eq (g2 := F0 m 128 ls [.int (nI ((r (2 * y.toNatClampNeg)) - 1))]) rfl ?_
        rw [← hQ]
        exact end_i hX hB hA3 rfl rfl (by obtain ⟨rfl, rfl, rfl, rfl⟩ := pr4 hR; exact ⟨a29, rfl, (ha30.trans rfl), (mok_repl (t := y.toNatClampNeg) (R := ((r (2 * y.toNatClampNeg)) - 1)) (C := (r (2 * y.toNatClampNeg + 1))) (F := F26) hm ⟨by omega, by omega, by omega, by omega⟩ hf28), rfl, rfl⟩) (Nat.le_of_ble_eq_true rfl) (Nat.le_of_ble_eq_true rfl) dX10_drop_128
      · replace c19 : nI ((r (2 * y.toNatClampNeg)) - 1) = nI 0 := c19
        rw [neqP (by omega) (by omega)] at c19
        replace hR := ifp c19 hR
        refine lv_aload_n hx hb dX10_drop_58 rfl (lv_at hl 2 rfl) ?_
        refine call_V (n := 0) (k0 := 0) (As := []) (rest := []) hX hB (k_X10_no κ l (mw κ a r f (va_up q 3 t13) (tb a) w) 0 (a 0) (a 1) ((va_up q 3 t13) 0) ((va_up q 3 t13) 1) ((va_up q 3 t13) 2) ((va_up q 3 t13) 3) (mw0x (a := a) (r := r) (f := f) (q := (va_up q 3 t13)) (T := tb a) (w := w) rfl)) ⟨rfl, by decide, by decide, by decide +kernel⟩ wm_6_89 wm_6_91 wp_36 wm_1_6 wm_6_92 ⟨Nat.le_of_ble_eq_true rfl, Nat.le_of_ble_eq_true rfl⟩ ⟨Nat.le_of_ble_eq_true rfl, Nat.le_of_ble_eq_true rfl⟩ (mw0x (a := a) (r := r) (f := f) (q := (va_up q 3 t13)) (T := tb a) (w := w) rfl) rfl rfl rfl hl.1 rfl (Nat.le_of_ble_eq_true rfl) dX10_drop_59 (fun o w' H locs hp hB => ?_)
        obtain ⟨rfl, hw9⟩ := hp
        replace hB : Bd κ A s (mw κ a r f (va_up (va_up q 3 t13) 1 (((va_up q 3 t13) 1) + 1)) (tb a) w) H locs := by exact Bd_eq (mwQ1x rfl _) (by rw [hw9] at hB; exact hB)
        refine W.eq (g2 := F0 m 62 ls [.int (-9)]) rfl ?_
        rw [← hQ]
        exact end_i hX hB hA3 rfl rfl (by obtain ⟨rfl, rfl, rfl, rfl⟩ := pr4 hR; exact ⟨a, rfl, rfl, hm, rfl, rfl⟩) (Nat.le_of_ble_eq_true rfl) (Nat.le_of_ble_eq_true rfl) dX10_drop_62
    · replace hR := ifn c18 hR
      have hz4l := hz4e c18
      refine lv_aload hx hb dX10_drop_36 (lv_at hl 0 rfl) ?_
      refine gf (k0 := 2 + 2 * y.toNatClampNeg) hX hB (mwG (i := y.toNatClampNeg) (a := a) (r := r) (f := f) (q := (va_up q 3 t13)) (T := tb a) (w := w) (by omega)) rfl in7 1 (by decide) wm_5_152 rfl rfl dX10_drop_38 ?_
      refine lv_goto (tgt := 49) hx hb dX10_drop_41 (by decide) ?_
      refine lv_iconst (v := 1) hx hb dX10_drop_49 (by decide) ?_
      refine lv_isub hx hb dX10_drop_50 ?_
      refine eqi (y := nI ((r (2 * y.toNatClampNeg + 1)) - 1)) (nI_sub (a := r (2 * y.toNatClampNeg + 1)) (b := 1) (by omega)) ?_
      refine lv_istore (lv' := [(5, .int (nI ((r (2 * y.toNatClampNeg + 1)) - 1))), (4, .ref (a (2 + 2 * y.toNatClampNeg))), (0, .ref (a 0)), (1, .int y), (2, .int c0), (3, .int z)]) hx hb dX10_drop_51 hl (by decide) rfl (fun ls hl => ?_)
      refine lv_iload hx hb dX10_drop_53 (lv_at hl 0 rfl) ?_
      refine lv_if_ne (tgt := 63) hx hb dX10_drop_55 (by decide) (fun c32 => ?_) (fun c32 => ?_)
      · replace c32 : ¬ nI ((r (2 * y.toNatClampNeg + 1)) - 1) = nI 0 := c32
        rw [neqP (by omega) (by omega)] at c32
        replace hR := ifn c32 hR
        refine lv_aload_n hx hb dX10_drop_63 rfl (lv_at hl 2 rfl) ?_
        refine gf (k0 := 0) hX hB (mw0x (a := a) (r := r) (f := f) (q := (va_up q 3 t13)) (T := tb a) (w := w) rfl) rfl in10 0 (by decide) wm_5_162 rfl rfl dX10_drop_64 ?_
        refine lv_iload_n hx hb dX10_drop_67 rfl (lv_at hl 3 rfl) ?_
        refine lv_aload hx hb dX10_drop_68 (lv_at hl 1 rfl) ?_
        refine lv_iload_n hx hb dX10_drop_70 rfl (lv_at hl 4 rfl) ?_
        refine lv_if_eq (tgt := 82) hx hb dX10_drop_71 (by decide) (fun c33 => False.elim (c18 c33)) (fun _ => ?_)
        refine lv_aload hx hb dX10_drop_74 (lv_at hl 1 rfl) ?_
        refine gf (k0 := 2 + 2 * y.toNatClampNeg) hX hB (mwG (i := y.toNatClampNeg) (a := a) (r := r) (f := f) (q := (va_up q 3 t13)) (T := tb a) (w := w) (by omega)) rfl in7 0 (by decide) wm_5_148 rfl rfl dX10_drop_76 ?_
        refine lv_goto (tgt := 84) hx hb dX10_drop_79 (by decide) ?_
        refine lv_iload_n hx hb dX10_drop_84 rfl (lv_at hl 4 rfl) ?_
        refine lv_if_eq (tgt := 93) hx hb dX10_drop_85 (by decide) (fun c34 => False.elim (c18 c34)) (fun _ => ?_)
        refine lv_iload hx hb dX10_drop_88 (lv_at hl 0 rfl) ?_
        refine lv_goto (tgt := 98) hx hb dX10_drop_90 (by decide) ?_
        refine lv_iload_n hx hb dX10_drop_98 rfl (lv_at hl 4 rfl) ?_
        refine lv_if_eq (tgt := 107) hx hb dX10_drop_99 (by decide) (fun c35 => False.elim (c18 c35)) (fun _ => ?_)
        refine lv_bipush (v := 9) hx hb dX10_drop_102 (by decide) ?_
        refine lv_goto (tgt := 108) hx hb dX10_drop_104 (by decide) ?_
        refine lv_iload_n hx hb dX10_drop_108 rfl (lv_at hl 4 rfl) ?_
        refine lv_if_eq (tgt := 116) hx hb dX10_drop_109 (by decide) (fun c36 => False.elim (c18 c36)) (fun _ => ?_)
        refine lv_iload_n hx hb dX10_drop_112 rfl (lv_at hl 5 rfl) ?_
        refine lv_goto (tgt := 118) hx hb dX10_drop_113 (by decide) ?_
        obtain ⟨F39, hd40⟩ := ex1 (D_X10_shaped (r (2 * y.toNatClampNeg)) (r (2 * y.toNatClampNeg + 1)) (f y.toNatClampNeg) (r (2 * y.toNatClampNeg)) ((r (2 * y.toNatClampNeg + 1)) - 1) 9 z)
        replace hR := bnd1_use hd40 hR
        refine call_S (n := 5) (As := [.ref (a (2 + 2 * y.toNatClampNeg)), .int (nI (r (2 * y.toNatClampNeg))), .int (nI ((r (2 * y.toNatClampNeg + 1)) - 1)), .int 9, .int z]) (rest := [.int y, .ref (a 1)]) hX hB (k_X10_shaped κ l (mw κ a r f (va_up q 3 t13) (tb a) w) (2 + 2 * y.toNatClampNeg) (3 + 2 * y.toNatClampNeg) (a (2 + 2 * y.toNatClampNeg)) (a (3 + 2 * y.toNatClampNeg)) (r (2 * y.toNatClampNeg)) (r (2 * y.toNatClampNeg + 1)) (f y.toNatClampNeg) (nI (r (2 * y.toNatClampNeg))) (r (2 * y.toNatClampNeg)) (nI ((r (2 * y.toNatClampNeg + 1)) - 1)) ((r (2 * y.toNatClampNeg + 1)) - 1) 9 z (mwG (i := y.toNatClampNeg) (a := a) (r := r) (f := f) (q := (va_up q 3 t13)) (T := tb a) (w := w) (by omega)) (mwA (i := y.toNatClampNeg) (a := a) (r := r) (f := f) (q := (va_up q 3 t13)) (T := tb a) (w := w) (by omega)) (mok_shp (i := y.toNatClampNeg) hm (by omega)) rfl rfl (by omega) ((hm _ (by omega)).2) F39 hd40) ⟨by decide, by decide, by decide +kernel⟩ wm_6_97 wm_6_98 wm_1_6 wm_6_99 ⟨Nat.le_of_ble_eq_true rfl, Nat.le_of_ble_eq_true rfl⟩ ⟨Nat.le_of_ble_eq_true rfl, Nat.le_of_ble_eq_true rfl⟩ rfl hl.1 rfl (Nat.le_of_ble_eq_true rfl) dX10_drop_118 (fun o w' H locs hp hB => ?_)
        obtain ⟨q37, q38, rfl, hf41, hw9⟩ := hp
        replace hB : Bd κ A s (lA κ q38 ((r (2 * y.toNatClampNeg)) * 5) F39 :: gO q37 (r (2 * y.toNatClampNeg)) ((r (2 * y.toNatClampNeg + 1)) - 1) q38 :: mw κ a r f (va_up q 3 t13) (tb a) w) H locs := by rw [hw9] at hB; exact hB
        refine W.eq (g2 := F0 m 121 ls [.ref q37, .int y, .ref (a 1)]) rfl ?_
        refine astM (f := tb a) (k0 := 3) (k1 := 1) hX hB (mw1 (a := a) (r := r) (f := f) (q := (va_up q 3 t13)) (T := tb a) (w := w)) rfl (vp_in_mk (by assumption) (by assumption)) (w1 := lA κ q38 ((r (2 * y.toNatClampNeg)) * 5) F39 :: gO q37 (r (2 * y.toNatClampNeg)) ((r (2 * y.toNatClampNeg + 1)) - 1) q38 :: mw κ a r f (va_up q 3 t13) (va_up (tb a) y.toNatClampNeg (some q37)) w) (congrArg (List.cons _) (congrArg (List.cons _) (mwST _))) dX10_drop_121 (fun H locs hB => ?_)
        obtain ⟨a42, ha43, hg44, hB⟩ := Bd_repl2 (t := y.toNatClampNeg) (by omega) hB
        have hba42 := mok_r hm y.toNatClampNeg (by omega)
        refine lv_aload_n hx hb dX10_drop_122 rfl (lv_at hl 2 rfl) ?_
        refine lv_iload hx hb dX10_drop_123 (lv_at hl 0 rfl) ?_
        refine call_V (n := 1) (k0 := 0) (As := [.int (nI ((r (2 * y.toNatClampNeg + 1)) - 1))]) (rest := []) hX hB (k_X10_told κ l (mw κ a42 (va_up (va_up r (2 * y.toNatClampNeg) (r (2 * y.toNatClampNeg))) (2 * y.toNatClampNeg + 1) ((r (2 * y.toNatClampNeg + 1)) - 1)) (va_up f y.toNatClampNeg F39) (va_up q 3 t13) (tb a42) w) 0 (a 0) (a42 1) ((va_up q 3 t13) 0) ((va_up q 3 t13) 1) ((va_up q 3 t13) 2) ((va_up q 3 t13) 3) (nI ((r (2 * y.toNatClampNeg + 1)) - 1)) (mw0x (a := a42) (r := (va_up (va_up r (2 * y.toNatClampNeg) (r (2 * y.toNatClampNeg))) (2 * y.toNatClampNeg + 1) ((r (2 * y.toNatClampNeg + 1)) - 1))) (f := (va_up f y.toNatClampNeg F39)) (q := (va_up q 3 t13)) (T := tb a42) (w := w) (ha43.trans rfl))) ⟨rfl, by decide, by decide, by decide +kernel⟩ wm_5_208 wm_5_210 wp_30 wm_1_6 wm_5_211 ⟨Nat.le_of_ble_eq_true rfl, Nat.le_of_ble_eq_true rfl⟩ ⟨Nat.le_of_ble_eq_true rfl, Nat.le_of_ble_eq_true rfl⟩ (mw0x (a := a42) (r := (va_up (va_up r (2 * y.toNatClampNeg) (r (2 * y.toNatClampNeg))) (2 * y.toNatClampNeg + 1) ((r (2 * y.toNatClampNeg + 1)) - 1))) (f := (va_up f y.toNatClampNeg F39)) (q := (va_up q 3 t13)) (T := tb a42) (w := w) (ha43.trans rfl)) rfl rfl rfl hl.1 rfl (Nat.le_of_ble_eq_true rfl) dX10_drop_125 (fun o w' H locs hp hB => ?_)
        obtain ⟨rfl, hw9⟩ := hp
        replace hB : Bd κ A s (mw κ a42 (va_up (va_up r (2 * y.toNatClampNeg) (r (2 * y.toNatClampNeg))) (2 * y.toNatClampNeg + 1) ((r (2 * y.toNatClampNeg + 1)) - 1)) (va_up f y.toNatClampNeg F39) (va_up (va_up q 3 t13) 0 (((va_up q 3 t13) 0) + 1)) (tb a42) w) H locs := by exact Bd_eq (mwQ0x (ha43.trans rfl) _) (by rw [hw9] at hB; exact hB)
        refine W.eq (g2 := F0 m 128 ls [.int (nI ((r (2 * y.toNatClampNeg + 1)) - 1))]) rfl ?_
        rw [← hQ]
        exact end_i hX hB hA3 rfl rfl (by obtain ⟨rfl, rfl, rfl, rfl⟩ := pr4 hR; exact ⟨a42, rfl, (ha43.trans rfl), (mok_repl (t := y.toNatClampNeg) (R := (r (2 * y.toNatClampNeg))) (C := ((r (2 * y.toNatClampNeg + 1)) - 1)) (F := F39) hm ⟨by omega, by omega, by omega, by omega⟩ hf41), rfl, rfl⟩) (Nat.le_of_ble_eq_true rfl) (Nat.le_of_ble_eq_true rfl) dX10_drop_128
      · replace c32 : nI ((r (2 * y.toNatClampNeg + 1)) - 1) = nI 0 := c32
        rw [neqP (by omega) (by omega)] at c32
        replace hR := ifp c32 hR
        refine lv_aload_n hx hb dX10_drop_58 rfl (lv_at hl 2 rfl) ?_
        refine call_V (n := 0) (k0 := 0) (As := []) (rest := []) hX hB (k_X10_no κ l (mw κ a r f (va_up q 3 t13) (tb a) w) 0 (a 0) (a 1) ((va_up q 3 t13) 0) ((va_up q 3 t13) 1) ((va_up q 3 t13) 2) ((va_up q 3 t13) 3) (mw0x (a := a) (r := r) (f := f) (q := (va_up q 3 t13)) (T := tb a) (w := w) rfl)) ⟨rfl, by decide, by decide, by decide +kernel⟩ wm_6_89 wm_6_91 wp_36 wm_1_6 wm_6_92 ⟨Nat.le_of_ble_eq_true rfl, Nat.le_of_ble_eq_true rfl⟩ ⟨Nat.le_of_ble_eq_true rfl, Nat.le_of_ble_eq_true rfl⟩ (mw0x (a := a) (r := r) (f := f) (q := (va_up q 3 t13)) (T := tb a) (w := w) rfl) rfl rfl rfl hl.1 rfl (Nat.le_of_ble_eq_true rfl) dX10_drop_59 (fun o w' H locs hp hB => ?_)
        obtain ⟨rfl, hw9⟩ := hp
        replace hB : Bd κ A s (mw κ a r f (va_up (va_up q 3 t13) 1 (((va_up q 3 t13) 1) + 1)) (tb a) w) H locs := by exact Bd_eq (mwQ1x rfl _) (by rw [hw9] at hB; exact hB)
        refine W.eq (g2 := F0 m 62 ls [.int (-9)]) rfl ?_
        rw [← hQ]
        exact end_i hX hB hA3 rfl rfl (by obtain ⟨rfl, rfl, rfl, rfl⟩ := pr4 hR; exact ⟨a, rfl, rfl, hm, rfl, rfl⟩) (Nat.le_of_ble_eq_true rfl) (Nat.le_of_ble_eq_true rfl) dX10_drop_62
