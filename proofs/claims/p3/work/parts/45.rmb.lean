theorem sow_x {x : Int64} (h : 0 ≤ x.toInt ∧ x.toInt < 65536) : 0 ≤ (x * 25173 + 13849 - (x * 25173 + 13849) / 65536 * 65536).toInt ∧ (x * 25173 + 13849 - (x * 25173 + 13849) / 65536 * 65536).toInt < 65536 := by
  have e : (x * 25173 + 13849).toInt = x.toInt * 25173 + 13849 := by
    rw [Int64.toInt_add, Int64.toInt_mul, show (25173 : Int64).toInt = 25173 from rfl, show (13849 : Int64).toInt = 13849 from rfl]
    rw [Int.bmod_eq_of_le (n := x.toInt * 25173) (by omega) (by omega)]
    exact Int.bmod_eq_of_le (by omega) (by omega)
  rw [rem_int (by decide), e, show (65536 : Int64).toInt = 65536 from rfl]
  have h1 := Int.tmod_nonneg 65536 (a := x.toInt * 25173 + 13849) (by omega)
  have h2 := Int.tmod_lt_of_pos (x.toInt * 25173 + 13849) (b := 65536) (by decide)
  exact ⟨h1, h2⟩
theorem sow_d {w : Int32} (h0 : ¬ w < 0) (h1 : w ≤ 20) : (2 * w + 1).toInt64.toInt = 2 * w.toInt + 1 ∧ 0 ≤ w.toInt ∧ w.toInt ≤ 20 := by
  rw [i32_lt] at h0
  rw [i32_le] at h1
  rw [show (0 : Int32).toInt = 0 from rfl] at h0
  rw [show (20 : Int32).toInt = 20 from rfl] at h1
  refine ⟨?_, by omega, h1⟩
  rw [Int32.toInt_toInt64, Int32.toInt_add, Int32.toInt_mul, show (2 : Int32).toInt = 2 from rfl, show (1 : Int32).toInt = 1 from rfl]
  rw [Int.bmod_eq_of_le (n := 2 * w.toInt) (by omega) (by omega)]
  exact Int.bmod_eq_of_le (by omega) (by omega)
theorem sow_nz {w : Int32} (h0 : ¬ w < 0) (h1 : w ≤ 20) : ¬ (2 * w + 1).toInt64 = 0 := by
  intro e
  have h := sow_d h0 h1
  rw [e, show (0 : Int64).toInt = 0 from rfl] at h
  omega
theorem sow_sm {a : Int64} {w : Int32} (h0 : ¬ w < 0) (h1 : w ≤ 20) (ha : 0 ≤ a.toInt) : sm (a - a / (2 * w + 1).toInt64 * (2 * w + 1).toInt64 - w.toInt64) := by
  have h := sow_d h0 h1
  have hr := rem_int (x := a) (sow_nz h0 h1)
  have h2 := Int.tmod_nonneg (2 * w + 1).toInt64.toInt (a := a.toInt) ha
  have h3 := Int.tmod_lt_of_pos a.toInt (b := (2 * w + 1).toInt64.toInt) (by omega)
  have hw : w.toInt64.toInt = w.toInt := Int32.toInt_toInt64 w
  have e : (a - a / (2 * w + 1).toInt64 * (2 * w + 1).toInt64 - w.toInt64).toInt = a.toInt.tmod (2 * w + 1).toInt64.toInt - w.toInt := by
    rw [Int64.toInt_sub, hr, hw]
    exact Int.bmod_eq_of_le (by omega) (by omega)
  constructor
  · rw [Int64.le_iff_toInt_le, e]
    show (-20 : Int) ≤ _
    omega
  · rw [Int64.le_iff_toInt_le, e]
    show _ ≤ (20 : Int)
    omega
theorem div64 {x : Int64} (h : 0 ≤ x.toInt) : 0 ≤ (x / 64).toInt := by
  have h1 := Int64.toInt_lt x
  rw [Int64.toInt_div, show (64 : Int64).toInt = 64 from rfl]
  have h2 := Int.tdiv_nonneg h (by decide : (0 : Int) ≤ 64)
  have h3 := Int.tdiv_le_self (b := 64) h
  rw [Int.bmod_eq_of_le (by omega) (by omega)]
  exact h2
theorem seed_x {v : Int32} (h0 : ¬ v < 0) (h1 : ¬ 65535 < v) : 0 ≤ v.toInt64.toInt ∧ v.toInt64.toInt < 65536 := by
  rw [i32_lt] at h0 h1
  rw [show (0 : Int32).toInt = 0 from rfl] at h0
  rw [show (65535 : Int32).toInt = 65535 from rfl] at h1
  rw [Int32.toInt_toInt64]
  omega
theorem shr0 {z : Int32} {R : Nat} (hR : R < 6) (h1 : ¬ z < 1) (h : z >>> ((nI R) &&& 31) = 0) : ∃ x, 0 < x ∧ x < 2 ^ R ∧ z = nI x := by
  have hn : ¬ z < 0 := fun e => h1 (Int32.lt_trans e (by decide))
  obtain ⟨j, hj, rfl⟩ := nI_of hn
  have h1 : ¬ nI j < nI 1 := h1
  rw [nI_ltI hj (by omega)] at h1
  refine ⟨j, by omega, ?_, rfl⟩
  have hb : ((nI R) &&& 31 : Int32).toBitVec = BitVec.ofNat 32 R := (by decide +kernel : ∀ R, R < 6 → ((nI R) &&& 31 : Int32).toBitVec = BitVec.ofNat 32 R) R hR
  have hs : (BitVec.ofNat 32 R).smod 32 = BitVec.ofNat 32 R := (by decide +kernel : ∀ R, R < 6 → (BitVec.ofNat 32 R).smod 32 = BitVec.ofNat 32 R) R hR
  have e := congrArg (fun z => z.toBitVec.toInt) h
  simp only [Int32.toBitVec_shiftRight, hb, hs, BitVec.toInt_sshiftRight'] at e
  have e1 : (nI j).toBitVec.toInt = (j : Int) := nI_toInt hj
  have e2 : (BitVec.ofNat 32 R).toNat = R := by
    rw [BitVec.toNat_ofNat]
    exact Nat.mod_eq_of_lt (by omega)
  rw [e1, e2] at e
  have e3 : ((j >>> R : Nat) : Int) = 0 := e
  have e4 : j >>> R = 0 := by omega
  rw [Nat.shiftRight_eq_div_pow] at e4
  exact (Nat.div_eq_zero_iff_lt (Nat.two_pow_pos R)).mp e4
theorem mn_six {R C x y : Nat} (hR : R ≤ 4) (hC : C ≤ 5) (h1 : 0 < x) (h2 : x < 2 ^ R) (h3 : 0 < y) (h4 : y < 2 ^ C) {u v : Int32} (e1 : u = bcE (nI x)) (e2 : v = bcE (nI y)) (h : u = v) : 0 < x ∧ x < 2 ^ R ∧ 0 < y ∧ y < 2 ^ C ∧ pc5 x = pc5 x ∧ pc5 y = pc5 x := by
  refine ⟨h1, h2, h3, h4, rfl, ?_⟩
  have a1 := p32 (by omega) h2
  have a2 := p32 hC h4
  exact (dv_pc e1 rfl e2 h.symm a1 a2).symm
theorem how_no {z : Int32} (h0 : ¬ z < 0) (h2 : z ≤ 2) (a : ¬ z = 2) (b : ¬ z = 0) (c : ¬ z = 1) : False := by
  obtain ⟨j, hj, rfl⟩ := nI_of h0
  have h2 : nI j ≤ nI 2 := h2
  have a : ¬ nI j = nI 2 := a
  have b : ¬ nI j = nI 0 := b
  have c : ¬ nI j = nI 1 := c
  rw [nI_leI hj (by omega)] at h2
  rw [nI_eq hj (by omega)] at a b c
  omega

noncomputable def D_X10_sow_74 (r : Nat → Nat) (y : Int32) (v : Int32) (lb61 : Nat → Int64 → (Nat → Nat → Int64) → Int32 × (Nat → Nat) × (Nat → Nat → Int64) × (Nat → Int32)) (y7_61 : Nat) (nn : Nat) : Nat → Int64 → (Nat → Nat → Int64) → Int32 × (Nat → Nat) × (Nat → Nat → Int64) × (Nat → Int32) := @Nat.rec (fun _ => Nat → Int64 → (Nat → Nat → Int64) → Int32 × (Nat → Nat) × (Nat → Nat → Int64) × (Nat → Int32)) (fun _ _ _ => default) (fun _ lb74 (y8_74 : Nat) (y5_74 : Int64) (F_74 : Nat → Nat → Int64) => (if (r (2 * y.toNatClampNeg + 1)) ≤ y8_74 then (lb61 (y7_61 + 1) y5_74 F_74) else (lb74 (y8_74 + 1) (((y5_74 * 25173) + 13849) - ((y5_74 * 25173) + 13849) / 65536 * 65536) (va_up F_74 y.toNatClampNeg (vp_updL (F_74 y.toNatClampNeg) (y7_61 * 5 + y8_74) ((((((y5_74 * 25173) + 13849) - ((y5_74 * 25173) + 13849) / 65536 * 65536) / 64) - ((((y5_74 * 25173) + 13849) - ((y5_74 * 25173) + 13849) / 65536 * 65536) / 64) / ((((2 * v) + 1)).toInt64) * ((((2 * v) + 1)).toInt64)) - ((v).toInt64))))))) nn
theorem D_X10_sow_74_s {r : Nat → Nat} {y : Int32} {v : Int32} {lb61 : Nat → Int64 → (Nat → Nat → Int64) → Int32 × (Nat → Nat) × (Nat → Nat → Int64) × (Nat → Int32)} {y7_61 : Nat} {nn : Nat} {y8_74 : Nat} {y5_74 : Int64} {F_74 : Nat → Nat → Int64} : D_X10_sow_74 r y v lb61 y7_61 (nn + 1) y8_74 y5_74 F_74 = (if (r (2 * y.toNatClampNeg + 1)) ≤ y8_74 then (lb61 (y7_61 + 1) y5_74 F_74) else ((D_X10_sow_74 r y v lb61 y7_61 nn) (y8_74 + 1) (((y5_74 * 25173) + 13849) - ((y5_74 * 25173) + 13849) / 65536 * 65536) (va_up F_74 y.toNatClampNeg (vp_updL (F_74 y.toNatClampNeg) (y7_61 * 5 + y8_74) ((((((y5_74 * 25173) + 13849) - ((y5_74 * 25173) + 13849) / 65536 * 65536) / 64) - ((((y5_74 * 25173) + 13849) - ((y5_74 * 25173) + 13849) / 65536 * 65536) / 64) / ((((2 * v) + 1)).toInt64) * ((((2 * v) + 1)).toInt64)) - ((v).toInt64)))))) := rfl
noncomputable def D_X10_sow_61 (r : Nat → Nat) (q : Nat → Int32) (y : Int32) (v : Int32) (t56 : Int32) (nn : Nat) : Nat → Int64 → (Nat → Nat → Int64) → Int32 × (Nat → Nat) × (Nat → Nat → Int64) × (Nat → Int32) := @Nat.rec (fun _ => Nat → Int64 → (Nat → Nat → Int64) → Int32 × (Nat → Nat) × (Nat → Nat → Int64) × (Nat → Int32)) (fun _ _ _ => default) (fun _ lb61 (y7_61 : Nat) (y5_61 : Int64) (F_61 : Nat → Nat → Int64) => (if (r (2 * y.toNatClampNeg)) ≤ y7_61 then bnd1 (D_X7_others (r (2 * y.toNatClampNeg)) (r (2 * y.toNatClampNeg + 1)) (F_61 y.toNatClampNeg)) (fun (x74 : Int32) => ((nI ((r (2 * y.toNatClampNeg)) * (r (2 * y.toNatClampNeg + 1)))) - x74, r, F_61, va_up (va_up q 3 t56) 0 (((va_up q 3 t56) 0) + 1))) else (D_X10_sow_74 r y v lb61 y7_61 ((r (2 * y.toNatClampNeg + 1)) + 1 - 0 + 1) 0 y5_61 F_61))) nn
theorem D_X10_sow_61_s {r : Nat → Nat} {q : Nat → Int32} {y : Int32} {v : Int32} {t56 : Int32} {nn : Nat} {y7_61 : Nat} {y5_61 : Int64} {F_61 : Nat → Nat → Int64} : D_X10_sow_61 r q y v t56 (nn + 1) y7_61 y5_61 F_61 = (if (r (2 * y.toNatClampNeg)) ≤ y7_61 then bnd1 (D_X7_others (r (2 * y.toNatClampNeg)) (r (2 * y.toNatClampNeg + 1)) (F_61 y.toNatClampNeg)) (fun (x74 : Int32) => ((nI ((r (2 * y.toNatClampNeg)) * (r (2 * y.toNatClampNeg + 1)))) - x74, r, F_61, va_up (va_up q 3 t56) 0 (((va_up q 3 t56) 0) + 1))) else (D_X10_sow_74 r y v (D_X10_sow_61 r q y v t56 nn) y7_61 ((r (2 * y.toNatClampNeg + 1)) + 1 - 0 + 1) 0 y5_61 F_61)) := rfl
noncomputable def D_X10_sow (r : Nat → Nat) (f : Nat → Nat → Int64) (q : Nat → Int32) (y : Int32) (z : Int32) (v : Int32) : Int32 × (Nat → Nat) × (Nat → Nat → Int64) × (Nat → Int32) := bnd1 (D_X10_isTable y) (fun (z1 : Int32) => (if z1 = 0 then (if z < 0 then bnd2 (D_X10_isThrown_ (q 0) (q 1) (q 2) (q 3) 1 1) (fun (x7 : Int32) (t8 : Int32) => (0, r, f, va_up q 3 t8)) else (if 65535 < z then bnd2 (D_X10_isThrown_ (q 0) (q 1) (q 2) (q 3) 1 1) (fun (x13 : Int32) (t14 : Int32) => (0, r, f, va_up q 3 t14)) else (if v < 0 then bnd2 (D_X10_isThrown_ (q 0) (q 1) (q 2) (q 3) 1 1) (fun (x19 : Int32) (t20 : Int32) => (0, r, f, va_up q 3 t20)) else (if v ≤ 20 then bnd2 (D_X10_isThrown_ (q 0) (q 1) (q 2) (q 3) 1 0) (fun (x25 : Int32) (t26 : Int32) => (0, r, f, va_up q 3 t26)) else bnd2 (D_X10_isThrown_ (q 0) (q 1) (q 2) (q 3) 1 1) (fun (x30 : Int32) (t31 : Int32) => (0, r, f, va_up q 3 t31)))))) else (if z < 0 then bnd2 (D_X10_isThrown_ (q 0) (q 1) (q 2) (q 3) 0 1) (fun (x37 : Int32) (t38 : Int32) => (0, r, f, va_up q 3 t38)) else (if 65535 < z then bnd2 (D_X10_isThrown_ (q 0) (q 1) (q 2) (q 3) 0 1) (fun (x43 : Int32) (t44 : Int32) => (0, r, f, va_up q 3 t44)) else (if v < 0 then bnd2 (D_X10_isThrown_ (q 0) (q 1) (q 2) (q 3) 0 1) (fun (x49 : Int32) (t50 : Int32) => (0, r, f, va_up q 3 t50)) else (if v ≤ 20 then bnd2 (D_X10_isThrown_ (q 0) (q 1) (q 2) (q 3) 0 0) (fun (x55 : Int32) (t56 : Int32) => (D_X10_sow_61 r q y v t56 ((r (2 * y.toNatClampNeg)) + 1 - 0 + 1) 0 ((z).toInt64) f)) else bnd2 (D_X10_isThrown_ (q 0) (q 1) (q 2) (q 3) 0 1) (fun (x79 : Int32) (t80 : Int32) => (0, r, f, va_up q 3 t80))))))))
theorem D_X10_sow_s {r : Nat → Nat} {f : Nat → Nat → Int64} {q : Nat → Int32} {y : Int32} {z : Int32} {v : Int32} : D_X10_sow r f q y z v = bnd1 (D_X10_isTable y) (fun (z1 : Int32) => (if z1 = 0 then (if z < 0 then bnd2 (D_X10_isThrown_ (q 0) (q 1) (q 2) (q 3) 1 1) (fun (x7 : Int32) (t8 : Int32) => (0, r, f, va_up q 3 t8)) else (if 65535 < z then bnd2 (D_X10_isThrown_ (q 0) (q 1) (q 2) (q 3) 1 1) (fun (x13 : Int32) (t14 : Int32) => (0, r, f, va_up q 3 t14)) else (if v < 0 then bnd2 (D_X10_isThrown_ (q 0) (q 1) (q 2) (q 3) 1 1) (fun (x19 : Int32) (t20 : Int32) => (0, r, f, va_up q 3 t20)) else (if v ≤ 20 then bnd2 (D_X10_isThrown_ (q 0) (q 1) (q 2) (q 3) 1 0) (fun (x25 : Int32) (t26 : Int32) => (0, r, f, va_up q 3 t26)) else bnd2 (D_X10_isThrown_ (q 0) (q 1) (q 2) (q 3) 1 1) (fun (x30 : Int32) (t31 : Int32) => (0, r, f, va_up q 3 t31)))))) else (if z < 0 then bnd2 (D_X10_isThrown_ (q 0) (q 1) (q 2) (q 3) 0 1) (fun (x37 : Int32) (t38 : Int32) => (0, r, f, va_up q 3 t38)) else (if 65535 < z then bnd2 (D_X10_isThrown_ (q 0) (q 1) (q 2) (q 3) 0 1) (fun (x43 : Int32) (t44 : Int32) => (0, r, f, va_up q 3 t44)) else (if v < 0 then bnd2 (D_X10_isThrown_ (q 0) (q 1) (q 2) (q 3) 0 1) (fun (x49 : Int32) (t50 : Int32) => (0, r, f, va_up q 3 t50)) else (if v ≤ 20 then bnd2 (D_X10_isThrown_ (q 0) (q 1) (q 2) (q 3) 0 0) (fun (x55 : Int32) (t56 : Int32) => (D_X10_sow_61 r q y v t56 ((r (2 * y.toNatClampNeg)) + 1 - 0 + 1) 0 ((z).toInt64) f)) else bnd2 (D_X10_isThrown_ (q 0) (q 1) (q 2) (q 3) 0 1) (fun (x79 : Int32) (t80 : Int32) => (0, r, f, va_up q 3 t80)))))))) := rfl
set_option maxHeartbeats 4000000 in
set_option maxRecDepth 100000 in
theorem k_X10_sow (κ : Kt) (l : Launch) (w : va_W) (a r : Nat → Nat) (f : Nat → Nat → Int64) (q : Nat → Int32) (y : Int32) (z : Int32) (v : Int32) (hm : mok r f) (o_x : Int32) (o_r' : Nat → Nat) (o_f' : Nat → Nat → Int64) (o_q' : Nat → Int32) (hR : D_X10_sow r f q y z v = (o_x, o_r', o_f', o_q')) : CM κ l yX10_sow cX10_sow 9 (some .int) 2 45 0 0 [.ref (a 0), .int y, .int z, .int v] (mw κ a r f q (tb a) w) (fun o w' => ∃ (a' : Nat → Nat), o = some (.int o_x) ∧ (a' 0 = a 0) ∧ (mok o_r' o_f') ∧ (o_q' 2 = q 2) ∧ w' = mw κ a' o_r' o_f' o_q' (tb a') w) := by
  refine CM_begin (plainFor_of_name (by decide)) (Nat.le_of_ble_eq_true rfl) ?_
  intro p e s m args below meth c A Q hX hnm hA3 hQ hB ls hl
  have hx := hX.1.1
  have hb := hX.1.2.1
  have hl : lv_has ls 9 [(0, .ref (a 0)), (1, .int y), (2, .int z), (3, .int v)] := hl
  replace hR := (D_X10_sow_s).symm.trans hR
  refine lv_aload_n hx hb dX10_sow_0 rfl (lv_at hl 0 rfl) ?_
  refine lv_iload_n hx hb dX10_sow_1 rfl (lv_at hl 1 rfl) ?_
  obtain ⟨z1, hd2⟩ := ex1 (D_X10_isTable y)
  replace hR := bnd1_use hd2 hR
  refine call_S (n := 1) (As := [.int y]) (rest := [.ref (a 0)]) hX hB (k_X10_isTable κ l (mw κ a r f q (tb a) w) y z1 hd2) ⟨by decide, by decide, by decide +kernel⟩ wm_5_186 wm_5_187 wm_1_6 wm_5_188 ⟨Nat.le_of_ble_eq_true rfl, Nat.le_of_ble_eq_true rfl⟩ ⟨Nat.le_of_ble_eq_true rfl, Nat.le_of_ble_eq_true rfl⟩ rfl hl.1 rfl (Nat.le_of_ble_eq_true rfl) dX10_sow_2 (fun o w' H locs hp hB => ?_)
  obtain ⟨rfl, hf3, hw9⟩ := hp
  replace hB : Bd κ A s (mw κ a r f q (tb a) w) H locs := by rw [hw9] at hB; exact hB
  rcases hf3 with rfl | ⟨rfl, hz4a, hz4b⟩
  · replace hR := ifp rfl hR
    refine W.eq (g2 := F0 m 5 ls [.int 0, .ref (a 0)]) rfl ?_
    refine lv_if_ne (tgt := 12) hx hb dX10_sow_5 (by decide) (fun c5 => False.elim (by revert c5; decide)) (fun _ => ?_)
    refine lv_iconst (v := 1) hx hb dX10_sow_8 (by decide) ?_
    refine lv_goto (tgt := 13) hx hb dX10_sow_9 (by decide) ?_
    refine lv_iload_n hx hb dX10_sow_13 rfl (lv_at hl 2 rfl) ?_
    refine lv_if_lt (tgt := 33) hx hb dX10_sow_14 (by decide) (fun c6 => ?_) (fun c6 => ?_)
    · replace hR := ifp c6 hR
      refine lv_iconst (v := 1) hx hb dX10_sow_33 (by decide) ?_
      refine lv_goto (tgt := 38) hx hb dX10_sow_34 (by decide) ?_
      obtain ⟨x7, t8, hd9⟩ := ex2 (D_X10_isThrown_ (q 0) (q 1) (q 2) (q 3) 1 1)
      replace hR := bnd2_use hd9 hR
      refine call_V (n := 2) (k0 := 0) (As := [.int 1, .int 1]) (rest := []) hX hB (k_X10_isThrown_ κ l (mw κ a r f q (tb a) w) 0 (a 0) (a 1) (q 0) (q 1) (q 2) (q 3) 1 1 (mw0x (a := a) (r := r) (f := f) (q := q) (T := tb a) (w := w) rfl) x7 t8 hd9) ⟨rfl, by decide, by decide, by decide +kernel⟩ wm_5_192 wm_5_194 wp_27 wm_1_6 wm_5_195 ⟨Nat.le_of_ble_eq_true rfl, Nat.le_of_ble_eq_true rfl⟩ ⟨Nat.le_of_ble_eq_true rfl, Nat.le_of_ble_eq_true rfl⟩ (mw0x (a := a) (r := r) (f := f) (q := q) (T := tb a) (w := w) rfl) rfl rfl rfl hl.1 rfl (Nat.le_of_ble_eq_true rfl) dX10_sow_38 (fun o w' H locs hp hB => ?_)
      obtain ⟨rfl, hf10, hw9⟩ := hp
      replace hB : Bd κ A s (mw κ a r f (va_up q 3 t8) (tb a) w) H locs := by exact Bd_eq (mwQ3x rfl _) (by rw [hw9] at hB; exact hB)
      obtain rfl : x7 = 1 := hf10.trans (by decide)
      refine W.eq (g2 := F0 m 41 ls [.int 1]) rfl ?_
      refine lv_if_eq (tgt := 46) hx hb dX10_sow_41 (by decide) (fun c11 => False.elim (by revert c11; decide)) (fun _ => ?_)
      refine lv_iconst (v := 0) hx hb dX10_sow_44 (by decide) ?_
      rw [← hQ]
      exact end_i hX hB hA3 rfl rfl (by obtain ⟨rfl, rfl, rfl, rfl⟩ := pr4 hR; exact ⟨a, rfl, rfl, hm, rfl, rfl⟩) (Nat.le_of_ble_eq_true rfl) (Nat.le_of_ble_eq_true rfl) dX10_sow_45
    · replace hR := ifn c6 hR
      refine lv_iload_n hx hb dX10_sow_17 rfl (lv_at hl 2 rfl) ?_
      refine lv_ldc (own := RX10) (v := 65535) hx hb hX.1.2.2.2.1 (hX.1.2.2.2.2 _ wm_6_6) dX10_sow_18 ?_
      refine lv_icmp_gt (tgt := 33) hx hb dX10_sow_20 (by decide) (fun c12 => ?_) (fun c12 => ?_)
      · replace hR := ifp c12 hR
        refine lv_iconst (v := 1) hx hb dX10_sow_33 (by decide) ?_
        refine lv_goto (tgt := 38) hx hb dX10_sow_34 (by decide) ?_
        obtain ⟨x13, t14, hd15⟩ := ex2 (D_X10_isThrown_ (q 0) (q 1) (q 2) (q 3) 1 1)
        replace hR := bnd2_use hd15 hR
        refine call_V (n := 2) (k0 := 0) (As := [.int 1, .int 1]) (rest := []) hX hB (k_X10_isThrown_ κ l (mw κ a r f q (tb a) w) 0 (a 0) (a 1) (q 0) (q 1) (q 2) (q 3) 1 1 (mw0x (a := a) (r := r) (f := f) (q := q) (T := tb a) (w := w) rfl) x13 t14 hd15) ⟨rfl, by decide, by decide, by decide +kernel⟩ wm_5_192 wm_5_194 wp_27 wm_1_6 wm_5_195 ⟨Nat.le_of_ble_eq_true rfl, Nat.le_of_ble_eq_true rfl⟩ ⟨Nat.le_of_ble_eq_true rfl, Nat.le_of_ble_eq_true rfl⟩ (mw0x (a := a) (r := r) (f := f) (q := q) (T := tb a) (w := w) rfl) rfl rfl rfl hl.1 rfl (Nat.le_of_ble_eq_true rfl) dX10_sow_38 (fun o w' H locs hp hB => ?_)
        obtain ⟨rfl, hf16, hw9⟩ := hp
        replace hB : Bd κ A s (mw κ a r f (va_up q 3 t14) (tb a) w) H locs := by exact Bd_eq (mwQ3x rfl _) (by rw [hw9] at hB; exact hB)
        obtain rfl : x13 = 1 := hf16.trans (by decide)
        refine W.eq (g2 := F0 m 41 ls [.int 1]) rfl ?_
        refine lv_if_eq (tgt := 46) hx hb dX10_sow_41 (by decide) (fun c17 => False.elim (by revert c17; decide)) (fun _ => ?_)
        refine lv_iconst (v := 0) hx hb dX10_sow_44 (by decide) ?_
        rw [← hQ]
        exact end_i hX hB hA3 rfl rfl (by obtain ⟨rfl, rfl, rfl, rfl⟩ := pr4 hR; exact ⟨a, rfl, rfl, hm, rfl, rfl⟩) (Nat.le_of_ble_eq_true rfl) (Nat.le_of_ble_eq_true rfl) dX10_sow_45
      · replace hR := ifn c12 hR
        refine lv_iload_n hx hb dX10_sow_23 rfl (lv_at hl 3 rfl) ?_
        refine lv_if_lt (tgt := 33) hx hb dX10_sow_24 (by decide) (fun c18 => ?_) (fun c18 => ?_)
        · replace hR := ifp c18 hR
          refine lv_iconst (v := 1) hx hb dX10_sow_33 (by decide) ?_
          refine lv_goto (tgt := 38) hx hb dX10_sow_34 (by decide) ?_
          obtain ⟨x19, t20, hd21⟩ := ex2 (D_X10_isThrown_ (q 0) (q 1) (q 2) (q 3) 1 1)
          replace hR := bnd2_use hd21 hR
          refine call_V (n := 2) (k0 := 0) (As := [.int 1, .int 1]) (rest := []) hX hB (k_X10_isThrown_ κ l (mw κ a r f q (tb a) w) 0 (a 0) (a 1) (q 0) (q 1) (q 2) (q 3) 1 1 (mw0x (a := a) (r := r) (f := f) (q := q) (T := tb a) (w := w) rfl) x19 t20 hd21) ⟨rfl, by decide, by decide, by decide +kernel⟩ wm_5_192 wm_5_194 wp_27 wm_1_6 wm_5_195 ⟨Nat.le_of_ble_eq_true rfl, Nat.le_of_ble_eq_true rfl⟩ ⟨Nat.le_of_ble_eq_true rfl, Nat.le_of_ble_eq_true rfl⟩ (mw0x (a := a) (r := r) (f := f) (q := q) (T := tb a) (w := w) rfl) rfl rfl rfl hl.1 rfl (Nat.le_of_ble_eq_true rfl) dX10_sow_38 (fun o w' H locs hp hB => ?_)
          obtain ⟨rfl, hf22, hw9⟩ := hp
          replace hB : Bd κ A s (mw κ a r f (va_up q 3 t20) (tb a) w) H locs := by exact Bd_eq (mwQ3x rfl _) (by rw [hw9] at hB; exact hB)
          obtain rfl : x19 = 1 := hf22.trans (by decide)
          refine W.eq (g2 := F0 m 41 ls [.int 1]) rfl ?_
          refine lv_if_eq (tgt := 46) hx hb dX10_sow_41 (by decide) (fun c23 => False.elim (by revert c23; decide)) (fun _ => ?_)
          refine lv_iconst (v := 0) hx hb dX10_sow_44 (by decide) ?_
          rw [← hQ]
          exact end_i hX hB hA3 rfl rfl (by obtain ⟨rfl, rfl, rfl, rfl⟩ := pr4 hR; exact ⟨a, rfl, rfl, hm, rfl, rfl⟩) (Nat.le_of_ble_eq_true rfl) (Nat.le_of_ble_eq_true rfl) dX10_sow_45
        · replace hR := ifn c18 hR
          refine lv_iload_n hx hb dX10_sow_27 rfl (lv_at hl 3 rfl) ?_
          refine lv_bipush (v := 20) hx hb dX10_sow_28 (by decide) ?_
          refine lv_icmp_le (tgt := 37) hx hb dX10_sow_30 (by decide) (fun c24 => ?_) (fun c24 => ?_)
          · replace hR := ifp c24 hR
            refine lv_iconst (v := 0) hx hb dX10_sow_37 (by decide) ?_
            obtain ⟨x25, t26, hd27⟩ := ex2 (D_X10_isThrown_ (q 0) (q 1) (q 2) (q 3) 1 0)
            replace hR := bnd2_use hd27 hR
            refine call_V (n := 2) (k0 := 0) (As := [.int 1, .int 0]) (rest := []) hX hB (k_X10_isThrown_ κ l (mw κ a r f q (tb a) w) 0 (a 0) (a 1) (q 0) (q 1) (q 2) (q 3) 1 0 (mw0x (a := a) (r := r) (f := f) (q := q) (T := tb a) (w := w) rfl) x25 t26 hd27) ⟨rfl, by decide, by decide, by decide +kernel⟩ wm_5_192 wm_5_194 wp_27 wm_1_6 wm_5_195 ⟨Nat.le_of_ble_eq_true rfl, Nat.le_of_ble_eq_true rfl⟩ ⟨Nat.le_of_ble_eq_true rfl, Nat.le_of_ble_eq_true rfl⟩ (mw0x (a := a) (r := r) (f := f) (q := q) (T := tb a) (w := w) rfl) rfl rfl rfl hl.1 rfl (Nat.le_of_ble_eq_true rfl) dX10_sow_38 (fun o w' H locs hp hB => ?_)
            obtain ⟨rfl, hf28, hw9⟩ := hp
            replace hB : Bd κ A s (mw κ a r f (va_up q 3 t26) (tb a) w) H locs := by exact Bd_eq (mwQ3x rfl _) (by rw [hw9] at hB; exact hB)
            obtain rfl : x25 = 1 := hf28.trans (by decide)
            refine W.eq (g2 := F0 m 41 ls [.int 1]) rfl ?_
            refine lv_if_eq (tgt := 46) hx hb dX10_sow_41 (by decide) (fun c29 => False.elim (by revert c29; decide)) (fun _ => ?_)
            refine lv_iconst (v := 0) hx hb dX10_sow_44 (by decide) ?_
            rw [← hQ]
            exact end_i hX hB hA3 rfl rfl (by obtain ⟨rfl, rfl, rfl, rfl⟩ := pr4 hR; exact ⟨a, rfl, rfl, hm, rfl, rfl⟩) (Nat.le_of_ble_eq_true rfl) (Nat.le_of_ble_eq_true rfl) dX10_sow_45
          · replace hR := ifn c24 hR
            refine lv_iconst (v := 1) hx hb dX10_sow_33 (by decide) ?_
            refine lv_goto (tgt := 38) hx hb dX10_sow_34 (by decide) ?_
            obtain ⟨x30, t31, hd32⟩ := ex2 (D_X10_isThrown_ (q 0) (q 1) (q 2) (q 3) 1 1)
            replace hR := bnd2_use hd32 hR
            refine call_V (n := 2) (k0 := 0) (As := [.int 1, .int 1]) (rest := []) hX hB (k_X10_isThrown_ κ l (mw κ a r f q (tb a) w) 0 (a 0) (a 1) (q 0) (q 1) (q 2) (q 3) 1 1 (mw0x (a := a) (r := r) (f := f) (q := q) (T := tb a) (w := w) rfl) x30 t31 hd32) ⟨rfl, by decide, by decide, by decide +kernel⟩ wm_5_192 wm_5_194 wp_27 wm_1_6 wm_5_195 ⟨Nat.le_of_ble_eq_true rfl, Nat.le_of_ble_eq_true rfl⟩ ⟨Nat.le_of_ble_eq_true rfl, Nat.le_of_ble_eq_true rfl⟩ (mw0x (a := a) (r := r) (f := f) (q := q) (T := tb a) (w := w) rfl) rfl rfl rfl hl.1 rfl (Nat.le_of_ble_eq_true rfl) dX10_sow_38 (fun o w' H locs hp hB => ?_)
            obtain ⟨rfl, hf33, hw9⟩ := hp
            replace hB : Bd κ A s (mw κ a r f (va_up q 3 t31) (tb a) w) H locs := by exact Bd_eq (mwQ3x rfl _) (by rw [hw9] at hB; exact hB)
            obtain rfl : x30 = 1 := hf33.trans (by decide)
            refine W.eq (g2 := F0 m 41 ls [.int 1]) rfl ?_
            refine lv_if_eq (tgt := 46) hx hb dX10_sow_41 (by decide) (fun c34 => False.elim (by revert c34; decide)) (fun _ => ?_)
            refine lv_iconst (v := 0) hx hb dX10_sow_44 (by decide) ?_
            rw [← hQ]
            exact end_i hX hB hA3 rfl rfl (by obtain ⟨rfl, rfl, rfl, rfl⟩ := pr4 hR; exact ⟨a, rfl, rfl, hm, rfl, rfl⟩) (Nat.le_of_ble_eq_true rfl) (Nat.le_of_ble_eq_true rfl) dX10_sow_45
  · replace hR := ifn (by decide) hR
    refine W.eq (g2 := F0 m 5 ls [.int 1, .ref (a 0)]) rfl ?_
    refine lv_if_ne (tgt := 12) hx hb dX10_sow_5 (by decide) (fun _ => ?_) (fun c35 => False.elim (by revert c35; decide))
    refine lv_iconst (v := 0) hx hb dX10_sow_12 (by decide) ?_
    refine lv_iload_n hx hb dX10_sow_13 rfl (lv_at hl 2 rfl) ?_
    refine lv_if_lt (tgt := 33) hx hb dX10_sow_14 (by decide) (fun c36 => ?_) (fun c36 => ?_)
    · replace hR := ifp c36 hR
      refine lv_iconst (v := 1) hx hb dX10_sow_33 (by decide) ?_
      refine lv_goto (tgt := 38) hx hb dX10_sow_34 (by decide) ?_
      obtain ⟨x37, t38, hd39⟩ := ex2 (D_X10_isThrown_ (q 0) (q 1) (q 2) (q 3) 0 1)
      replace hR := bnd2_use hd39 hR
      refine call_V (n := 2) (k0 := 0) (As := [.int 0, .int 1]) (rest := []) hX hB (k_X10_isThrown_ κ l (mw κ a r f q (tb a) w) 0 (a 0) (a 1) (q 0) (q 1) (q 2) (q 3) 0 1 (mw0x (a := a) (r := r) (f := f) (q := q) (T := tb a) (w := w) rfl) x37 t38 hd39) ⟨rfl, by decide, by decide, by decide +kernel⟩ wm_5_192 wm_5_194 wp_27 wm_1_6 wm_5_195 ⟨Nat.le_of_ble_eq_true rfl, Nat.le_of_ble_eq_true rfl⟩ ⟨Nat.le_of_ble_eq_true rfl, Nat.le_of_ble_eq_true rfl⟩ (mw0x (a := a) (r := r) (f := f) (q := q) (T := tb a) (w := w) rfl) rfl rfl rfl hl.1 rfl (Nat.le_of_ble_eq_true rfl) dX10_sow_38 (fun o w' H locs hp hB => ?_)
      obtain ⟨rfl, hf40, hw9⟩ := hp
      replace hB : Bd κ A s (mw κ a r f (va_up q 3 t38) (tb a) w) H locs := by exact Bd_eq (mwQ3x rfl _) (by rw [hw9] at hB; exact hB)
      obtain rfl : x37 = 1 := hf40.trans (by decide)
      refine W.eq (g2 := F0 m 41 ls [.int 1]) rfl ?_
      refine lv_if_eq (tgt := 46) hx hb dX10_sow_41 (by decide) (fun c41 => False.elim (by revert c41; decide)) (fun _ => ?_)
      refine lv_iconst (v := 0) hx hb dX10_sow_44 (by decide) ?_
      rw [← hQ]
      exact end_i hX hB hA3 rfl rfl (by obtain ⟨rfl, rfl, rfl, rfl⟩ := pr4 hR; exact ⟨a, rfl, rfl, hm, rfl, rfl⟩) (Nat.le_of_ble_eq_true rfl) (Nat.le_of_ble_eq_true rfl) dX10_sow_45
    · replace hR := ifn c36 hR
      refine lv_iload_n hx hb dX10_sow_17 rfl (lv_at hl 2 rfl) ?_
      refine lv_ldc (own := RX10) (v := 65535) hx hb hX.1.2.2.2.1 (hX.1.2.2.2.2 _ wm_6_6) dX10_sow_18 ?_
      refine lv_icmp_gt (tgt := 33) hx hb dX10_sow_20 (by decide) (fun c42 => ?_) (fun c42 => ?_)
      · replace hR := ifp c42 hR
        refine lv_iconst (v := 1) hx hb dX10_sow_33 (by decide) ?_
        refine lv_goto (tgt := 38) hx hb dX10_sow_34 (by decide) ?_
        obtain ⟨x43, t44, hd45⟩ := ex2 (D_X10_isThrown_ (q 0) (q 1) (q 2) (q 3) 0 1)
        replace hR := bnd2_use hd45 hR
        refine call_V (n := 2) (k0 := 0) (As := [.int 0, .int 1]) (rest := []) hX hB (k_X10_isThrown_ κ l (mw κ a r f q (tb a) w) 0 (a 0) (a 1) (q 0) (q 1) (q 2) (q 3) 0 1 (mw0x (a := a) (r := r) (f := f) (q := q) (T := tb a) (w := w) rfl) x43 t44 hd45) ⟨rfl, by decide, by decide, by decide +kernel⟩ wm_5_192 wm_5_194 wp_27 wm_1_6 wm_5_195 ⟨Nat.le_of_ble_eq_true rfl, Nat.le_of_ble_eq_true rfl⟩ ⟨Nat.le_of_ble_eq_true rfl, Nat.le_of_ble_eq_true rfl⟩ (mw0x (a := a) (r := r) (f := f) (q := q) (T := tb a) (w := w) rfl) rfl rfl rfl hl.1 rfl (Nat.le_of_ble_eq_true rfl) dX10_sow_38 (fun o w' H locs hp hB => ?_)
        obtain ⟨rfl, hf46, hw9⟩ := hp
        replace hB : Bd κ A s (mw κ a r f (va_up q 3 t44) (tb a) w) H locs := by exact Bd_eq (mwQ3x rfl _) (by rw [hw9] at hB; exact hB)
        obtain rfl : x43 = 1 := hf46.trans (by decide)
        refine W.eq (g2 := F0 m 41 ls [.int 1]) rfl ?_
        refine lv_if_eq (tgt := 46) hx hb dX10_sow_41 (by decide) (fun c47 => False.elim (by revert c47; decide)) (fun _ => ?_)
        refine lv_iconst (v := 0) hx hb dX10_sow_44 (by decide) ?_
        rw [← hQ]
        exact end_i hX hB hA3 rfl rfl (by obtain ⟨rfl, rfl, rfl, rfl⟩ := pr4 hR; exact ⟨a, rfl, rfl, hm, rfl, rfl⟩) (Nat.le_of_ble_eq_true rfl) (Nat.le_of_ble_eq_true rfl) dX10_sow_45
      · replace hR := ifn c42 hR
        refine lv_iload_n hx hb dX10_sow_23 rfl (lv_at hl 3 rfl) ?_
        refine lv_if_lt (tgt := 33) hx hb dX10_sow_24 (by decide) (fun c48 => ?_) (fun c48 => ?_)
        · replace hR := ifp c48 hR
          refine lv_iconst (v := 1) hx hb dX10_sow_33 (by decide) ?_
          refine lv_goto (tgt := 38) hx hb dX10_sow_34 (by decide) ?_
          obtain ⟨x49, t50, hd51⟩ := ex2 (D_X10_isThrown_ (q 0) (q 1) (q 2) (q 3) 0 1)
          replace hR := bnd2_use hd51 hR
          refine call_V (n := 2) (k0 := 0) (As := [.int 0, .int 1]) (rest := []) hX hB (k_X10_isThrown_ κ l (mw κ a r f q (tb a) w) 0 (a 0) (a 1) (q 0) (q 1) (q 2) (q 3) 0 1 (mw0x (a := a) (r := r) (f := f) (q := q) (T := tb a) (w := w) rfl) x49 t50 hd51) ⟨rfl, by decide, by decide, by decide +kernel⟩ wm_5_192 wm_5_194 wp_27 wm_1_6 wm_5_195 ⟨Nat.le_of_ble_eq_true rfl, Nat.le_of_ble_eq_true rfl⟩ ⟨Nat.le_of_ble_eq_true rfl, Nat.le_of_ble_eq_true rfl⟩ (mw0x (a := a) (r := r) (f := f) (q := q) (T := tb a) (w := w) rfl) rfl rfl rfl hl.1 rfl (Nat.le_of_ble_eq_true rfl) dX10_sow_38 (fun o w' H locs hp hB => ?_)
          obtain ⟨rfl, hf52, hw9⟩ := hp
          replace hB : Bd κ A s (mw κ a r f (va_up q 3 t50) (tb a) w) H locs := by exact Bd_eq (mwQ3x rfl _) (by rw [hw9] at hB; exact hB)
          obtain rfl : x49 = 1 := hf52.trans (by decide)
          refine W.eq (g2 := F0 m 41 ls [.int 1]) rfl ?_
          refine lv_if_eq (tgt := 46) hx hb dX10_sow_41 (by decide) (fun c53 => False.elim (by revert c53; decide)) (fun _ => ?_)
          refine lv_iconst (v := 0) hx hb dX10_sow_44 (by decide) ?_
          rw [← hQ]
          exact end_i hX hB hA3 rfl rfl (by obtain ⟨rfl, rfl, rfl, rfl⟩ := pr4 hR; exact ⟨a, rfl, rfl, hm, rfl, rfl⟩) (Nat.le_of_ble_eq_true rfl) (Nat.le_of_ble_eq_true rfl) dX10_sow_45
        · replace hR := ifn c48 hR
          refine lv_iload_n hx hb dX10_sow_27 rfl (lv_at hl 3 rfl) ?_
          refine lv_bipush (v := 20) hx hb dX10_sow_28 (by decide) ?_
          refine lv_icmp_le (tgt := 37) hx hb dX10_sow_30 (by decide) (fun c54 => ?_) (fun c54 => ?_)
          · replace hR := ifp c54 hR
            refine lv_iconst (v := 0) hx hb dX10_sow_37 (by decide) ?_
            obtain ⟨x55, t56, hd57⟩ := ex2 (D_X10_isThrown_ (q 0) (q 1) (q 2) (q 3) 0 0)
            replace hR := bnd2_use hd57 hR
            refine call_V (n := 2) (k0 := 0) (As := [.int 0, .int 0]) (rest := []) hX hB (k_X10_isThrown_ κ l (mw κ a r f q (tb a) w) 0 (a 0) (a 1) (q 0) (q 1) (q 2) (q 3) 0 0 (mw0x (a := a) (r := r) (f := f) (q := q) (T := tb a) (w := w) rfl) x55 t56 hd57) ⟨rfl, by decide, by decide, by decide +kernel⟩ wm_5_192 wm_5_194 wp_27 wm_1_6 wm_5_195 ⟨Nat.le_of_ble_eq_true rfl, Nat.le_of_ble_eq_true rfl⟩ ⟨Nat.le_of_ble_eq_true rfl, Nat.le_of_ble_eq_true rfl⟩ (mw0x (a := a) (r := r) (f := f) (q := q) (T := tb a) (w := w) rfl) rfl rfl rfl hl.1 rfl (Nat.le_of_ble_eq_true rfl) dX10_sow_38 (fun o w' H locs hp hB => ?_)
            obtain ⟨rfl, hf58, hw9⟩ := hp
            replace hB : Bd κ A s (mw κ a r f (va_up q 3 t56) (tb a) w) H locs := by exact Bd_eq (mwQ3x rfl _) (by rw [hw9] at hB; exact hB)
            obtain rfl : x55 = 0 := hf58.trans (by decide)
            refine W.eq (g2 := F0 m 41 ls [.int 0]) rfl ?_
            refine lv_if_eq (tgt := 46) hx hb dX10_sow_41 (by decide) (fun _ => ?_) (fun c59 => False.elim (by revert c59; decide))
            refine lv_aload_n hx hb dX10_sow_46 rfl (lv_at hl 0 rfl) ?_
            refine gf (k0 := 0) hX hB (mw0x (a := a) (r := r) (f := f) (q := (va_up q 3 t56)) (T := tb a) (w := w) rfl) rfl in10 0 (by decide) wm_5_162 rfl rfl dX10_sow_47 ?_
            refine lv_iload_n hx hb dX10_sow_50 rfl (lv_at hl 1 rfl) ?_
            refine aaldM (k0 := 1) hX hB (mw1 (a := a) (r := r) (f := f) (q := (va_up q 3 t56)) (T := tb a) (w := w)) (vp_in_mk (by assumption) (by assumption)) rfl dX10_sow_51 ?_
            have hb60 := mok_r hm y.toNatClampNeg (by omega)
            refine lv_astore (lv' := [(4, .ref (a (2 + 2 * y.toNatClampNeg))), (0, .ref (a 0)), (1, .int y), (2, .int z), (3, .int v)]) hx hb dX10_sow_52 hl (by decide) rfl (fun ls hl => ?_)
            refine lv_iload_n hx hb dX10_sow_54 rfl (lv_at hl 3 rfl) ?_
            refine lv_i2l hx hb dX10_sow_55 rfl ?_
            refine lv_lstore (lv' := [(5, .long ((z).toInt64)), (4, .ref (a (2 + 2 * y.toNatClampNeg))), (0, .ref (a 0)), (1, .int y), (2, .int z), (3, .int v)]) hx hb dX10_sow_56 hl (by decide) rfl (fun ls hl => ?_)
            refine lv_iconst (v := 0) hx hb dX10_sow_58 (by decide) ?_
            refine lv_istore (lv' := [(7, .int 0), (5, .long ((z).toInt64)), (4, .ref (a (2 + 2 * y.toNatClampNeg))), (0, .ref (a 0)), (1, .int y), (2, .int z), (3, .int v)]) hx hb dX10_sow_59 hl (by decide) rfl (fun ls hl => ?_)
            have lp61 : ∀ (nn61 : Nat) (y7_61 : Nat) (y5_61 : Int64) (F_61 : Nat → Nat → Int64) (H : Heap) (locs : List Loc), (y7_61 ≤ (r (2 * y.toNatClampNeg))) → (0 ≤ (y5_61).toInt ∧ (y5_61).toInt < 65536) → (mok r F_61) → (r (2 * y.toNatClampNeg)) + 1 - y7_61 < nn61 → D_X10_sow_61 r q y v t56 nn61 y7_61 y5_61 F_61 = (o_x, o_r', o_f', o_q') → Bd κ A s (mw κ a r F_61 (va_up q 3 t56) (tb a) w) H locs → ∀ ls : Array Slot, lv_has ls 9 [(7, .int (nI y7_61)), (5, .long y5_61), (4, .ref (a (2 + 2 * y.toNatClampNeg))), (0, .ref (a 0)), (1, .int y), (2, .int z), (3, .int v)] → W p l e (Rm 2 45 0 0) s m args below meth c H locs (0) (0) Q (F0 m 61 ls []) := by
              intro nn61
              induction nn61 with
              | zero => intro y7_61 y5_61 F_61 H locs hn7_61 hx61 hk61 hμ; exact absurd hμ (Nat.not_lt_zero _)
              | succ nn61 ih61 =>
                intro y7_61 y5_61 F_61 H locs hn7_61 hx61 hk61 hμ61 hR hB ls hl
                replace hR := (D_X10_sow_61_s).symm.trans hR
                refine lv_iload hx hb dX10_sow_61 (lv_at hl 0 rfl) ?_
                refine lv_aload hx hb dX10_sow_63 (lv_at hl 2 rfl) ?_
                refine gf (k0 := 2 + 2 * y.toNatClampNeg) hX hB (mwG (i := y.toNatClampNeg) (a := a) (r := r) (f := F_61) (q := (va_up q 3 t56)) (T := tb a) (w := w) (by omega)) rfl in7 0 (by decide) wm_5_148 rfl rfl dX10_sow_65 ?_
                refine lv_icmp_ge (tgt := 137) hx hb dX10_sow_68 (by decide) (fun c73 => ?_) (fun c73 => ?_)
                · rw [nleP (a := r (2 * y.toNatClampNeg)) (b := y7_61) (by omega) (by omega)] at c73
                  replace hR := ifp c73 hR
                  refine lv_aload_n hx hb dX10_sow_137 rfl (lv_at hl 3 rfl) ?_
                  refine lv_aload hx hb dX10_sow_138 (lv_at hl 2 rfl) ?_
                  refine gf (k0 := 2 + 2 * y.toNatClampNeg) hX hB (mwG (i := y.toNatClampNeg) (a := a) (r := r) (f := F_61) (q := (va_up q 3 t56)) (T := tb a) (w := w) (by omega)) rfl in7 0 (by decide) wm_5_148 rfl rfl dX10_sow_140 ?_
                  refine lv_aload hx hb dX10_sow_143 (lv_at hl 2 rfl) ?_
                  refine gf (k0 := 2 + 2 * y.toNatClampNeg) hX hB (mwG (i := y.toNatClampNeg) (a := a) (r := r) (f := F_61) (q := (va_up q 3 t56)) (T := tb a) (w := w) (by omega)) rfl in7 1 (by decide) wm_5_152 rfl rfl dX10_sow_145 ?_
                  refine lv_imul hx hb dX10_sow_148 ?_
                  refine eqi (y := nI ((r (2 * y.toNatClampNeg)) * (r (2 * y.toNatClampNeg + 1)))) (nI_mul (r (2 * y.toNatClampNeg)) (r (2 * y.toNatClampNeg + 1))) ?_
                  refine lv_aload hx hb dX10_sow_149 (lv_at hl 2 rfl) ?_
                  obtain ⟨x74, hd75⟩ := ex1 (D_X7_others (r (2 * y.toNatClampNeg)) (r (2 * y.toNatClampNeg + 1)) (F_61 y.toNatClampNeg))
                  replace hR := bnd1_use hd75 hR
                  refine call_V (n := 0) (k0 := (2 + 2 * y.toNatClampNeg)) (As := []) (rest := [.int (nI ((r (2 * y.toNatClampNeg)) * (r (2 * y.toNatClampNeg + 1)))), .ref (a 0)]) hX hB (k_X7_others κ l (mw κ a r F_61 (va_up q 3 t56) (tb a) w) (2 + 2 * y.toNatClampNeg) (3 + 2 * y.toNatClampNeg) (a (2 + 2 * y.toNatClampNeg)) (a (3 + 2 * y.toNatClampNeg)) (r (2 * y.toNatClampNeg)) (r (2 * y.toNatClampNeg + 1)) (F_61 y.toNatClampNeg) (mwG (i := y.toNatClampNeg) (a := a) (r := r) (f := F_61) (q := (va_up q 3 t56)) (T := tb a) (w := w) (by omega)) (mwA (i := y.toNatClampNeg) (a := a) (r := r) (f := F_61) (q := (va_up q 3 t56)) (T := tb a) (w := w) (by omega)) (mok_shp (i := y.toNatClampNeg) hm (by omega)) x74 hd75) ⟨rfl, by decide, by decide, by decide +kernel⟩ wm_5_204 wm_5_205 wm_5_206 wm_1_7 wm_5_207 ⟨Nat.le_of_ble_eq_true rfl, Nat.le_of_ble_eq_true rfl⟩ ⟨Nat.le_of_ble_eq_true rfl, Nat.le_of_ble_eq_true rfl⟩ (mwG (i := y.toNatClampNeg) (a := a) (r := r) (f := F_61) (q := (va_up q 3 t56)) (T := tb a) (w := w) (by omega)) rfl rfl rfl hl.1 rfl (Nat.le_of_ble_eq_true rfl) dX10_sow_151 (fun o w' H locs hp hB => ?_)
                  obtain ⟨rfl, hw9⟩ := hp
                  replace hB : Bd κ A s (mw κ a r F_61 (va_up q 3 t56) (tb a) w) H locs := by rw [hw9] at hB; exact hB
                  refine W.eq (g2 := F0 m 154 ls [.int x74, .int (nI ((r (2 * y.toNatClampNeg)) * (r (2 * y.toNatClampNeg + 1)))), .ref (a 0)]) rfl ?_
                  refine lv_isub hx hb dX10_sow_154 ?_
                  refine call_V (n := 1) (k0 := 0) (As := [.int ((nI ((r (2 * y.toNatClampNeg)) * (r (2 * y.toNatClampNeg + 1)))) - x74)]) (rest := []) hX hB (k_X10_told κ l (mw κ a r F_61 (va_up q 3 t56) (tb a) w) 0 (a 0) (a 1) ((va_up q 3 t56) 0) ((va_up q 3 t56) 1) ((va_up q 3 t56) 2) ((va_up q 3 t56) 3) ((nI ((r (2 * y.toNatClampNeg)) * (r (2 * y.toNatClampNeg + 1)))) - x74) (mw0x (a := a) (r := r) (f := F_61) (q := (va_up q 3 t56)) (T := tb a) (w := w) rfl)) ⟨rfl, by decide, by decide, by decide +kernel⟩ wm_5_208 wm_5_210 wp_30 wm_1_6 wm_5_211 ⟨Nat.le_of_ble_eq_true rfl, Nat.le_of_ble_eq_true rfl⟩ ⟨Nat.le_of_ble_eq_true rfl, Nat.le_of_ble_eq_true rfl⟩ (mw0x (a := a) (r := r) (f := F_61) (q := (va_up q 3 t56)) (T := tb a) (w := w) rfl) rfl rfl rfl hl.1 rfl (Nat.le_of_ble_eq_true rfl) dX10_sow_155 (fun o w' H locs hp hB => ?_)
                  obtain ⟨rfl, hw9⟩ := hp
                  replace hB : Bd κ A s (mw κ a r F_61 (va_up (va_up q 3 t56) 0 (((va_up q 3 t56) 0) + 1)) (tb a) w) H locs := by exact Bd_eq (mwQ0x rfl _) (by rw [hw9] at hB; exact hB)
                  refine W.eq (g2 := F0 m 158 ls [.int ((nI ((r (2 * y.toNatClampNeg)) * (r (2 * y.toNatClampNeg + 1)))) - x74)]) rfl ?_
                  rw [← hQ]
                  exact end_i hX hB hA3 rfl rfl (by obtain ⟨rfl, rfl, rfl, rfl⟩ := pr4 hR; exact ⟨a, rfl, rfl, hk61, rfl, rfl⟩) (Nat.le_of_ble_eq_true rfl) (Nat.le_of_ble_eq_true rfl) dX10_sow_158
                · rw [nleP (a := r (2 * y.toNatClampNeg)) (b := y7_61) (by omega) (by omega)] at c73
                  replace hR := ifn c73 hR
                  refine lv_iconst (v := 0) hx hb dX10_sow_71 (by decide) ?_
                  refine lv_istore (lv' := [(8, .int 0), (7, .int (nI y7_61)), (5, .long y5_61), (4, .ref (a (2 + 2 * y.toNatClampNeg))), (0, .ref (a 0)), (1, .int y), (2, .int z), (3, .int v)]) hx hb dX10_sow_72 hl (by decide) rfl (fun ls hl => ?_)
                  have lp74 : ∀ (nn74 : Nat) (y8_74 : Nat) (y5_74 : Int64) (F_74 : Nat → Nat → Int64) (H : Heap) (locs : List Loc), (y8_74 ≤ (r (2 * y.toNatClampNeg + 1))) → (0 ≤ (y5_74).toInt ∧ (y5_74).toInt < 65536) → (mok r F_74) → (r (2 * y.toNatClampNeg + 1)) + 1 - y8_74 < nn74 → D_X10_sow_74 r y v (D_X10_sow_61 r q y v t56 nn61) y7_61 nn74 y8_74 y5_74 F_74 = (o_x, o_r', o_f', o_q') → Bd κ A s (mw κ a r F_74 (va_up q 3 t56) (tb a) w) H locs → ∀ ls : Array Slot, lv_has ls 9 [(8, .int (nI y8_74)), (7, .int (nI y7_61)), (5, .long y5_74), (4, .ref (a (2 + 2 * y.toNatClampNeg))), (0, .ref (a 0)), (1, .int y), (2, .int z), (3, .int v)] → W p l e (Rm 2 45 0 0) s m args below meth c H locs (0) (0) Q (F0 m 74 ls []) := by
                    intro nn74
                    induction nn74 with
                    | zero => intro y8_74 y5_74 F_74 H locs hn8_74 hx74 hk74 hμ; exact absurd hμ (Nat.not_lt_zero _)
                    | succ nn74 ih74 =>
                      intro y8_74 y5_74 F_74 H locs hn8_74 hx74 hk74 hμ74 hR hB ls hl
                      replace hR := (D_X10_sow_74_s).symm.trans hR
                      refine lv_iload hx hb dX10_sow_74 (lv_at hl 0 rfl) ?_
                      refine lv_aload hx hb dX10_sow_76 (lv_at hl 3 rfl) ?_
                      refine gf (k0 := 2 + 2 * y.toNatClampNeg) hX hB (mwG (i := y.toNatClampNeg) (a := a) (r := r) (f := F_74) (q := (va_up q 3 t56)) (T := tb a) (w := w) (by omega)) rfl in7 1 (by decide) wm_5_152 rfl rfl dX10_sow_78 ?_
                      refine lv_icmp_ge (tgt := 131) hx hb dX10_sow_81 (by decide) (fun c78 => ?_) (fun c78 => ?_)
                      · rw [nleP (a := r (2 * y.toNatClampNeg + 1)) (b := y8_74) (by omega) (by omega)] at c78
                        replace hR := ifp c78 hR
                        refine lv_iinc (v := nI (y7_61 + 1)) (lv' := [(7, .int (nI (y7_61 + 1))), (8, .int (nI y8_74)), (5, .long y5_74), (4, .ref (a (2 + 2 * y.toNatClampNeg))), (0, .ref (a 0)), (1, .int y), (2, .int z), (3, .int v)]) hx hb dX10_sow_131 hl (k := 1) rfl (nI_add y7_61 1) (by decide) rfl (fun ls hl => ?_)
                        refine lv_goto (tgt := 61) hx hb dX10_sow_134 (by decide) ?_
                        exact ih61 (y7_61 + 1) y5_74 F_74 _ _ (by omega) hx74 hk74 (by omega) hR hB _ (lv_sub hl [0, 2, 3, 4, 5, 6, 7] rfl)
                      · rw [nleP (a := r (2 * y.toNatClampNeg + 1)) (b := y8_74) (by omega) (by omega)] at c78
                        replace hR := ifn c78 hR
                        refine lv_lload hx hb dX10_sow_84 (lv_at hl 2 rfl) ?_
                        refine lv_ldc2 (own := RX10) (v := 25173) hx hb hX.1.2.2.2.1 (hX.1.2.2.2.2 _ wm_6_7) dX10_sow_86 ?_
                        refine lv_lmul hx hb dX10_sow_89 ?_
                        refine lv_ldc2 (own := RX10) (v := 13849) hx hb hX.1.2.2.2.1 (hX.1.2.2.2.2 _ wm_6_8) dX10_sow_90 ?_
                        refine lv_ladd hx hb dX10_sow_93 ?_
                        refine lv_ldc2 (own := RX10) (v := 65536) hx hb hX.1.2.2.2.1 (hX.1.2.2.2.2 _ wm_6_9) dX10_sow_94 ?_
                        refine lv_lrem hx hb dX10_sow_97 (by decide) ?_
                        refine lv_lstore (lv' := [(5, .long (((y5_74 * 25173) + 13849) - ((y5_74 * 25173) + 13849) / 65536 * 65536)), (8, .int (nI y8_74)), (7, .int (nI y7_61)), (4, .ref (a (2 + 2 * y.toNatClampNeg))), (0, .ref (a 0)), (1, .int y), (2, .int z), (3, .int v)]) hx hb dX10_sow_98 hl (by decide) rfl (fun ls hl => ?_)
                        refine lv_aload hx hb dX10_sow_100 (lv_at hl 3 rfl) ?_
                        refine lv_iload hx hb dX10_sow_102 (lv_at hl 2 rfl) ?_
                        refine lv_iload hx hb dX10_sow_104 (lv_at hl 1 rfl) ?_
                        refine lv_lload hx hb dX10_sow_106 (lv_at hl 0 rfl) ?_
                        refine lv_ldc2 (own := RX10) (v := 64) hx hb hX.1.2.2.2.1 (hX.1.2.2.2.2 _ wm_6_10) dX10_sow_108 ?_
                        refine lv_ldiv hx hb dX10_sow_111 (by decide) ?_
                        refine lv_iconst (v := 2) hx hb dX10_sow_112 (by decide) ?_
                        refine lv_iload_n hx hb dX10_sow_113 rfl (lv_at hl 7 rfl) ?_
                        refine lv_imul hx hb dX10_sow_114 ?_
                        refine lv_iconst (v := 1) hx hb dX10_sow_115 (by decide) ?_
                        refine lv_iadd hx hb dX10_sow_116 ?_
                        refine lv_i2l hx hb dX10_sow_117 rfl ?_
                        refine lv_lrem hx hb dX10_sow_118 (sow_nz (by assumption) (by assumption)) ?_
                        refine lv_iload_n hx hb dX10_sow_119 rfl (lv_at hl 7 rfl) ?_
                        refine lv_i2l hx hb dX10_sow_120 rfl ?_
                        refine lv_lsub hx hb dX10_sow_121 ?_
                        refine call_V (n := 3) (k0 := (2 + 2 * y.toNatClampNeg)) (As := [.int (nI y7_61), .int (nI y8_74), .long ((((((y5_74 * 25173) + 13849) - ((y5_74 * 25173) + 13849) / 65536 * 65536) / 64) - ((((y5_74 * 25173) + 13849) - ((y5_74 * 25173) + 13849) / 65536 * 65536) / 64) / ((((2 * v) + 1)).toInt64) * ((((2 * v) + 1)).toInt64)) - ((v).toInt64))]) (rest := []) hX hB (k_X7_put κ l (mw κ a r F_74 (va_up q 3 t56) (tb a) w) (2 + 2 * y.toNatClampNeg) (3 + 2 * y.toNatClampNeg) (a (2 + 2 * y.toNatClampNeg)) (a (3 + 2 * y.toNatClampNeg)) (r (2 * y.toNatClampNeg)) (r (2 * y.toNatClampNeg + 1)) (F_74 y.toNatClampNeg) (nI y7_61) y7_61 (nI y8_74) y8_74 ((((((y5_74 * 25173) + 13849) - ((y5_74 * 25173) + 13849) / 65536 * 65536) / 64) - ((((y5_74 * 25173) + 13849) - ((y5_74 * 25173) + 13849) / 65536 * 65536) / 64) / ((((2 * v) + 1)).toInt64) * ((((2 * v) + 1)).toInt64)) - ((v).toInt64)) (mwG (i := y.toNatClampNeg) (a := a) (r := r) (f := F_74) (q := (va_up q 3 t56)) (T := tb a) (w := w) (by omega)) (mwA (i := y.toNatClampNeg) (a := a) (r := r) (f := F_74) (q := (va_up q 3 t56)) (T := tb a) (w := w) (by omega)) (mok_shp (i := y.toNatClampNeg) hm (by omega)) rfl rfl (by omega)) ⟨rfl, by decide, by decide, by decide +kernel⟩ wm_6_1 wm_5_222 wm_5_223 wm_1_7 wm_5_224 ⟨Nat.le_of_ble_eq_true rfl, Nat.le_of_ble_eq_true rfl⟩ ⟨Nat.le_of_ble_eq_true rfl, Nat.le_of_ble_eq_true rfl⟩ (mwG (i := y.toNatClampNeg) (a := a) (r := r) (f := F_74) (q := (va_up q 3 t56)) (T := tb a) (w := w) (by omega)) rfl rfl rfl hl.1 rfl (Nat.le_of_ble_eq_true rfl) dX10_sow_122 (fun o w' H locs hp hB => ?_)
                        obtain ⟨rfl, hw9⟩ := hp
                        replace hB : Bd κ A s (mw κ a r (va_up F_74 y.toNatClampNeg (vp_updL (F_74 y.toNatClampNeg) (y7_61 * 5 + y8_74) ((((((y5_74 * 25173) + 13849) - ((y5_74 * 25173) + 13849) / 65536 * 65536) / 64) - ((((y5_74 * 25173) + 13849) - ((y5_74 * 25173) + 13849) / 65536 * 65536) / 64) / ((((2 * v) + 1)).toInt64) * ((((2 * v) + 1)).toInt64)) - ((v).toInt64)))) (va_up q 3 t56) (tb a) w) H locs := by exact Bd_eq (mwUL (i := y.toNatClampNeg) (by omega) _) (by rw [hw9] at hB; exact hB)
                        refine W.eq (g2 := F0 m 125 ls []) rfl ?_
                        refine lv_iinc (v := nI (y8_74 + 1)) (lv' := [(8, .int (nI (y8_74 + 1))), (5, .long (((y5_74 * 25173) + 13849) - ((y5_74 * 25173) + 13849) / 65536 * 65536)), (7, .int (nI y7_61)), (4, .ref (a (2 + 2 * y.toNatClampNeg))), (0, .ref (a 0)), (1, .int y), (2, .int z), (3, .int v)]) hx hb dX10_sow_125 hl (k := 1) rfl (nI_add y8_74 1) (by decide) rfl (fun ls hl => ?_)
                        refine lv_goto (tgt := 74) hx hb dX10_sow_128 (by decide) ?_
                        exact ih74 (y8_74 + 1) (((y5_74 * 25173) + 13849) - ((y5_74 * 25173) + 13849) / 65536 * 65536) (va_up F_74 y.toNatClampNeg (vp_updL (F_74 y.toNatClampNeg) (y7_61 * 5 + y8_74) ((((((y5_74 * 25173) + 13849) - ((y5_74 * 25173) + 13849) / 65536 * 65536) / 64) - ((((y5_74 * 25173) + 13849) - ((y5_74 * 25173) + 13849) / 65536 * 65536) / 64) / ((((2 * v) + 1)).toInt64) * ((((2 * v) + 1)).toInt64)) - ((v).toInt64)))) _ _ (by omega) (sow_x hx74) (mok_f hk74 (sm_upd (hk74 _ (by omega)).2 (sow_sm (by assumption) (by assumption) (div64 (sow_x hx74).1)))) (by omega) hR hB _ (lv_sub hl [0, 2, 1, 3, 4, 5, 6, 7] rfl)
                  exact lp74 _ 0 y5_61 F_61 _ _ (by omega) hx61 hk61 (Nat.lt_succ_self _) hR hB _ hl
            exact lp61 _ 0 ((z).toInt64) f _ _ (by omega) (seed_x (by assumption) (by assumption)) hm (Nat.lt_succ_self _) hR hB _ hl
          · replace hR := ifn c54 hR
            refine lv_iconst (v := 1) hx hb dX10_sow_33 (by decide) ?_
            refine lv_goto (tgt := 38) hx hb dX10_sow_34 (by decide) ?_
            obtain ⟨x79, t80, hd81⟩ := ex2 (D_X10_isThrown_ (q 0) (q 1) (q 2) (q 3) 0 1)
            replace hR := bnd2_use hd81 hR
            refine call_V (n := 2) (k0 := 0) (As := [.int 0, .int 1]) (rest := []) hX hB (k_X10_isThrown_ κ l (mw κ a r f q (tb a) w) 0 (a 0) (a 1) (q 0) (q 1) (q 2) (q 3) 0 1 (mw0x (a := a) (r := r) (f := f) (q := q) (T := tb a) (w := w) rfl) x79 t80 hd81) ⟨rfl, by decide, by decide, by decide +kernel⟩ wm_5_192 wm_5_194 wp_27 wm_1_6 wm_5_195 ⟨Nat.le_of_ble_eq_true rfl, Nat.le_of_ble_eq_true rfl⟩ ⟨Nat.le_of_ble_eq_true rfl, Nat.le_of_ble_eq_true rfl⟩ (mw0x (a := a) (r := r) (f := f) (q := q) (T := tb a) (w := w) rfl) rfl rfl rfl hl.1 rfl (Nat.le_of_ble_eq_true rfl) dX10_sow_38 (fun o w' H locs hp hB => ?_)
            obtain ⟨rfl, hf82, hw9⟩ := hp
            replace hB : Bd κ A s (mw κ a r f (va_up q 3 t80) (tb a) w) H locs := by exact Bd_eq (mwQ3x rfl _) (by rw [hw9] at hB; exact hB)
            obtain rfl : x79 = 1 := hf82.trans (by decide)
            refine W.eq (g2 := F0 m 41 ls [.int 1]) rfl ?_
            refine lv_if_eq (tgt := 46) hx hb dX10_sow_41 (by decide) (fun c83 => False.elim (by revert c83; decide)) (fun _ => ?_)
            refine lv_iconst (v := 0) hx hb dX10_sow_44 (by decide) ?_
            rw [← hQ]
            exact end_i hX hB hA3 rfl rfl (by obtain ⟨rfl, rfl, rfl, rfl⟩ := pr4 hR; exact ⟨a, rfl, rfl, hm, rfl, rfl⟩) (Nat.le_of_ble_eq_true rfl) (Nat.le_of_ble_eq_true rfl) dX10_sow_45
noncomputable def D_X10_sum_93 (r : Nat → Nat) (f : Nat → Nat → Int64) (q : Nat → Int32) (y : Int32) (z : Int32) (c0 : Int32) (u : Int32) (t35 : Int32) (nn : Nat) : Nat → (Nat → Int64) → Int32 × (Nat → Nat) × (Nat → Nat → Int64) × (Nat → Int32) := @Nat.rec (fun _ => Nat → (Nat → Int64) → Int32 × (Nat → Nat) × (Nat → Nat → Int64) × (Nat → Int32)) (fun _ _ => default) (fun _ lb93 (y8_93 : Nat) (fq44_93 : Nat → Int64) => (if ((r (2 * y.toNatClampNeg)) * 5) ≤ y8_93 then bnd4 (D_X10_become r f (va_up q 3 t35) u (r (2 * y.toNatClampNeg)) (r (2 * y.toNatClampNeg + 1)) fq44_93) (fun (x71 : Int32) (rn73 : Nat → Nat) (fn74 : Nat → Nat → Int64) (qn75 : Nat → Int32) => (x71, rn73, fn74, qn75)) else (if c0 = 0 then (lb93 (y8_93 + 1) (vp_updL fq44_93 y8_93 ((fq44_93 y8_93) + ((f z.toNatClampNeg) y8_93)))) else (lb93 (y8_93 + 1) (vp_updL fq44_93 y8_93 ((fq44_93 y8_93) + (-((f z.toNatClampNeg) y8_93)))))))) nn
theorem D_X10_sum_93_s {r : Nat → Nat} {f : Nat → Nat → Int64} {q : Nat → Int32} {y : Int32} {z : Int32} {c0 : Int32} {u : Int32} {t35 : Int32} {nn : Nat} {y8_93 : Nat} {fq44_93 : Nat → Int64} : D_X10_sum_93 r f q y z c0 u t35 (nn + 1) y8_93 fq44_93 = (if ((r (2 * y.toNatClampNeg)) * 5) ≤ y8_93 then bnd4 (D_X10_become r f (va_up q 3 t35) u (r (2 * y.toNatClampNeg)) (r (2 * y.toNatClampNeg + 1)) fq44_93) (fun (x71 : Int32) (rn73 : Nat → Nat) (fn74 : Nat → Nat → Int64) (qn75 : Nat → Int32) => (x71, rn73, fn74, qn75)) else (if c0 = 0 then ((D_X10_sum_93 r f q y z c0 u t35 nn) (y8_93 + 1) (vp_updL fq44_93 y8_93 ((fq44_93 y8_93) + ((f z.toNatClampNeg) y8_93)))) else ((D_X10_sum_93 r f q y z c0 u t35 nn) (y8_93 + 1) (vp_updL fq44_93 y8_93 ((fq44_93 y8_93) + (-((f z.toNatClampNeg) y8_93))))))) := rfl
noncomputable def D_X10_sum (r : Nat → Nat) (f : Nat → Nat → Int64) (q : Nat → Int32) (y : Int32) (z : Int32) (c0 : Int32) (u : Int32) : Int32 × (Nat → Nat) × (Nat → Nat → Int64) × (Nat → Int32) := bnd1 (D_X10_isTable y) (fun (z1 : Int32) => (if z1 = 0 then bnd2 (D_X10_isThrown__ (q 0) (q 1) (q 2) (q 3) 1) (fun (x6 : Int32) (t7 : Int32) => (0, r, f, va_up q 3 t7)) else bnd1 (D_X10_isTable z) (fun (z12 : Int32) => (if z12 = 0 then bnd2 (D_X10_isThrown__ (q 0) (q 1) (q 2) (q 3) 1) (fun (x17 : Int32) (t18 : Int32) => (0, r, f, va_up q 3 t18)) else bnd1 (D_X10_isTable u) (fun (z23 : Int32) => (if z23 = 0 then bnd2 (D_X10_isThrown__ (q 0) (q 1) (q 2) (q 3) 1) (fun (x28 : Int32) (t29 : Int32) => (0, r, f, va_up q 3 t29)) else bnd2 (D_X10_isThrown__ (q 0) (q 1) (q 2) (q 3) 0) (fun (x34 : Int32) (t35 : Int32) => (if (r (2 * y.toNatClampNeg)) = (r (2 * z.toNatClampNeg)) then (if (r (2 * y.toNatClampNeg + 1)) = (r (2 * z.toNatClampNeg + 1)) then bnd1 (D_X7_copy (r (2 * y.toNatClampNeg)) (r (2 * y.toNatClampNeg + 1)) (f y.toNatClampNeg)) (fun (F45 : Nat → Int64) => (D_X10_sum_93 r f q y z c0 u t35 (((r (2 * y.toNatClampNeg)) * 5) + 1 - 0 + 1) 0 F45)) else (-9, r, f, va_up (va_up q 3 t35) 1 (((va_up q 3 t35) 1) + 1))) else (-9, r, f, va_up (va_up q 3 t35) 1 (((va_up q 3 t35) 1) + 1))))))))))
theorem D_X10_sum_s {r : Nat → Nat} {f : Nat → Nat → Int64} {q : Nat → Int32} {y : Int32} {z : Int32} {c0 : Int32} {u : Int32} : D_X10_sum r f q y z c0 u = bnd1 (D_X10_isTable y) (fun (z1 : Int32) => (if z1 = 0 then bnd2 (D_X10_isThrown__ (q 0) (q 1) (q 2) (q 3) 1) (fun (x6 : Int32) (t7 : Int32) => (0, r, f, va_up q 3 t7)) else bnd1 (D_X10_isTable z) (fun (z12 : Int32) => (if z12 = 0 then bnd2 (D_X10_isThrown__ (q 0) (q 1) (q 2) (q 3) 1) (fun (x17 : Int32) (t18 : Int32) => (0, r, f, va_up q 3 t18)) else bnd1 (D_X10_isTable u) (fun (z23 : Int32) => (if z23 = 0 then bnd2 (D_X10_isThrown__ (q 0) (q 1) (q 2) (q 3) 1) (fun (x28 : Int32) (t29 : Int32) => (0, r, f, va_up q 3 t29)) else bnd2 (D_X10_isThrown__ (q 0) (q 1) (q 2) (q 3) 0) (fun (x34 : Int32) (t35 : Int32) => (if (r (2 * y.toNatClampNeg)) = (r (2 * z.toNatClampNeg)) then (if (r (2 * y.toNatClampNeg + 1)) = (r (2 * z.toNatClampNeg + 1)) then bnd1 (D_X7_copy (r (2 * y.toNatClampNeg)) (r (2 * y.toNatClampNeg + 1)) (f y.toNatClampNeg)) (fun (F45 : Nat → Int64) => (D_X10_sum_93 r f q y z c0 u t35 (((r (2 * y.toNatClampNeg)) * 5) + 1 - 0 + 1) 0 F45)) else (-9, r, f, va_up (va_up q 3 t35) 1 (((va_up q 3 t35) 1) + 1))) else (-9, r, f, va_up (va_up q 3 t35) 1 (((va_up q 3 t35) 1) + 1)))))))))) := rfl
set_option maxHeartbeats 4000000 in
set_option maxRecDepth 100000 in
theorem k_X10_sum (κ : Kt) (l : Launch) (w : va_W) (a r : Nat → Nat) (f : Nat → Nat → Int64) (q : Nat → Int32) (y : Int32) (z : Int32) (c0 : Int32) (u : Int32) (hm : mok r f) (o_x : Int32) (o_r' : Nat → Nat) (o_f' : Nat → Nat → Int64) (o_q' : Nat → Int32) (hR : D_X10_sum r f q y z c0 u = (o_x, o_r', o_f', o_q')) : CM κ l yX10_sum cX10_sum 9 (some .int) 3 64 2 23 [.ref (a 0), .int y, .int z, .int c0, .int u] (mw κ a r f q (tb a) w) (fun o w' => ∃ (a' : Nat → Nat), o = some (.int o_x) ∧ (a' 0 = a 0) ∧ (mok o_r' o_f') ∧ (o_q' 2 = q 2) ∧ w' = mw κ a' o_r' o_f' o_q' (tb a') w) := by
  refine CM_begin (plainFor_of_name (by decide)) (Nat.le_of_ble_eq_true rfl) ?_
  intro p e s m args below meth c A Q hX hnm hA3 hQ hB ls hl
  have hx := hX.1.1
  have hb := hX.1.2.1
  have hl : lv_has ls 9 [(0, .ref (a 0)), (1, .int y), (2, .int z), (3, .int c0), (4, .int u)] := hl
  replace hR := (D_X10_sum_s).symm.trans hR
  refine lv_aload_n hx hb dX10_sum_0 rfl (lv_at hl 0 rfl) ?_
  refine lv_iload_n hx hb dX10_sum_1 rfl (lv_at hl 1 rfl) ?_
  obtain ⟨z1, hd2⟩ := ex1 (D_X10_isTable y)
  replace hR := bnd1_use hd2 hR
  refine call_S (n := 1) (As := [.int y]) (rest := [.ref (a 0)]) hX hB (k_X10_isTable κ l (mw κ a r f q (tb a) w) y z1 hd2) ⟨by decide, by decide, by decide +kernel⟩ wm_5_186 wm_5_187 wm_1_6 wm_5_188 ⟨Nat.le_of_ble_eq_true rfl, Nat.le_of_ble_eq_true rfl⟩ ⟨Nat.le_of_ble_eq_true rfl, Nat.le_of_ble_eq_true rfl⟩ rfl hl.1 rfl (Nat.le_of_ble_eq_true rfl) dX10_sum_2 (fun o w' H locs hp hB => ?_)
  obtain ⟨rfl, hf3, hw9⟩ := hp
  replace hB : Bd κ A s (mw κ a r f q (tb a) w) H locs := by rw [hw9] at hB; exact hB
  rcases hf3 with rfl | ⟨rfl, hz4a, hz4b⟩
  · replace hR := ifp rfl hR
    refine W.eq (g2 := F0 m 5 ls [.int 0, .ref (a 0)]) rfl ?_
    refine lv_if_eq (tgt := 23) hx hb dX10_sum_5 (by decide) (fun _ => ?_) (fun c5 => False.elim (by revert c5; decide))
    refine lv_iconst (v := 1) hx hb dX10_sum_23 (by decide) ?_
    refine lv_goto (tgt := 28) hx hb dX10_sum_24 (by decide) ?_
    obtain ⟨x6, t7, hd8⟩ := ex2 (D_X10_isThrown__ (q 0) (q 1) (q 2) (q 3) 1)
    replace hR := bnd2_use hd8 hR
    refine call_V (n := 1) (k0 := 0) (As := [.int 1]) (rest := []) hX hB (k_X10_isThrown__ κ l (mw κ a r f q (tb a) w) 0 (a 0) (a 1) (q 0) (q 1) (q 2) (q 3) 1 (mw0x (a := a) (r := r) (f := f) (q := q) (T := tb a) (w := w) rfl) x6 t7 hd8) ⟨rfl, by decide, by decide, by decide +kernel⟩ wm_6_15 wm_6_17 wp_33 wm_1_6 wm_6_18 ⟨Nat.le_of_ble_eq_true rfl, Nat.le_of_ble_eq_true rfl⟩ ⟨Nat.le_of_ble_eq_true rfl, Nat.le_of_ble_eq_true rfl⟩ (mw0x (a := a) (r := r) (f := f) (q := q) (T := tb a) (w := w) rfl) rfl rfl rfl hl.1 rfl (Nat.le_of_ble_eq_true rfl) dX10_sum_28 (fun o w' H locs hp hB => ?_)
    obtain ⟨rfl, hf9, hw9⟩ := hp
    replace hB : Bd κ A s (mw κ a r f (va_up q 3 t7) (tb a) w) H locs := by exact Bd_eq (mwQ3x rfl _) (by rw [hw9] at hB; exact hB)
    obtain rfl : x6 = 1 := hf9.trans (by decide)
    refine W.eq (g2 := F0 m 31 ls [.int 1]) rfl ?_
    refine lv_if_eq (tgt := 36) hx hb dX10_sum_31 (by decide) (fun c10 => False.elim (by revert c10; decide)) (fun _ => ?_)
    refine lv_iconst (v := 0) hx hb dX10_sum_34 (by decide) ?_
    rw [← hQ]
    exact end_i hX hB hA3 rfl rfl (by obtain ⟨rfl, rfl, rfl, rfl⟩ := pr4 hR; exact ⟨a, rfl, rfl, hm, rfl, rfl⟩) (Nat.le_of_ble_eq_true rfl) (Nat.le_of_ble_eq_true rfl) dX10_sum_35
  · replace hR := ifn (by decide) hR
    refine W.eq (g2 := F0 m 5 ls [.int 1, .ref (a 0)]) rfl ?_
    refine lv_if_eq (tgt := 23) hx hb dX10_sum_5 (by decide) (fun c11 => False.elim (by revert c11; decide)) (fun _ => ?_)
    refine lv_iload_n hx hb dX10_sum_8 rfl (lv_at hl 2 rfl) ?_
    obtain ⟨z12, hd13⟩ := ex1 (D_X10_isTable z)
    replace hR := bnd1_use hd13 hR
    refine call_S (n := 1) (As := [.int z]) (rest := [.ref (a 0)]) hX hB (k_X10_isTable κ l (mw κ a r f q (tb a) w) z z12 hd13) ⟨by decide, by decide, by decide +kernel⟩ wm_5_186 wm_5_187 wm_1_6 wm_5_188 ⟨Nat.le_of_ble_eq_true rfl, Nat.le_of_ble_eq_true rfl⟩ ⟨Nat.le_of_ble_eq_true rfl, Nat.le_of_ble_eq_true rfl⟩ rfl hl.1 rfl (Nat.le_of_ble_eq_true rfl) dX10_sum_9 (fun o w' H locs hp hB => ?_)
    obtain ⟨rfl, hf14, hw9⟩ := hp
    replace hB : Bd κ A s (mw κ a r f q (tb a) w) H locs := by rw [hw9] at hB; exact hB
    rcases hf14 with rfl | ⟨rfl, hz15a, hz15b⟩
    · replace hR := ifp rfl hR
      refine W.eq (g2 := F0 m 12 ls [.int 0, .ref (a 0)]) rfl ?_
      refine lv_if_eq (tgt := 23) hx hb dX10_sum_12 (by decide) (fun _ => ?_) (fun c16 => False.elim (by revert c16; decide))
      refine lv_iconst (v := 1) hx hb dX10_sum_23 (by decide) ?_
      refine lv_goto (tgt := 28) hx hb dX10_sum_24 (by decide) ?_
      obtain ⟨x17, t18, hd19⟩ := ex2 (D_X10_isThrown__ (q 0) (q 1) (q 2) (q 3) 1)
      replace hR := bnd2_use hd19 hR
      refine call_V (n := 1) (k0 := 0) (As := [.int 1]) (rest := []) hX hB (k_X10_isThrown__ κ l (mw κ a r f q (tb a) w) 0 (a 0) (a 1) (q 0) (q 1) (q 2) (q 3) 1 (mw0x (a := a) (r := r) (f := f) (q := q) (T := tb a) (w := w) rfl) x17 t18 hd19) ⟨rfl, by decide, by decide, by decide +kernel⟩ wm_6_15 wm_6_17 wp_33 wm_1_6 wm_6_18 ⟨Nat.le_of_ble_eq_true rfl, Nat.le_of_ble_eq_true rfl⟩ ⟨Nat.le_of_ble_eq_true rfl, Nat.le_of_ble_eq_true rfl⟩ (mw0x (a := a) (r := r) (f := f) (q := q) (T := tb a) (w := w) rfl) rfl rfl rfl hl.1 rfl (Nat.le_of_ble_eq_true rfl) dX10_sum_28 (fun o w' H locs hp hB => ?_)
      obtain ⟨rfl, hf20, hw9⟩ := hp
      replace hB : Bd κ A s (mw κ a r f (va_up q 3 t18) (tb a) w) H locs := by exact Bd_eq (mwQ3x rfl _) (by rw [hw9] at hB; exact hB)
      obtain rfl : x17 = 1 := hf20.trans (by decide)
      refine W.eq (g2 := F0 m 31 ls [.int 1]) rfl ?_
      refine lv_if_eq (tgt := 36) hx hb dX10_sum_31 (by decide) (fun c21 => False.elim (by revert c21; decide)) (fun _ => ?_)
      refine lv_iconst (v := 0) hx hb dX10_sum_34 (by decide) ?_
      rw [← hQ]
      exact end_i hX hB hA3 rfl rfl (by obtain ⟨rfl, rfl, rfl, rfl⟩ := pr4 hR; exact ⟨a, rfl, rfl, hm, rfl, rfl⟩) (Nat.le_of_ble_eq_true rfl) (Nat.le_of_ble_eq_true rfl) dX10_sum_35
    · replace hR := ifn (by decide) hR
      refine W.eq (g2 := F0 m 12 ls [.int 1, .ref (a 0)]) rfl ?_
      refine lv_if_eq (tgt := 23) hx hb dX10_sum_12 (by decide) (fun c22 => False.elim (by revert c22; decide)) (fun _ => ?_)
      refine lv_iload hx hb dX10_sum_15 (lv_at hl 4 rfl) ?_
      obtain ⟨z23, hd24⟩ := ex1 (D_X10_isTable u)
      replace hR := bnd1_use hd24 hR
      refine call_S (n := 1) (As := [.int u]) (rest := [.ref (a 0)]) hX hB (k_X10_isTable κ l (mw κ a r f q (tb a) w) u z23 hd24) ⟨by decide, by decide, by decide +kernel⟩ wm_5_186 wm_5_187 wm_1_6 wm_5_188 ⟨Nat.le_of_ble_eq_true rfl, Nat.le_of_ble_eq_true rfl⟩ ⟨Nat.le_of_ble_eq_true rfl, Nat.le_of_ble_eq_true rfl⟩ rfl hl.1 rfl (Nat.le_of_ble_eq_true rfl) dX10_sum_17 (fun o w' H locs hp hB => ?_)
      obtain ⟨rfl, hf25, hw9⟩ := hp
      replace hB : Bd κ A s (mw κ a r f q (tb a) w) H locs := by rw [hw9] at hB; exact hB
      rcases hf25 with rfl | ⟨rfl, hz26a, hz26b⟩
      · replace hR := ifp rfl hR
        refine W.eq (g2 := F0 m 20 ls [.int 0, .ref (a 0)]) rfl ?_
        refine lv_if_ne (tgt := 27) hx hb dX10_sum_20 (by decide) (fun c27 => False.elim (by revert c27; decide)) (fun _ => ?_)
        refine lv_iconst (v := 1) hx hb dX10_sum_23 (by decide) ?_
        refine lv_goto (tgt := 28) hx hb dX10_sum_24 (by decide) ?_
        obtain ⟨x28, t29, hd30⟩ := ex2 (D_X10_isThrown__ (q 0) (q 1) (q 2) (q 3) 1)
        replace hR := bnd2_use hd30 hR
        refine call_V (n := 1) (k0 := 0) (As := [.int 1]) (rest := []) hX hB (k_X10_isThrown__ κ l (mw κ a r f q (tb a) w) 0 (a 0) (a 1) (q 0) (q 1) (q 2) (q 3) 1 (mw0x (a := a) (r := r) (f := f) (q := q) (T := tb a) (w := w) rfl) x28 t29 hd30) ⟨rfl, by decide, by decide, by decide +kernel⟩ wm_6_15 wm_6_17 wp_33 wm_1_6 wm_6_18 ⟨Nat.le_of_ble_eq_true rfl, Nat.le_of_ble_eq_true rfl⟩ ⟨Nat.le_of_ble_eq_true rfl, Nat.le_of_ble_eq_true rfl⟩ (mw0x (a := a) (r := r) (f := f) (q := q) (T := tb a) (w := w) rfl) rfl rfl rfl hl.1 rfl (Nat.le_of_ble_eq_true rfl) dX10_sum_28 (fun o w' H locs hp hB => ?_)
        obtain ⟨rfl, hf31, hw9⟩ := hp
        replace hB : Bd κ A s (mw κ a r f (va_up q 3 t29) (tb a) w) H locs := by exact Bd_eq (mwQ3x rfl _) (by rw [hw9] at hB; exact hB)
        obtain rfl : x28 = 1 := hf31.trans (by decide)
        refine W.eq (g2 := F0 m 31 ls [.int 1]) rfl ?_
        refine lv_if_eq (tgt := 36) hx hb dX10_sum_31 (by decide) (fun c32 => False.elim (by revert c32; decide)) (fun _ => ?_)
        refine lv_iconst (v := 0) hx hb dX10_sum_34 (by decide) ?_
        rw [← hQ]
        exact end_i hX hB hA3 rfl rfl (by obtain ⟨rfl, rfl, rfl, rfl⟩ := pr4 hR; exact ⟨a, rfl, rfl, hm, rfl, rfl⟩) (Nat.le_of_ble_eq_true rfl) (Nat.le_of_ble_eq_true rfl) dX10_sum_35
      · replace hR := ifn (by decide) hR
        refine W.eq (g2 := F0 m 20 ls [.int 1, .ref (a 0)]) rfl ?_
        refine lv_if_ne (tgt := 27) hx hb dX10_sum_20 (by decide) (fun _ => ?_) (fun c33 => False.elim (by revert c33; decide))
        refine lv_iconst (v := 0) hx hb dX10_sum_27 (by decide) ?_
        obtain ⟨x34, t35, hd36⟩ := ex2 (D_X10_isThrown__ (q 0) (q 1) (q 2) (q 3) 0)
        replace hR := bnd2_use hd36 hR
        refine call_V (n := 1) (k0 := 0) (As := [.int 0]) (rest := []) hX hB (k_X10_isThrown__ κ l (mw κ a r f q (tb a) w) 0 (a 0) (a 1) (q 0) (q 1) (q 2) (q 3) 0 (mw0x (a := a) (r := r) (f := f) (q := q) (T := tb a) (w := w) rfl) x34 t35 hd36) ⟨rfl, by decide, by decide, by decide +kernel⟩ wm_6_15 wm_6_17 wp_33 wm_1_6 wm_6_18 ⟨Nat.le_of_ble_eq_true rfl, Nat.le_of_ble_eq_true rfl⟩ ⟨Nat.le_of_ble_eq_true rfl, Nat.le_of_ble_eq_true rfl⟩ (mw0x (a := a) (r := r) (f := f) (q := q) (T := tb a) (w := w) rfl) rfl rfl rfl hl.1 rfl (Nat.le_of_ble_eq_true rfl) dX10_sum_28 (fun o w' H locs hp hB => ?_)
        obtain ⟨rfl, hf37, hw9⟩ := hp
        replace hB : Bd κ A s (mw κ a r f (va_up q 3 t35) (tb a) w) H locs := by exact Bd_eq (mwQ3x rfl _) (by rw [hw9] at hB; exact hB)
        obtain rfl : x34 = 0 := hf37.trans (by decide)
        refine W.eq (g2 := F0 m 31 ls [.int 0]) rfl ?_
        refine lv_if_eq (tgt := 36) hx hb dX10_sum_31 (by decide) (fun _ => ?_) (fun c38 => False.elim (by revert c38; decide))
        refine lv_aload_n hx hb dX10_sum_36 rfl (lv_at hl 0 rfl) ?_
        refine gf (k0 := 0) hX hB (mw0x (a := a) (r := r) (f := f) (q := (va_up q 3 t35)) (T := tb a) (w := w) rfl) rfl in10 0 (by decide) wm_5_162 rfl rfl dX10_sum_37 ?_
        refine lv_iload_n hx hb dX10_sum_40 rfl (lv_at hl 1 rfl) ?_
        refine aaldM (k0 := 1) hX hB (mw1 (a := a) (r := r) (f := f) (q := (va_up q 3 t35)) (T := tb a) (w := w)) (vp_in_mk (by assumption) (by assumption)) rfl dX10_sum_41 ?_
        have hb39 := mok_r hm y.toNatClampNeg (by omega)
        refine lv_astore (lv' := [(5, .ref (a (2 + 2 * y.toNatClampNeg))), (0, .ref (a 0)), (1, .int y), (2, .int z), (3, .int c0), (4, .int u)]) hx hb dX10_sum_42 hl (by decide) rfl (fun ls hl => ?_)
        refine lv_aload_n hx hb dX10_sum_44 rfl (lv_at hl 1 rfl) ?_
        refine gf (k0 := 0) hX hB (mw0x (a := a) (r := r) (f := f) (q := (va_up q 3 t35)) (T := tb a) (w := w) rfl) rfl in10 0 (by decide) wm_5_162 rfl rfl dX10_sum_45 ?_
        refine lv_iload_n hx hb dX10_sum_48 rfl (lv_at hl 3 rfl) ?_
        refine aaldM (k0 := 1) hX hB (mw1 (a := a) (r := r) (f := f) (q := (va_up q 3 t35)) (T := tb a) (w := w)) (vp_in_mk (by assumption) (by assumption)) rfl dX10_sum_49 ?_
        have hb40 := mok_r hm z.toNatClampNeg (by omega)
        refine lv_astore (lv' := [(6, .ref (a (2 + 2 * z.toNatClampNeg))), (5, .ref (a (2 + 2 * y.toNatClampNeg))), (0, .ref (a 0)), (1, .int y), (2, .int z), (3, .int c0), (4, .int u)]) hx hb dX10_sum_50 hl (by decide) rfl (fun ls hl => ?_)
        refine lv_aload hx hb dX10_sum_52 (lv_at hl 1 rfl) ?_
        refine gf (k0 := 2 + 2 * y.toNatClampNeg) hX hB (mwG (i := y.toNatClampNeg) (a := a) (r := r) (f := f) (q := (va_up q 3 t35)) (T := tb a) (w := w) (by omega)) rfl in7 0 (by decide) wm_5_148 rfl rfl dX10_sum_54 ?_
        refine lv_aload hx hb dX10_sum_57 (lv_at hl 0 rfl) ?_
        refine gf (k0 := 2 + 2 * z.toNatClampNeg) hX hB (mwG (i := z.toNatClampNeg) (a := a) (r := r) (f := f) (q := (va_up q 3 t35)) (T := tb a) (w := w) (by omega)) rfl in7 0 (by decide) wm_5_148 rfl rfl dX10_sum_59 ?_
        refine lv_icmp_ne (tgt := 78) hx hb dX10_sum_62 (by decide) (fun c41 => ?_) (fun c41 => ?_)
        · rw [neqP (a := r (2 * y.toNatClampNeg)) (b := r (2 * z.toNatClampNeg)) (by omega) (by omega)] at c41
          replace hR := ifn c41 hR
          refine lv_aload_n hx hb dX10_sum_78 rfl (lv_at hl 2 rfl) ?_
          refine call_V (n := 0) (k0 := 0) (As := []) (rest := []) hX hB (k_X10_no κ l (mw κ a r f (va_up q 3 t35) (tb a) w) 0 (a 0) (a 1) ((va_up q 3 t35) 0) ((va_up q 3 t35) 1) ((va_up q 3 t35) 2) ((va_up q 3 t35) 3) (mw0x (a := a) (r := r) (f := f) (q := (va_up q 3 t35)) (T := tb a) (w := w) rfl)) ⟨rfl, by decide, by decide, by decide +kernel⟩ wm_6_89 wm_6_91 wp_36 wm_1_6 wm_6_92 ⟨Nat.le_of_ble_eq_true rfl, Nat.le_of_ble_eq_true rfl⟩ ⟨Nat.le_of_ble_eq_true rfl, Nat.le_of_ble_eq_true rfl⟩ (mw0x (a := a) (r := r) (f := f) (q := (va_up q 3 t35)) (T := tb a) (w := w) rfl) rfl rfl rfl hl.1 rfl (Nat.le_of_ble_eq_true rfl) dX10_sum_79 (fun o w' H locs hp hB => ?_)
          obtain ⟨rfl, hw9⟩ := hp
          replace hB : Bd κ A s (mw κ a r f (va_up (va_up q 3 t35) 1 (((va_up q 3 t35) 1) + 1)) (tb a) w) H locs := by exact Bd_eq (mwQ1x rfl _) (by rw [hw9] at hB; exact hB)
          refine W.eq (g2 := F0 m 82 ls [.int (-9)]) rfl ?_
          rw [← hQ]
          exact end_i hX hB hA3 rfl rfl (by obtain ⟨rfl, rfl, rfl, rfl⟩ := pr4 hR; exact ⟨a, rfl, rfl, hm, rfl, rfl⟩) (Nat.le_of_ble_eq_true rfl) (Nat.le_of_ble_eq_true rfl) dX10_sum_82
        · rw [neqP (a := r (2 * y.toNatClampNeg)) (b := r (2 * z.toNatClampNeg)) (by omega) (by omega)] at c41
          replace hR := ifp c41 hR
          refine lv_aload hx hb dX10_sum_65 (lv_at hl 1 rfl) ?_
          refine gf (k0 := 2 + 2 * y.toNatClampNeg) hX hB (mwG (i := y.toNatClampNeg) (a := a) (r := r) (f := f) (q := (va_up q 3 t35)) (T := tb a) (w := w) (by omega)) rfl in7 1 (by decide) wm_5_152 rfl rfl dX10_sum_67 ?_
          refine lv_aload hx hb dX10_sum_70 (lv_at hl 0 rfl) ?_
          refine gf (k0 := 2 + 2 * z.toNatClampNeg) hX hB (mwG (i := z.toNatClampNeg) (a := a) (r := r) (f := f) (q := (va_up q 3 t35)) (T := tb a) (w := w) (by omega)) rfl in7 1 (by decide) wm_5_152 rfl rfl dX10_sum_72 ?_
          refine lv_icmp_eq (tgt := 83) hx hb dX10_sum_75 (by decide) (fun c42 => ?_) (fun c42 => ?_)
          · rw [neqP (a := r (2 * y.toNatClampNeg + 1)) (b := r (2 * z.toNatClampNeg + 1)) (by omega) (by omega)] at c42
            replace hR := ifp c42 hR
            refine lv_aload hx hb dX10_sum_83 (lv_at hl 1 rfl) ?_
            obtain ⟨F45, hd46⟩ := ex1 (D_X7_copy (r (2 * y.toNatClampNeg)) (r (2 * y.toNatClampNeg + 1)) (f y.toNatClampNeg))
            replace hR := bnd1_use hd46 hR
            refine call_V (n := 0) (k0 := (2 + 2 * y.toNatClampNeg)) (As := []) (rest := []) hX hB (k_X7_copy κ l (mw κ a r f (va_up q 3 t35) (tb a) w) (2 + 2 * y.toNatClampNeg) (3 + 2 * y.toNatClampNeg) (a (2 + 2 * y.toNatClampNeg)) (a (3 + 2 * y.toNatClampNeg)) (r (2 * y.toNatClampNeg)) (r (2 * y.toNatClampNeg + 1)) (f y.toNatClampNeg) (mwG (i := y.toNatClampNeg) (a := a) (r := r) (f := f) (q := (va_up q 3 t35)) (T := tb a) (w := w) (by omega)) (mwA (i := y.toNatClampNeg) (a := a) (r := r) (f := f) (q := (va_up q 3 t35)) (T := tb a) (w := w) (by omega)) (mok_shp (i := y.toNatClampNeg) hm (by omega)) F45 hd46) ⟨rfl, by decide, by decide, by decide +kernel⟩ wm_6_23 wm_6_24 wm_6_25 wm_1_7 wm_6_26 ⟨Nat.le_of_ble_eq_true rfl, Nat.le_of_ble_eq_true rfl⟩ ⟨Nat.le_of_ble_eq_true rfl, Nat.le_of_ble_eq_true rfl⟩ (mwG (i := y.toNatClampNeg) (a := a) (r := r) (f := f) (q := (va_up q 3 t35)) (T := tb a) (w := w) (by omega)) rfl rfl rfl hl.1 rfl (Nat.le_of_ble_eq_true rfl) dX10_sum_85 (fun o w' H locs hp hB => ?_)
            obtain ⟨q43, q44, rfl, hf47, hw9⟩ := hp
            replace hB : Bd κ A s (lA κ q44 ((r (2 * y.toNatClampNeg)) * 5) F45 :: gO q43 (r (2 * y.toNatClampNeg)) (r (2 * y.toNatClampNeg + 1)) q44 :: mw κ a r f (va_up q 3 t35) (tb a) w) H locs := by rw [hw9] at hB; exact hB
            have hscF45 : ∀ k, k < (r (2 * y.toNatClampNeg)) * 5 → sm (F45 k) := fun k hk => by rw [hf47 k hk]; exact (hm _ (by omega)).2 k hk
            refine W.eq (g2 := F0 m 88 ls [.ref q43]) rfl ?_
            refine lv_astore (lv' := [(7, .ref q43), (6, .ref (a (2 + 2 * z.toNatClampNeg))), (5, .ref (a (2 + 2 * y.toNatClampNeg))), (0, .ref (a 0)), (1, .int y), (2, .int z), (3, .int c0), (4, .int u)]) hx hb dX10_sum_88 hl (by decide) rfl (fun ls hl => ?_)
            refine lv_iconst (v := 0) hx hb dX10_sum_90 (by decide) ?_
            refine lv_istore (lv' := [(8, .int 0), (7, .ref q43), (6, .ref (a (2 + 2 * z.toNatClampNeg))), (5, .ref (a (2 + 2 * y.toNatClampNeg))), (0, .ref (a 0)), (1, .int y), (2, .int z), (3, .int c0), (4, .int u)]) hx hb dX10_sum_91 hl (by decide) rfl (fun ls hl => ?_)
            have lp93 : ∀ (nn93 : Nat) (y8_93 : Nat) (fq44_93 : Nat → Int64) (H : Heap) (locs : List Loc), (y8_93 ≤ ((r (2 * y.toNatClampNeg)) * 5)) → ((r (2 * y.toNatClampNeg)) * 5) + 1 - y8_93 < nn93 → D_X10_sum_93 r f q y z c0 u t35 nn93 y8_93 fq44_93 = (o_x, o_r', o_f', o_q') → Bd κ A s (lA κ q44 ((r (2 * y.toNatClampNeg)) * 5) fq44_93 :: gO q43 (r (2 * y.toNatClampNeg)) (r (2 * y.toNatClampNeg + 1)) q44 :: mw κ a r f (va_up q 3 t35) (tb a) w) H locs → ∀ ls : Array Slot, lv_has ls 9 [(8, .int (nI y8_93)), (7, .ref q43), (6, .ref (a (2 + 2 * z.toNatClampNeg))), (5, .ref (a (2 + 2 * y.toNatClampNeg))), (0, .ref (a 0)), (1, .int y), (2, .int z), (3, .int c0), (4, .int u)] → W p l e (Rm 3 64 2 23) s m args below meth c H locs (2) (23) Q (F0 m 93 ls []) := by
              intro nn93
              induction nn93 with
              | zero => intro y8_93 fq44_93 H locs hn8_93 hμ; exact absurd hμ (Nat.not_lt_zero _)
              | succ nn93 ih93 =>
                intro y8_93 fq44_93 H locs hn8_93 hμ93 hR hB ls hl
                replace hR := (D_X10_sum_93_s).symm.trans hR
                refine lv_iload hx hb dX10_sum_93 (lv_at hl 0 rfl) ?_
                refine lv_aload hx hb dX10_sum_95 (lv_at hl 1 rfl) ?_
                refine gf (k0 := 1) hX hB rfl rfl in7 2 (by decide) wm_5_154 rfl rfl dX10_sum_97 ?_
                refine alenL (k0 := 0) (v := nI ((r (2 * y.toNatClampNeg)) * 5)) hX hB rfl rfl dX10_sum_100 ?_
                refine lv_icmp_ge (tgt := 145) hx hb dX10_sum_101 (by decide) (fun c70 => ?_) (fun c70 => ?_)
                · rw [nleP (a := (r (2 * y.toNatClampNeg)) * 5) (b := y8_93) (by omega) (by omega)] at c70
                  replace hR := ifp c70 hR
                  refine lv_aload_n hx hb dX10_sum_145 rfl (lv_at hl 4 rfl) ?_
                  refine lv_iload hx hb dX10_sum_146 (lv_at hl 8 rfl) ?_
                  refine lv_aload hx hb dX10_sum_148 (lv_at hl 1 rfl) ?_
                  obtain ⟨x71, rn73, fn74, qn75, hd76⟩ := ex4 (D_X10_become r f (va_up q 3 t35) u (r (2 * y.toNatClampNeg)) (r (2 * y.toNatClampNeg + 1)) fq44_93)
                  replace hR := bnd4_use hd76 hR
                  refine call_V (n := 2) (k0 := 2) (As := [.int u, .ref q43]) (rest := []) hX hB (k_X10_become κ l w a r f (va_up q 3 t35) u q43 q44 (r (2 * y.toNatClampNeg)) (r (2 * y.toNatClampNeg + 1)) fq44_93 hm ⟨by omega, by omega, by omega, by omega⟩ (by assumption) (by assumption) x71 rn73 fn74 qn75 hd76) ⟨rfl, by decide, by decide, by decide +kernel⟩ wm_6_108 wm_6_110 wp_37 wm_1_6 wm_6_111 ⟨Nat.le_of_ble_eq_true rfl, Nat.le_of_ble_eq_true rfl⟩ ⟨Nat.le_of_ble_eq_true rfl, Nat.le_of_ble_eq_true rfl⟩ (mw0x (a := a) (r := r) (f := f) (q := (va_up q 3 t35)) (T := tb a) (w := w) rfl) rfl rfl rfl hl.1 rfl (Nat.le_of_ble_eq_true rfl) dX10_sum_150 (fun o w' H locs hp hB => ?_)
                  obtain ⟨an72, rfl, hf77, hf78, hf79, hw9⟩ := hp
                  replace hB : Bd κ A s (mw κ an72 rn73 fn74 qn75 (tb an72) w) H locs := by rw [hw9] at hB; exact hB
                  refine W.eq (g2 := F0 m 153 ls [.int x71]) rfl ?_
                  rw [← hQ]
                  exact end_i hX hB hA3 rfl rfl (by obtain ⟨rfl, rfl, rfl, rfl⟩ := pr4 hR; exact ⟨an72, rfl, (hf77.trans rfl), hf78, (hf79.trans rfl), rfl⟩) (Nat.le_of_ble_eq_true rfl) (Nat.le_of_ble_eq_true rfl) dX10_sum_153
                · rw [nleP (a := (r (2 * y.toNatClampNeg)) * 5) (b := y8_93) (by omega) (by omega)] at c70
                  replace hR := ifn c70 hR
                  refine lv_aload hx hb dX10_sum_104 (lv_at hl 1 rfl) ?_
                  refine gf (k0 := 1) hX hB rfl rfl in7 2 (by decide) wm_5_154 rfl rfl dX10_sum_106 ?_
                  refine lv_iload hx hb dX10_sum_109 (lv_at hl 0 rfl) ?_
                  refine lv_dup2_11 hx hb dX10_sum_111 rfl rfl ?_
                  refine laldN (k0 := 0) (k := y8_93) hX hB rfl (by omega) (by omega) dX10_sum_112 ?_
                  refine lv_iload_n hx hb dX10_sum_113 rfl (lv_at hl 7 rfl) ?_
                  refine lv_if_eq (tgt := 129) hx hb dX10_sum_114 (by decide) (fun c80 => ?_) (fun c80 => ?_)
                  · replace hR := ifp c80 hR
                    refine lv_aload hx hb dX10_sum_129 (lv_at hl 2 rfl) ?_
                    refine gf (k0 := 2 + 2 * z.toNatClampNeg + 2) hX hB (mwG (i := z.toNatClampNeg) (a := a) (r := r) (f := f) (q := (va_up q 3 t35)) (T := tb a) (w := w) (by omega)) rfl in7 2 (by decide) wm_5_154 rfl rfl dX10_sum_131 ?_
                    refine lv_iload hx hb dX10_sum_134 (lv_at hl 0 rfl) ?_
                    refine laldN (k0 := 3 + 2 * z.toNatClampNeg + 2) (k := y8_93) hX hB (mwA (i := z.toNatClampNeg) (a := a) (r := r) (f := f) (q := (va_up q 3 t35)) (T := tb a) (w := w) (by omega)) (by omega) (by omega) dX10_sum_136 ?_
                    refine lv_ladd hx hb dX10_sum_137 ?_
                    refine lastN (k0 := 0) (k := y8_93) hX hB rfl (by omega) (by omega) (w1 := lA κ q44 ((r (2 * y.toNatClampNeg)) * 5) (vp_updL fq44_93 y8_93 ((fq44_93 y8_93) + ((f z.toNatClampNeg) y8_93))) :: gO q43 (r (2 * y.toNatClampNeg)) (r (2 * y.toNatClampNeg + 1)) q44 :: mw κ a r f (va_up q 3 t35) (tb a) w) rfl dX10_sum_138 (fun H locs hB => ?_)
                    refine lv_iinc (v := nI (y8_93 + 1)) (lv' := [(8, .int (nI (y8_93 + 1))), (7, .ref q43), (6, .ref (a (2 + 2 * z.toNatClampNeg))), (5, .ref (a (2 + 2 * y.toNatClampNeg))), (0, .ref (a 0)), (1, .int y), (2, .int z), (3, .int c0), (4, .int u)]) hx hb dX10_sum_139 hl (k := 0) rfl (nI_add y8_93 1) (by decide) rfl (fun ls hl => ?_)
                    refine lv_goto (tgt := 93) hx hb dX10_sum_142 (by decide) ?_
                    exact ih93 (y8_93 + 1) (vp_updL fq44_93 y8_93 ((fq44_93 y8_93) + ((f z.toNatClampNeg) y8_93))) _ _ (by omega) (by omega) hR hB _ hl
                  · replace hR := ifn c80 hR
                    refine lv_aload hx hb dX10_sum_117 (lv_at hl 2 rfl) ?_
                    refine gf (k0 := 2 + 2 * z.toNatClampNeg + 2) hX hB (mwG (i := z.toNatClampNeg) (a := a) (r := r) (f := f) (q := (va_up q 3 t35)) (T := tb a) (w := w) (by omega)) rfl in7 2 (by decide) wm_5_154 rfl rfl dX10_sum_119 ?_
                    refine lv_iload hx hb dX10_sum_122 (lv_at hl 0 rfl) ?_
                    refine laldN (k0 := 3 + 2 * z.toNatClampNeg + 2) (k := y8_93) hX hB (mwA (i := z.toNatClampNeg) (a := a) (r := r) (f := f) (q := (va_up q 3 t35)) (T := tb a) (w := w) (by omega)) (by omega) (by omega) dX10_sum_124 ?_
                    refine lv_lneg hx hb dX10_sum_125 ?_
                    refine lv_goto (tgt := 137) hx hb dX10_sum_126 (by decide) ?_
                    refine lv_ladd hx hb dX10_sum_137 ?_
                    refine lastN (k0 := 0) (k := y8_93) hX hB rfl (by omega) (by omega) (w1 := lA κ q44 ((r (2 * y.toNatClampNeg)) * 5) (vp_updL fq44_93 y8_93 ((fq44_93 y8_93) + (-((f z.toNatClampNeg) y8_93)))) :: gO q43 (r (2 * y.toNatClampNeg)) (r (2 * y.toNatClampNeg + 1)) q44 :: mw κ a r f (va_up q 3 t35) (tb a) w) rfl dX10_sum_138 (fun H locs hB => ?_)
                    refine lv_iinc (v := nI (y8_93 + 1)) (lv' := [(8, .int (nI (y8_93 + 1))), (7, .ref q43), (6, .ref (a (2 + 2 * z.toNatClampNeg))), (5, .ref (a (2 + 2 * y.toNatClampNeg))), (0, .ref (a 0)), (1, .int y), (2, .int z), (3, .int c0), (4, .int u)]) hx hb dX10_sum_139 hl (k := 0) rfl (nI_add y8_93 1) (by decide) rfl (fun ls hl => ?_)
                    refine lv_goto (tgt := 93) hx hb dX10_sum_142 (by decide) ?_
                    exact ih93 (y8_93 + 1) (vp_updL fq44_93 y8_93 ((fq44_93 y8_93) + (-((f z.toNatClampNeg) y8_93)))) _ _ (by omega) (by omega) hR hB _ hl
            exact lp93 _ 0 F45 _ _ (by omega) (Nat.lt_succ_self _) hR hB _ hl
          · rw [neqP (a := r (2 * y.toNatClampNeg + 1)) (b := r (2 * z.toNatClampNeg + 1)) (by omega) (by omega)] at c42
            replace hR := ifn c42 hR
            refine lv_aload_n hx hb dX10_sum_78 rfl (lv_at hl 2 rfl) ?_
            refine call_V (n := 0) (k0 := 0) (As := []) (rest := []) hX hB (k_X10_no κ l (mw κ a r f (va_up q 3 t35) (tb a) w) 0 (a 0) (a 1) ((va_up q 3 t35) 0) ((va_up q 3 t35) 1) ((va_up q 3 t35) 2) ((va_up q 3 t35) 3) (mw0x (a := a) (r := r) (f := f) (q := (va_up q 3 t35)) (T := tb a) (w := w) rfl)) ⟨rfl, by decide, by decide, by decide +kernel⟩ wm_6_89 wm_6_91 wp_36 wm_1_6 wm_6_92 ⟨Nat.le_of_ble_eq_true rfl, Nat.le_of_ble_eq_true rfl⟩ ⟨Nat.le_of_ble_eq_true rfl, Nat.le_of_ble_eq_true rfl⟩ (mw0x (a := a) (r := r) (f := f) (q := (va_up q 3 t35)) (T := tb a) (w := w) rfl) rfl rfl rfl hl.1 rfl (Nat.le_of_ble_eq_true rfl) dX10_sum_79 (fun o w' H locs hp hB => ?_)
            obtain ⟨rfl, hw9⟩ := hp
            replace hB : Bd κ A s (mw κ a r f (va_up (va_up q 3 t35) 1 (((va_up q 3 t35) 1) + 1)) (tb a) w) H locs := by exact Bd_eq (mwQ1x rfl _) (by rw [hw9] at hB; exact hB)
            refine W.eq (g2 := F0 m 82 ls [.int (-9)]) rfl ?_
            rw [← hQ]
            exact end_i hX hB hA3 rfl rfl (by obtain ⟨rfl, rfl, rfl, rfl⟩ := pr4 hR; exact ⟨a, rfl, rfl, hm, rfl, rfl⟩) (Nat.le_of_ble_eq_true rfl) (Nat.le_of_ble_eq_true rfl) dX10_sum_82
noncomputable def D_X10_multiply (r : Nat → Nat) (f : Nat → Nat → Int64) (q : Nat → Int32) (y : Int32) (z : Int32) (u : Int32) : Int32 × (Nat → Nat) × (Nat → Nat → Int64) × (Nat → Int32) := bnd1 (D_X10_isTable y) (fun (z1 : Int32) => (if z1 = 0 then bnd2 (D_X10_isThrown__ (q 0) (q 1) (q 2) (q 3) 1) (fun (x6 : Int32) (t7 : Int32) => (0, r, f, va_up q 3 t7)) else bnd1 (D_X10_isTable z) (fun (z12 : Int32) => (if z12 = 0 then bnd2 (D_X10_isThrown__ (q 0) (q 1) (q 2) (q 3) 1) (fun (x17 : Int32) (t18 : Int32) => (0, r, f, va_up q 3 t18)) else bnd1 (D_X10_isTable u) (fun (z23 : Int32) => (if z23 = 0 then bnd2 (D_X10_isThrown__ (q 0) (q 1) (q 2) (q 3) 1) (fun (x28 : Int32) (t29 : Int32) => (0, r, f, va_up q 3 t29)) else bnd2 (D_X10_isThrown__ (q 0) (q 1) (q 2) (q 3) 0) (fun (x34 : Int32) (t35 : Int32) => (if (r (2 * y.toNatClampNeg + 1)) = (r (2 * z.toNatClampNeg)) then bnd1 (D_X7_product (r (2 * y.toNatClampNeg)) (r (2 * y.toNatClampNeg + 1)) (f y.toNatClampNeg) (r (2 * z.toNatClampNeg)) (r (2 * z.toNatClampNeg + 1)) (f z.toNatClampNeg)) (fun (F46 : Nat → Int64) => bnd4 (D_X10_become r f (va_up q 3 t35) u (r (2 * y.toNatClampNeg)) (r (2 * z.toNatClampNeg + 1)) F46) (fun (x48 : Int32) (rn50 : Nat → Nat) (fn51 : Nat → Nat → Int64) (qn52 : Nat → Int32) => (x48, rn50, fn51, qn52))) else (-9, r, f, va_up (va_up q 3 t35) 1 (((va_up q 3 t35) 1) + 1))))))))))
theorem D_X10_multiply_s {r : Nat → Nat} {f : Nat → Nat → Int64} {q : Nat → Int32} {y : Int32} {z : Int32} {u : Int32} : D_X10_multiply r f q y z u = bnd1 (D_X10_isTable y) (fun (z1 : Int32) => (if z1 = 0 then bnd2 (D_X10_isThrown__ (q 0) (q 1) (q 2) (q 3) 1) (fun (x6 : Int32) (t7 : Int32) => (0, r, f, va_up q 3 t7)) else bnd1 (D_X10_isTable z) (fun (z12 : Int32) => (if z12 = 0 then bnd2 (D_X10_isThrown__ (q 0) (q 1) (q 2) (q 3) 1) (fun (x17 : Int32) (t18 : Int32) => (0, r, f, va_up q 3 t18)) else bnd1 (D_X10_isTable u) (fun (z23 : Int32) => (if z23 = 0 then bnd2 (D_X10_isThrown__ (q 0) (q 1) (q 2) (q 3) 1) (fun (x28 : Int32) (t29 : Int32) => (0, r, f, va_up q 3 t29)) else bnd2 (D_X10_isThrown__ (q 0) (q 1) (q 2) (q 3) 0) (fun (x34 : Int32) (t35 : Int32) => (if (r (2 * y.toNatClampNeg + 1)) = (r (2 * z.toNatClampNeg)) then bnd1 (D_X7_product (r (2 * y.toNatClampNeg)) (r (2 * y.toNatClampNeg + 1)) (f y.toNatClampNeg) (r (2 * z.toNatClampNeg)) (r (2 * z.toNatClampNeg + 1)) (f z.toNatClampNeg)) (fun (F46 : Nat → Int64) => bnd4 (D_X10_become r f (va_up q 3 t35) u (r (2 * y.toNatClampNeg)) (r (2 * z.toNatClampNeg + 1)) F46) (fun (x48 : Int32) (rn50 : Nat → Nat) (fn51 : Nat → Nat → Int64) (qn52 : Nat → Int32) => (x48, rn50, fn51, qn52))) else (-9, r, f, va_up (va_up q 3 t35) 1 (((va_up q 3 t35) 1) + 1)))))))))) := rfl
set_option maxHeartbeats 4000000 in
set_option maxRecDepth 100000 in
theorem k_X10_multiply (κ : Kt) (l : Launch) (w : va_W) (a r : Nat → Nat) (f : Nat → Nat → Int64) (q : Nat → Int32) (y : Int32) (z : Int32) (u : Int32) (hm : mok r f) (o_x : Int32) (o_r' : Nat → Nat) (o_f' : Nat → Nat → Int64) (o_q' : Nat → Int32) (hR : D_X10_multiply r f q y z u = (o_x, o_r', o_f', o_q')) : CM κ l yX10_multiply cX10_multiply 4 (some .int) 3 69 2 23 [.ref (a 0), .int y, .int z, .int u] (mw κ a r f q (tb a) w) (fun o w' => ∃ (a' : Nat → Nat), o = some (.int o_x) ∧ (a' 0 = a 0) ∧ (mok o_r' o_f') ∧ (o_q' 2 = q 2) ∧ w' = mw κ a' o_r' o_f' o_q' (tb a') w) := by
  refine CM_begin (plainFor_of_name (by decide)) (Nat.le_of_ble_eq_true rfl) ?_
  intro p e s m args below meth c A Q hX hnm hA3 hQ hB ls hl
  have hx := hX.1.1
  have hb := hX.1.2.1
  have hl : lv_has ls 4 [(0, .ref (a 0)), (1, .int y), (2, .int z), (3, .int u)] := hl
  replace hR := (D_X10_multiply_s).symm.trans hR
  refine lv_aload_n hx hb dX10_multiply_0 rfl (lv_at hl 0 rfl) ?_
  refine lv_iload_n hx hb dX10_multiply_1 rfl (lv_at hl 1 rfl) ?_
  obtain ⟨z1, hd2⟩ := ex1 (D_X10_isTable y)
  replace hR := bnd1_use hd2 hR
  refine call_S (n := 1) (As := [.int y]) (rest := [.ref (a 0)]) hX hB (k_X10_isTable κ l (mw κ a r f q (tb a) w) y z1 hd2) ⟨by decide, by decide, by decide +kernel⟩ wm_5_186 wm_5_187 wm_1_6 wm_5_188 ⟨Nat.le_of_ble_eq_true rfl, Nat.le_of_ble_eq_true rfl⟩ ⟨Nat.le_of_ble_eq_true rfl, Nat.le_of_ble_eq_true rfl⟩ rfl hl.1 rfl (Nat.le_of_ble_eq_true rfl) dX10_multiply_2 (fun o w' H locs hp hB => ?_)
  obtain ⟨rfl, hf3, hw9⟩ := hp
  replace hB : Bd κ A s (mw κ a r f q (tb a) w) H locs := by rw [hw9] at hB; exact hB
  rcases hf3 with rfl | ⟨rfl, hz4a, hz4b⟩
  · replace hR := ifp rfl hR
    refine W.eq (g2 := F0 m 5 ls [.int 0, .ref (a 0)]) rfl ?_
    refine lv_if_eq (tgt := 22) hx hb dX10_multiply_5 (by decide) (fun _ => ?_) (fun c5 => False.elim (by revert c5; decide))
    refine lv_iconst (v := 1) hx hb dX10_multiply_22 (by decide) ?_
    refine lv_goto (tgt := 27) hx hb dX10_multiply_23 (by decide) ?_
    obtain ⟨x6, t7, hd8⟩ := ex2 (D_X10_isThrown__ (q 0) (q 1) (q 2) (q 3) 1)
    replace hR := bnd2_use hd8 hR
    refine call_V (n := 1) (k0 := 0) (As := [.int 1]) (rest := []) hX hB (k_X10_isThrown__ κ l (mw κ a r f q (tb a) w) 0 (a 0) (a 1) (q 0) (q 1) (q 2) (q 3) 1 (mw0x (a := a) (r := r) (f := f) (q := q) (T := tb a) (w := w) rfl) x6 t7 hd8) ⟨rfl, by decide, by decide, by decide +kernel⟩ wm_6_15 wm_6_17 wp_33 wm_1_6 wm_6_18 ⟨Nat.le_of_ble_eq_true rfl, Nat.le_of_ble_eq_true rfl⟩ ⟨Nat.le_of_ble_eq_true rfl, Nat.le_of_ble_eq_true rfl⟩ (mw0x (a := a) (r := r) (f := f) (q := q) (T := tb a) (w := w) rfl) rfl rfl rfl hl.1 rfl (Nat.le_of_ble_eq_true rfl) dX10_multiply_27 (fun o w' H locs hp hB => ?_)
    obtain ⟨rfl, hf9, hw9⟩ := hp
    replace hB : Bd κ A s (mw κ a r f (va_up q 3 t7) (tb a) w) H locs := by exact Bd_eq (mwQ3x rfl _) (by rw [hw9] at hB; exact hB)
    obtain rfl : x6 = 1 := hf9.trans (by decide)
    refine W.eq (g2 := F0 m 30 ls [.int 1]) rfl ?_
    refine lv_if_eq (tgt := 35) hx hb dX10_multiply_30 (by decide) (fun c10 => False.elim (by revert c10; decide)) (fun _ => ?_)
    refine lv_iconst (v := 0) hx hb dX10_multiply_33 (by decide) ?_
    rw [← hQ]
    exact end_i hX hB hA3 rfl rfl (by obtain ⟨rfl, rfl, rfl, rfl⟩ := pr4 hR; exact ⟨a, rfl, rfl, hm, rfl, rfl⟩) (Nat.le_of_ble_eq_true rfl) (Nat.le_of_ble_eq_true rfl) dX10_multiply_34
  · replace hR := ifn (by decide) hR
    refine W.eq (g2 := F0 m 5 ls [.int 1, .ref (a 0)]) rfl ?_
    refine lv_if_eq (tgt := 22) hx hb dX10_multiply_5 (by decide) (fun c11 => False.elim (by revert c11; decide)) (fun _ => ?_)
    refine lv_iload_n hx hb dX10_multiply_8 rfl (lv_at hl 2 rfl) ?_
    obtain ⟨z12, hd13⟩ := ex1 (D_X10_isTable z)
    replace hR := bnd1_use hd13 hR
    refine call_S (n := 1) (As := [.int z]) (rest := [.ref (a 0)]) hX hB (k_X10_isTable κ l (mw κ a r f q (tb a) w) z z12 hd13) ⟨by decide, by decide, by decide +kernel⟩ wm_5_186 wm_5_187 wm_1_6 wm_5_188 ⟨Nat.le_of_ble_eq_true rfl, Nat.le_of_ble_eq_true rfl⟩ ⟨Nat.le_of_ble_eq_true rfl, Nat.le_of_ble_eq_true rfl⟩ rfl hl.1 rfl (Nat.le_of_ble_eq_true rfl) dX10_multiply_9 (fun o w' H locs hp hB => ?_)
    obtain ⟨rfl, hf14, hw9⟩ := hp
    replace hB : Bd κ A s (mw κ a r f q (tb a) w) H locs := by rw [hw9] at hB; exact hB
    rcases hf14 with rfl | ⟨rfl, hz15a, hz15b⟩
    · replace hR := ifp rfl hR
      refine W.eq (g2 := F0 m 12 ls [.int 0, .ref (a 0)]) rfl ?_
      refine lv_if_eq (tgt := 22) hx hb dX10_multiply_12 (by decide) (fun _ => ?_) (fun c16 => False.elim (by revert c16; decide))
      refine lv_iconst (v := 1) hx hb dX10_multiply_22 (by decide) ?_
      refine lv_goto (tgt := 27) hx hb dX10_multiply_23 (by decide) ?_
      obtain ⟨x17, t18, hd19⟩ := ex2 (D_X10_isThrown__ (q 0) (q 1) (q 2) (q 3) 1)
      replace hR := bnd2_use hd19 hR
      refine call_V (n := 1) (k0 := 0) (As := [.int 1]) (rest := []) hX hB (k_X10_isThrown__ κ l (mw κ a r f q (tb a) w) 0 (a 0) (a 1) (q 0) (q 1) (q 2) (q 3) 1 (mw0x (a := a) (r := r) (f := f) (q := q) (T := tb a) (w := w) rfl) x17 t18 hd19) ⟨rfl, by decide, by decide, by decide +kernel⟩ wm_6_15 wm_6_17 wp_33 wm_1_6 wm_6_18 ⟨Nat.le_of_ble_eq_true rfl, Nat.le_of_ble_eq_true rfl⟩ ⟨Nat.le_of_ble_eq_true rfl, Nat.le_of_ble_eq_true rfl⟩ (mw0x (a := a) (r := r) (f := f) (q := q) (T := tb a) (w := w) rfl) rfl rfl rfl hl.1 rfl (Nat.le_of_ble_eq_true rfl) dX10_multiply_27 (fun o w' H locs hp hB => ?_)
      obtain ⟨rfl, hf20, hw9⟩ := hp
      replace hB : Bd κ A s (mw κ a r f (va_up q 3 t18) (tb a) w) H locs := by exact Bd_eq (mwQ3x rfl _) (by rw [hw9] at hB; exact hB)
      obtain rfl : x17 = 1 := hf20.trans (by decide)
      refine W.eq (g2 := F0 m 30 ls [.int 1]) rfl ?_
      refine lv_if_eq (tgt := 35) hx hb dX10_multiply_30 (by decide) (fun c21 => False.elim (by revert c21; decide)) (fun _ => ?_)
      refine lv_iconst (v := 0) hx hb dX10_multiply_33 (by decide) ?_
      rw [← hQ]
      exact end_i hX hB hA3 rfl rfl (by obtain ⟨rfl, rfl, rfl, rfl⟩ := pr4 hR; exact ⟨a, rfl, rfl, hm, rfl, rfl⟩) (Nat.le_of_ble_eq_true rfl) (Nat.le_of_ble_eq_true rfl) dX10_multiply_34
    · replace hR := ifn (by decide) hR
      refine W.eq (g2 := F0 m 12 ls [.int 1, .ref (a 0)]) rfl ?_
      refine lv_if_eq (tgt := 22) hx hb dX10_multiply_12 (by decide) (fun c22 => False.elim (by revert c22; decide)) (fun _ => ?_)
      refine lv_iload_n hx hb dX10_multiply_15 rfl (lv_at hl 3 rfl) ?_
      obtain ⟨z23, hd24⟩ := ex1 (D_X10_isTable u)
      replace hR := bnd1_use hd24 hR
      refine call_S (n := 1) (As := [.int u]) (rest := [.ref (a 0)]) hX hB (k_X10_isTable κ l (mw κ a r f q (tb a) w) u z23 hd24) ⟨by decide, by decide, by decide +kernel⟩ wm_5_186 wm_5_187 wm_1_6 wm_5_188 ⟨Nat.le_of_ble_eq_true rfl, Nat.le_of_ble_eq_true rfl⟩ ⟨Nat.le_of_ble_eq_true rfl, Nat.le_of_ble_eq_true rfl⟩ rfl hl.1 rfl (Nat.le_of_ble_eq_true rfl) dX10_multiply_16 (fun o w' H locs hp hB => ?_)
      obtain ⟨rfl, hf25, hw9⟩ := hp
      replace hB : Bd κ A s (mw κ a r f q (tb a) w) H locs := by rw [hw9] at hB; exact hB
      rcases hf25 with rfl | ⟨rfl, hz26a, hz26b⟩
      · replace hR := ifp rfl hR
        refine W.eq (g2 := F0 m 19 ls [.int 0, .ref (a 0)]) rfl ?_
        refine lv_if_ne (tgt := 26) hx hb dX10_multiply_19 (by decide) (fun c27 => False.elim (by revert c27; decide)) (fun _ => ?_)
        refine lv_iconst (v := 1) hx hb dX10_multiply_22 (by decide) ?_
        refine lv_goto (tgt := 27) hx hb dX10_multiply_23 (by decide) ?_
        obtain ⟨x28, t29, hd30⟩ := ex2 (D_X10_isThrown__ (q 0) (q 1) (q 2) (q 3) 1)
        replace hR := bnd2_use hd30 hR
        refine call_V (n := 1) (k0 := 0) (As := [.int 1]) (rest := []) hX hB (k_X10_isThrown__ κ l (mw κ a r f q (tb a) w) 0 (a 0) (a 1) (q 0) (q 1) (q 2) (q 3) 1 (mw0x (a := a) (r := r) (f := f) (q := q) (T := tb a) (w := w) rfl) x28 t29 hd30) ⟨rfl, by decide, by decide, by decide +kernel⟩ wm_6_15 wm_6_17 wp_33 wm_1_6 wm_6_18 ⟨Nat.le_of_ble_eq_true rfl, Nat.le_of_ble_eq_true rfl⟩ ⟨Nat.le_of_ble_eq_true rfl, Nat.le_of_ble_eq_true rfl⟩ (mw0x (a := a) (r := r) (f := f) (q := q) (T := tb a) (w := w) rfl) rfl rfl rfl hl.1 rfl (Nat.le_of_ble_eq_true rfl) dX10_multiply_27 (fun o w' H locs hp hB => ?_)
        obtain ⟨rfl, hf31, hw9⟩ := hp
        replace hB : Bd κ A s (mw κ a r f (va_up q 3 t29) (tb a) w) H locs := by exact Bd_eq (mwQ3x rfl _) (by rw [hw9] at hB; exact hB)
        obtain rfl : x28 = 1 := hf31.trans (by decide)
        refine W.eq (g2 := F0 m 30 ls [.int 1]) rfl ?_
        refine lv_if_eq (tgt := 35) hx hb dX10_multiply_30 (by decide) (fun c32 => False.elim (by revert c32; decide)) (fun _ => ?_)
        refine lv_iconst (v := 0) hx hb dX10_multiply_33 (by decide) ?_
        rw [← hQ]
        exact end_i hX hB hA3 rfl rfl (by obtain ⟨rfl, rfl, rfl, rfl⟩ := pr4 hR; exact ⟨a, rfl, rfl, hm, rfl, rfl⟩) (Nat.le_of_ble_eq_true rfl) (Nat.le_of_ble_eq_true rfl) dX10_multiply_34
      · replace hR := ifn (by decide) hR
        refine W.eq (g2 := F0 m 19 ls [.int 1, .ref (a 0)]) rfl ?_
        refine lv_if_ne (tgt := 26) hx hb dX10_multiply_19 (by decide) (fun _ => ?_) (fun c33 => False.elim (by revert c33; decide))
        refine lv_iconst (v := 0) hx hb dX10_multiply_26 (by decide) ?_
        obtain ⟨x34, t35, hd36⟩ := ex2 (D_X10_isThrown__ (q 0) (q 1) (q 2) (q 3) 0)
        replace hR := bnd2_use hd36 hR
        refine call_V (n := 1) (k0 := 0) (As := [.int 0]) (rest := []) hX hB (k_X10_isThrown__ κ l (mw κ a r f q (tb a) w) 0 (a 0) (a 1) (q 0) (q 1) (q 2) (q 3) 0 (mw0x (a := a) (r := r) (f := f) (q := q) (T := tb a) (w := w) rfl) x34 t35 hd36) ⟨rfl, by decide, by decide, by decide +kernel⟩ wm_6_15 wm_6_17 wp_33 wm_1_6 wm_6_18 ⟨Nat.le_of_ble_eq_true rfl, Nat.le_of_ble_eq_true rfl⟩ ⟨Nat.le_of_ble_eq_true rfl, Nat.le_of_ble_eq_true rfl⟩ (mw0x (a := a) (r := r) (f := f) (q := q) (T := tb a) (w := w) rfl) rfl rfl rfl hl.1 rfl (Nat.le_of_ble_eq_true rfl) dX10_multiply_27 (fun o w' H locs hp hB => ?_)
        obtain ⟨rfl, hf37, hw9⟩ := hp
        replace hB : Bd κ A s (mw κ a r f (va_up q 3 t35) (tb a) w) H locs := by exact Bd_eq (mwQ3x rfl _) (by rw [hw9] at hB; exact hB)
        obtain rfl : x34 = 0 := hf37.trans (by decide)
        refine W.eq (g2 := F0 m 30 ls [.int 0]) rfl ?_
        refine lv_if_eq (tgt := 35) hx hb dX10_multiply_30 (by decide) (fun _ => ?_) (fun c38 => False.elim (by revert c38; decide))
        refine lv_aload_n hx hb dX10_multiply_35 rfl (lv_at hl 0 rfl) ?_
        refine gf (k0 := 0) hX hB (mw0x (a := a) (r := r) (f := f) (q := (va_up q 3 t35)) (T := tb a) (w := w) rfl) rfl in10 0 (by decide) wm_5_162 rfl rfl dX10_multiply_36 ?_
        refine lv_iload_n hx hb dX10_multiply_39 rfl (lv_at hl 1 rfl) ?_
        refine aaldM (k0 := 1) hX hB (mw1 (a := a) (r := r) (f := f) (q := (va_up q 3 t35)) (T := tb a) (w := w)) (vp_in_mk (by assumption) (by assumption)) rfl dX10_multiply_40 ?_
        have hb39 := mok_r hm y.toNatClampNeg (by omega)
        refine gf (k0 := 2 + 2 * y.toNatClampNeg) hX hB (mwG (i := y.toNatClampNeg) (a := a) (r := r) (f := f) (q := (va_up q 3 t35)) (T := tb a) (w := w) (by omega)) rfl in7 1 (by decide) wm_5_152 rfl rfl dX10_multiply_41 ?_
        refine lv_aload_n hx hb dX10_multiply_44 rfl (lv_at hl 0 rfl) ?_
        refine gf (k0 := 0) hX hB (mw0x (a := a) (r := r) (f := f) (q := (va_up q 3 t35)) (T := tb a) (w := w) rfl) rfl in10 0 (by decide) wm_5_162 rfl rfl dX10_multiply_45 ?_
        refine lv_iload_n hx hb dX10_multiply_48 rfl (lv_at hl 2 rfl) ?_
        refine aaldM (k0 := 1) hX hB (mw1 (a := a) (r := r) (f := f) (q := (va_up q 3 t35)) (T := tb a) (w := w)) (vp_in_mk (by assumption) (by assumption)) rfl dX10_multiply_49 ?_
        have hb40 := mok_r hm z.toNatClampNeg (by omega)
        refine gf (k0 := 2 + 2 * z.toNatClampNeg) hX hB (mwG (i := z.toNatClampNeg) (a := a) (r := r) (f := f) (q := (va_up q 3 t35)) (T := tb a) (w := w) (by omega)) rfl in7 0 (by decide) wm_5_148 rfl rfl dX10_multiply_50 ?_
        refine lv_icmp_eq (tgt := 63) hx hb dX10_multiply_53 (by decide) (fun c41 => ?_) (fun c41 => ?_)
        · rw [neqP (a := r (2 * y.toNatClampNeg + 1)) (b := r (2 * z.toNatClampNeg)) (by omega) (by omega)] at c41
          replace hR := ifp c41 hR
          refine lv_aload_n hx hb dX10_multiply_63 rfl (lv_at hl 0 rfl) ?_
          refine lv_iload_n hx hb dX10_multiply_64 rfl (lv_at hl 3 rfl) ?_
          refine lv_aload_n hx hb dX10_multiply_65 rfl (lv_at hl 0 rfl) ?_
          refine gf (k0 := 0) hX hB (mw0x (a := a) (r := r) (f := f) (q := (va_up q 3 t35)) (T := tb a) (w := w) rfl) rfl in10 0 (by decide) wm_5_162 rfl rfl dX10_multiply_66 ?_
          refine lv_iload_n hx hb dX10_multiply_69 rfl (lv_at hl 1 rfl) ?_
          refine aaldM (k0 := 1) hX hB (mw1 (a := a) (r := r) (f := f) (q := (va_up q 3 t35)) (T := tb a) (w := w)) (vp_in_mk (by assumption) (by assumption)) rfl dX10_multiply_70 ?_
          have hb42 := mok_r hm y.toNatClampNeg (by omega)
          refine lv_aload_n hx hb dX10_multiply_71 rfl (lv_at hl 0 rfl) ?_
          refine gf (k0 := 0) hX hB (mw0x (a := a) (r := r) (f := f) (q := (va_up q 3 t35)) (T := tb a) (w := w) rfl) rfl in10 0 (by decide) wm_5_162 rfl rfl dX10_multiply_72 ?_
          refine lv_iload_n hx hb dX10_multiply_75 rfl (lv_at hl 2 rfl) ?_
          refine aaldM (k0 := 1) hX hB (mw1 (a := a) (r := r) (f := f) (q := (va_up q 3 t35)) (T := tb a) (w := w)) (vp_in_mk (by assumption) (by assumption)) rfl dX10_multiply_76 ?_
          have hb43 := mok_r hm z.toNatClampNeg (by omega)
          obtain ⟨F46, hd47⟩ := ex1 (D_X7_product (r (2 * y.toNatClampNeg)) (r (2 * y.toNatClampNeg + 1)) (f y.toNatClampNeg) (r (2 * z.toNatClampNeg)) (r (2 * z.toNatClampNeg + 1)) (f z.toNatClampNeg))
          replace hR := bnd1_use hd47 hR
          refine call_V (n := 1) (k0 := (2 + 2 * y.toNatClampNeg)) (As := [.ref (a (2 + 2 * z.toNatClampNeg))]) (rest := [.int u, .ref (a 0)]) hX hB (k_X7_product κ l (mw κ a r f (va_up q 3 t35) (tb a) w) (2 + 2 * y.toNatClampNeg) (3 + 2 * y.toNatClampNeg) (a (2 + 2 * y.toNatClampNeg)) (a (3 + 2 * y.toNatClampNeg)) (r (2 * y.toNatClampNeg)) (r (2 * y.toNatClampNeg + 1)) (f y.toNatClampNeg) (2 + 2 * z.toNatClampNeg) (3 + 2 * z.toNatClampNeg) (a (2 + 2 * z.toNatClampNeg)) (a (3 + 2 * z.toNatClampNeg)) (r (2 * z.toNatClampNeg)) (r (2 * z.toNatClampNeg + 1)) (f z.toNatClampNeg) (mwG (i := y.toNatClampNeg) (a := a) (r := r) (f := f) (q := (va_up q 3 t35)) (T := tb a) (w := w) (by omega)) (mwA (i := y.toNatClampNeg) (a := a) (r := r) (f := f) (q := (va_up q 3 t35)) (T := tb a) (w := w) (by omega)) (mok_shp (i := y.toNatClampNeg) hm (by omega)) (mwG (i := z.toNatClampNeg) (a := a) (r := r) (f := f) (q := (va_up q 3 t35)) (T := tb a) (w := w) (by omega)) (mwA (i := z.toNatClampNeg) (a := a) (r := r) (f := f) (q := (va_up q 3 t35)) (T := tb a) (w := w) (by omega)) (mok_shp (i := z.toNatClampNeg) hm (by omega)) (by omega) F46 hd47) ⟨rfl, by decide, by decide, by decide +kernel⟩ wm_6_116 wm_6_117 wm_6_118 wm_1_7 wm_6_119 ⟨Nat.le_of_ble_eq_true rfl, Nat.le_of_ble_eq_true rfl⟩ ⟨Nat.le_of_ble_eq_true rfl, Nat.le_of_ble_eq_true rfl⟩ (mwG (i := y.toNatClampNeg) (a := a) (r := r) (f := f) (q := (va_up q 3 t35)) (T := tb a) (w := w) (by omega)) rfl rfl rfl hl.1 rfl (Nat.le_of_ble_eq_true rfl) dX10_multiply_77 (fun o w' H locs hp hB => ?_)
          obtain ⟨q44, q45, rfl, hw9⟩ := hp
          replace hB : Bd κ A s (lA κ q45 ((r (2 * y.toNatClampNeg)) * 5) F46 :: gO q44 (r (2 * y.toNatClampNeg)) (r (2 * z.toNatClampNeg + 1)) q45 :: mw κ a r f (va_up q 3 t35) (tb a) w) H locs := by rw [hw9] at hB; exact hB
          refine W.eq (g2 := F0 m 80 ls [.ref q44, .int u, .ref (a 0)]) rfl ?_
          obtain ⟨x48, rn50, fn51, qn52, hd53⟩ := ex4 (D_X10_become r f (va_up q 3 t35) u (r (2 * y.toNatClampNeg)) (r (2 * z.toNatClampNeg + 1)) F46)
          replace hR := bnd4_use hd53 hR
          refine call_V (n := 2) (k0 := 2) (As := [.int u, .ref q44]) (rest := []) hX hB (k_X10_become κ l w a r f (va_up q 3 t35) u q44 q45 (r (2 * y.toNatClampNeg)) (r (2 * z.toNatClampNeg + 1)) F46 hm ⟨by omega, by omega, by omega, by omega⟩ (by assumption) (by assumption) x48 rn50 fn51 qn52 hd53) ⟨rfl, by decide, by decide, by decide +kernel⟩ wm_6_108 wm_6_110 wp_37 wm_1_6 wm_6_111 ⟨Nat.le_of_ble_eq_true rfl, Nat.le_of_ble_eq_true rfl⟩ ⟨Nat.le_of_ble_eq_true rfl, Nat.le_of_ble_eq_true rfl⟩ (mw0x (a := a) (r := r) (f := f) (q := (va_up q 3 t35)) (T := tb a) (w := w) rfl) rfl rfl rfl hl.1 rfl (Nat.le_of_ble_eq_true rfl) dX10_multiply_80 (fun o w' H locs hp hB => ?_)
          obtain ⟨an49, rfl, hf54, hf55, hf56, hw9⟩ := hp
          replace hB : Bd κ A s (mw κ an49 rn50 fn51 qn52 (tb an49) w) H locs := by rw [hw9] at hB; exact hB
          refine W.eq (g2 := F0 m 83 ls [.int x48]) rfl ?_
          rw [← hQ]
          exact end_i hX hB hA3 rfl rfl (by obtain ⟨rfl, rfl, rfl, rfl⟩ := pr4 hR; exact ⟨an49, rfl, (hf54.trans rfl), hf55, (hf56.trans rfl), rfl⟩) (Nat.le_of_ble_eq_true rfl) (Nat.le_of_ble_eq_true rfl) dX10_multiply_83
        · rw [neqP (a := r (2 * y.toNatClampNeg + 1)) (b := r (2 * z.toNatClampNeg)) (by omega) (by omega)] at c41
          replace hR := ifn c41 hR
          refine lv_aload_n hx hb dX10_multiply_56 rfl (lv_at hl 0 rfl) ?_
          refine call_V (n := 0) (k0 := 0) (As := []) (rest := []) hX hB (k_X10_no κ l (mw κ a r f (va_up q 3 t35) (tb a) w) 0 (a 0) (a 1) ((va_up q 3 t35) 0) ((va_up q 3 t35) 1) ((va_up q 3 t35) 2) ((va_up q 3 t35) 3) (mw0x (a := a) (r := r) (f := f) (q := (va_up q 3 t35)) (T := tb a) (w := w) rfl)) ⟨rfl, by decide, by decide, by decide +kernel⟩ wm_6_89 wm_6_91 wp_36 wm_1_6 wm_6_92 ⟨Nat.le_of_ble_eq_true rfl, Nat.le_of_ble_eq_true rfl⟩ ⟨Nat.le_of_ble_eq_true rfl, Nat.le_of_ble_eq_true rfl⟩ (mw0x (a := a) (r := r) (f := f) (q := (va_up q 3 t35)) (T := tb a) (w := w) rfl) rfl rfl rfl hl.1 rfl (Nat.le_of_ble_eq_true rfl) dX10_multiply_57 (fun o w' H locs hp hB => ?_)
          obtain ⟨rfl, hw9⟩ := hp
          replace hB : Bd κ A s (mw κ a r f (va_up (va_up q 3 t35) 1 (((va_up q 3 t35) 1) + 1)) (tb a) w) H locs := by exact Bd_eq (mwQ1x rfl _) (by rw [hw9] at hB; exact hB)
          refine W.eq (g2 := F0 m 60 ls [.int (-9)]) rfl ?_
          refine lv_goto (tgt := 83) hx hb dX10_multiply_60 (by decide) ?_
          rw [← hQ]
          exact end_i hX hB hA3 rfl rfl (by obtain ⟨rfl, rfl, rfl, rfl⟩ := pr4 hR; exact ⟨a, rfl, rfl, hm, rfl, rfl⟩) (Nat.le_of_ble_eq_true rfl) (Nat.le_of_ble_eq_true rfl) dX10_multiply_83
noncomputable def D_X10_take (r : Nat → Nat) (f : Nat → Nat → Int64) (q : Nat → Int32) (y : Int32) (z : Int32) (u : Int32) : Int32 × (Nat → Nat) × (Nat → Nat → Int64) × (Nat → Int32) := bnd1 (D_X10_isTable y) (fun (z1 : Int32) => (if z1 = 0 then (if z < 0 then bnd2 (D_X10_isThrown_ (q 0) (q 1) (q 2) (q 3) 1 1) (fun (x7 : Int32) (t8 : Int32) => (0, r, f, va_up q 3 t8)) else (if z ≤ 4 then bnd2 (D_X10_isThrown_ (q 0) (q 1) (q 2) (q 3) 1 0) (fun (x13 : Int32) (t14 : Int32) => (0, r, f, va_up q 3 t14)) else bnd2 (D_X10_isThrown_ (q 0) (q 1) (q 2) (q 3) 1 1) (fun (x18 : Int32) (t19 : Int32) => (0, r, f, va_up q 3 t19)))) else bnd1 (D_X10_isTable u) (fun (z24 : Int32) => (if z24 = 0 then (if z < 0 then bnd2 (D_X10_isThrown_ (q 0) (q 1) (q 2) (q 3) 1 1) (fun (x30 : Int32) (t31 : Int32) => (0, r, f, va_up q 3 t31)) else (if z ≤ 4 then bnd2 (D_X10_isThrown_ (q 0) (q 1) (q 2) (q 3) 1 0) (fun (x36 : Int32) (t37 : Int32) => (0, r, f, va_up q 3 t37)) else bnd2 (D_X10_isThrown_ (q 0) (q 1) (q 2) (q 3) 1 1) (fun (x41 : Int32) (t42 : Int32) => (0, r, f, va_up q 3 t42)))) else (if z < 0 then bnd2 (D_X10_isThrown_ (q 0) (q 1) (q 2) (q 3) 0 1) (fun (x48 : Int32) (t49 : Int32) => (0, r, f, va_up q 3 t49)) else (if z ≤ 4 then bnd2 (D_X10_isThrown_ (q 0) (q 1) (q 2) (q 3) 0 0) (fun (x54 : Int32) (t55 : Int32) => bnd4 (D_X10_toldOf (r (2 * y.toNatClampNeg)) (r (2 * y.toNatClampNeg + 1)) (f y.toNatClampNeg) z) (fun (z60 : Int32) (R61 : Nat) (C62 : Nat) (F63 : Nat → Int64) => (if z60 = 0 then (-9, r, f, va_up (va_up q 3 t55) 1 (((va_up q 3 t55) 1) + 1)) else bnd4 (D_X10_become r f (va_up q 3 t55) u R61 C62 F63) (fun (x68 : Int32) (rn70 : Nat → Nat) (fn71 : Nat → Nat → Int64) (qn72 : Nat → Int32) => (x68, rn70, fn71, qn72))))) else bnd2 (D_X10_isThrown_ (q 0) (q 1) (q 2) (q 3) 0 1) (fun (x77 : Int32) (t78 : Int32) => (0, r, f, va_up q 3 t78))))))))
theorem D_X10_take_s {r : Nat → Nat} {f : Nat → Nat → Int64} {q : Nat → Int32} {y : Int32} {z : Int32} {u : Int32} : D_X10_take r f q y z u = bnd1 (D_X10_isTable y) (fun (z1 : Int32) => (if z1 = 0 then (if z < 0 then bnd2 (D_X10_isThrown_ (q 0) (q 1) (q 2) (q 3) 1 1) (fun (x7 : Int32) (t8 : Int32) => (0, r, f, va_up q 3 t8)) else (if z ≤ 4 then bnd2 (D_X10_isThrown_ (q 0) (q 1) (q 2) (q 3) 1 0) (fun (x13 : Int32) (t14 : Int32) => (0, r, f, va_up q 3 t14)) else bnd2 (D_X10_isThrown_ (q 0) (q 1) (q 2) (q 3) 1 1) (fun (x18 : Int32) (t19 : Int32) => (0, r, f, va_up q 3 t19)))) else bnd1 (D_X10_isTable u) (fun (z24 : Int32) => (if z24 = 0 then (if z < 0 then bnd2 (D_X10_isThrown_ (q 0) (q 1) (q 2) (q 3) 1 1) (fun (x30 : Int32) (t31 : Int32) => (0, r, f, va_up q 3 t31)) else (if z ≤ 4 then bnd2 (D_X10_isThrown_ (q 0) (q 1) (q 2) (q 3) 1 0) (fun (x36 : Int32) (t37 : Int32) => (0, r, f, va_up q 3 t37)) else bnd2 (D_X10_isThrown_ (q 0) (q 1) (q 2) (q 3) 1 1) (fun (x41 : Int32) (t42 : Int32) => (0, r, f, va_up q 3 t42)))) else (if z < 0 then bnd2 (D_X10_isThrown_ (q 0) (q 1) (q 2) (q 3) 0 1) (fun (x48 : Int32) (t49 : Int32) => (0, r, f, va_up q 3 t49)) else (if z ≤ 4 then bnd2 (D_X10_isThrown_ (q 0) (q 1) (q 2) (q 3) 0 0) (fun (x54 : Int32) (t55 : Int32) => bnd4 (D_X10_toldOf (r (2 * y.toNatClampNeg)) (r (2 * y.toNatClampNeg + 1)) (f y.toNatClampNeg) z) (fun (z60 : Int32) (R61 : Nat) (C62 : Nat) (F63 : Nat → Int64) => (if z60 = 0 then (-9, r, f, va_up (va_up q 3 t55) 1 (((va_up q 3 t55) 1) + 1)) else bnd4 (D_X10_become r f (va_up q 3 t55) u R61 C62 F63) (fun (x68 : Int32) (rn70 : Nat → Nat) (fn71 : Nat → Nat → Int64) (qn72 : Nat → Int32) => (x68, rn70, fn71, qn72))))) else bnd2 (D_X10_isThrown_ (q 0) (q 1) (q 2) (q 3) 0 1) (fun (x77 : Int32) (t78 : Int32) => (0, r, f, va_up q 3 t78)))))))) := rfl
set_option maxHeartbeats 4000000 in
set_option maxRecDepth 100000 in
theorem k_X10_take (κ : Kt) (l : Launch) (w : va_W) (a r : Nat → Nat) (f : Nat → Nat → Int64) (q : Nat → Int32) (y : Int32) (z : Int32) (u : Int32) (hm : mok r f) (o_x : Int32) (o_r' : Nat → Nat) (o_f' : Nat → Nat → Int64) (o_q' : Nat → Int32) (hR : D_X10_take r f q y z u = (o_x, o_r', o_f', o_q')) : CM κ l yX10_take cX10_take 5 (some .int) 6 144 7 76 [.ref (a 0), .int y, .int z, .int u] (mw κ a r f q (tb a) w) (fun o w' => ∃ (a' : Nat → Nat), o = some (.int o_x) ∧ (a' 0 = a 0) ∧ (mok o_r' o_f') ∧ (o_q' 2 = q 2) ∧ w' = mw κ a' o_r' o_f' o_q' (tb a') w) := by
  refine CM_begin (plainFor_of_name (by decide)) (Nat.le_of_ble_eq_true rfl) ?_
  intro p e s m args below meth c A Q hX hnm hA3 hQ hB ls hl
  have hx := hX.1.1
  have hb := hX.1.2.1
  have hl : lv_has ls 5 [(0, .ref (a 0)), (1, .int y), (2, .int z), (3, .int u)] := hl
  replace hR := (D_X10_take_s).symm.trans hR
  refine lv_aload_n hx hb dX10_take_0 rfl (lv_at hl 0 rfl) ?_
  refine lv_iload_n hx hb dX10_take_1 rfl (lv_at hl 1 rfl) ?_
  obtain ⟨z1, hd2⟩ := ex1 (D_X10_isTable y)
  replace hR := bnd1_use hd2 hR
  refine call_S (n := 1) (As := [.int y]) (rest := [.ref (a 0)]) hX hB (k_X10_isTable κ l (mw κ a r f q (tb a) w) y z1 hd2) ⟨by decide, by decide, by decide +kernel⟩ wm_5_186 wm_5_187 wm_1_6 wm_5_188 ⟨Nat.le_of_ble_eq_true rfl, Nat.le_of_ble_eq_true rfl⟩ ⟨Nat.le_of_ble_eq_true rfl, Nat.le_of_ble_eq_true rfl⟩ rfl hl.1 rfl (Nat.le_of_ble_eq_true rfl) dX10_take_2 (fun o w' H locs hp hB => ?_)
  obtain ⟨rfl, hf3, hw9⟩ := hp
  replace hB : Bd κ A s (mw κ a r f q (tb a) w) H locs := by rw [hw9] at hB; exact hB
  rcases hf3 with rfl | ⟨rfl, hz4a, hz4b⟩
  · replace hR := ifp rfl hR
    refine W.eq (g2 := F0 m 5 ls [.int 0, .ref (a 0)]) rfl ?_
    refine lv_if_eq (tgt := 15) hx hb dX10_take_5 (by decide) (fun _ => ?_) (fun c5 => False.elim (by revert c5; decide))
    refine lv_iconst (v := 1) hx hb dX10_take_15 (by decide) ?_
    refine lv_goto (tgt := 20) hx hb dX10_take_16 (by decide) ?_
    refine lv_iload_n hx hb dX10_take_20 rfl (lv_at hl 2 rfl) ?_
    refine lv_if_lt (tgt := 29) hx hb dX10_take_21 (by decide) (fun c6 => ?_) (fun c6 => ?_)
    · replace hR := ifp c6 hR
      refine lv_iconst (v := 1) hx hb dX10_take_29 (by decide) ?_
      refine lv_goto (tgt := 34) hx hb dX10_take_30 (by decide) ?_
      obtain ⟨x7, t8, hd9⟩ := ex2 (D_X10_isThrown_ (q 0) (q 1) (q 2) (q 3) 1 1)
      replace hR := bnd2_use hd9 hR
      refine call_V (n := 2) (k0 := 0) (As := [.int 1, .int 1]) (rest := []) hX hB (k_X10_isThrown_ κ l (mw κ a r f q (tb a) w) 0 (a 0) (a 1) (q 0) (q 1) (q 2) (q 3) 1 1 (mw0x (a := a) (r := r) (f := f) (q := q) (T := tb a) (w := w) rfl) x7 t8 hd9) ⟨rfl, by decide, by decide, by decide +kernel⟩ wm_5_192 wm_5_194 wp_27 wm_1_6 wm_5_195 ⟨Nat.le_of_ble_eq_true rfl, Nat.le_of_ble_eq_true rfl⟩ ⟨Nat.le_of_ble_eq_true rfl, Nat.le_of_ble_eq_true rfl⟩ (mw0x (a := a) (r := r) (f := f) (q := q) (T := tb a) (w := w) rfl) rfl rfl rfl hl.1 rfl (Nat.le_of_ble_eq_true rfl) dX10_take_34 (fun o w' H locs hp hB => ?_)
      obtain ⟨rfl, hf10, hw9⟩ := hp
      replace hB : Bd κ A s (mw κ a r f (va_up q 3 t8) (tb a) w) H locs := by exact Bd_eq (mwQ3x rfl _) (by rw [hw9] at hB; exact hB)
      obtain rfl : x7 = 1 := hf10.trans (by decide)
      refine W.eq (g2 := F0 m 37 ls [.int 1]) rfl ?_
      refine lv_if_eq (tgt := 42) hx hb dX10_take_37 (by decide) (fun c11 => False.elim (by revert c11; decide)) (fun _ => ?_)
      refine lv_iconst (v := 0) hx hb dX10_take_40 (by decide) ?_
      rw [← hQ]
      exact end_i hX hB hA3 rfl rfl (by obtain ⟨rfl, rfl, rfl, rfl⟩ := pr4 hR; exact ⟨a, rfl, rfl, hm, rfl, rfl⟩) (Nat.le_of_ble_eq_true rfl) (Nat.le_of_ble_eq_true rfl) dX10_take_41
    · replace hR := ifn c6 hR
      refine lv_iload_n hx hb dX10_take_24 rfl (lv_at hl 2 rfl) ?_
      refine lv_iconst (v := 4) hx hb dX10_take_25 (by decide) ?_
      refine lv_icmp_le (tgt := 33) hx hb dX10_take_26 (by decide) (fun c12 => ?_) (fun c12 => ?_)
      · replace hR := ifp c12 hR
        refine lv_iconst (v := 0) hx hb dX10_take_33 (by decide) ?_
        obtain ⟨x13, t14, hd15⟩ := ex2 (D_X10_isThrown_ (q 0) (q 1) (q 2) (q 3) 1 0)
        replace hR := bnd2_use hd15 hR
        refine call_V (n := 2) (k0 := 0) (As := [.int 1, .int 0]) (rest := []) hX hB (k_X10_isThrown_ κ l (mw κ a r f q (tb a) w) 0 (a 0) (a 1) (q 0) (q 1) (q 2) (q 3) 1 0 (mw0x (a := a) (r := r) (f := f) (q := q) (T := tb a) (w := w) rfl) x13 t14 hd15) ⟨rfl, by decide, by decide, by decide +kernel⟩ wm_5_192 wm_5_194 wp_27 wm_1_6 wm_5_195 ⟨Nat.le_of_ble_eq_true rfl, Nat.le_of_ble_eq_true rfl⟩ ⟨Nat.le_of_ble_eq_true rfl, Nat.le_of_ble_eq_true rfl⟩ (mw0x (a := a) (r := r) (f := f) (q := q) (T := tb a) (w := w) rfl) rfl rfl rfl hl.1 rfl (Nat.le_of_ble_eq_true rfl) dX10_take_34 (fun o w' H locs hp hB => ?_)
        obtain ⟨rfl, hf16, hw9⟩ := hp
        replace hB : Bd κ A s (mw κ a r f (va_up q 3 t14) (tb a) w) H locs := by exact Bd_eq (mwQ3x rfl _) (by rw [hw9] at hB; exact hB)
        obtain rfl : x13 = 1 := hf16.trans (by decide)
        refine W.eq (g2 := F0 m 37 ls [.int 1]) rfl ?_
        refine lv_if_eq (tgt := 42) hx hb dX10_take_37 (by decide) (fun c17 => False.elim (by revert c17; decide)) (fun _ => ?_)
        refine lv_iconst (v := 0) hx hb dX10_take_40 (by decide) ?_
        rw [← hQ]
        exact end_i hX hB hA3 rfl rfl (by obtain ⟨rfl, rfl, rfl, rfl⟩ := pr4 hR; exact ⟨a, rfl, rfl, hm, rfl, rfl⟩) (Nat.le_of_ble_eq_true rfl) (Nat.le_of_ble_eq_true rfl) dX10_take_41
      · replace hR := ifn c12 hR
        refine lv_iconst (v := 1) hx hb dX10_take_29 (by decide) ?_
        refine lv_goto (tgt := 34) hx hb dX10_take_30 (by decide) ?_
        obtain ⟨x18, t19, hd20⟩ := ex2 (D_X10_isThrown_ (q 0) (q 1) (q 2) (q 3) 1 1)
        replace hR := bnd2_use hd20 hR
        refine call_V (n := 2) (k0 := 0) (As := [.int 1, .int 1]) (rest := []) hX hB (k_X10_isThrown_ κ l (mw κ a r f q (tb a) w) 0 (a 0) (a 1) (q 0) (q 1) (q 2) (q 3) 1 1 (mw0x (a := a) (r := r) (f := f) (q := q) (T := tb a) (w := w) rfl) x18 t19 hd20) ⟨rfl, by decide, by decide, by decide +kernel⟩ wm_5_192 wm_5_194 wp_27 wm_1_6 wm_5_195 ⟨Nat.le_of_ble_eq_true rfl, Nat.le_of_ble_eq_true rfl⟩ ⟨Nat.le_of_ble_eq_true rfl, Nat.le_of_ble_eq_true rfl⟩ (mw0x (a := a) (r := r) (f := f) (q := q) (T := tb a) (w := w) rfl) rfl rfl rfl hl.1 rfl (Nat.le_of_ble_eq_true rfl) dX10_take_34 (fun o w' H locs hp hB => ?_)
        obtain ⟨rfl, hf21, hw9⟩ := hp
        replace hB : Bd κ A s (mw κ a r f (va_up q 3 t19) (tb a) w) H locs := by exact Bd_eq (mwQ3x rfl _) (by rw [hw9] at hB; exact hB)
        obtain rfl : x18 = 1 := hf21.trans (by decide)
        refine W.eq (g2 := F0 m 37 ls [.int 1]) rfl ?_
        refine lv_if_eq (tgt := 42) hx hb dX10_take_37 (by decide) (fun c22 => False.elim (by revert c22; decide)) (fun _ => ?_)
        refine lv_iconst (v := 0) hx hb dX10_take_40 (by decide) ?_
        rw [← hQ]
        exact end_i hX hB hA3 rfl rfl (by obtain ⟨rfl, rfl, rfl, rfl⟩ := pr4 hR; exact ⟨a, rfl, rfl, hm, rfl, rfl⟩) (Nat.le_of_ble_eq_true rfl) (Nat.le_of_ble_eq_true rfl) dX10_take_41
  · replace hR := ifn (by decide) hR
    refine W.eq (g2 := F0 m 5 ls [.int 1, .ref (a 0)]) rfl ?_
    refine lv_if_eq (tgt := 15) hx hb dX10_take_5 (by decide) (fun c23 => False.elim (by revert c23; decide)) (fun _ => ?_)
    refine lv_iload_n hx hb dX10_take_8 rfl (lv_at hl 3 rfl) ?_
    obtain ⟨z24, hd25⟩ := ex1 (D_X10_isTable u)
    replace hR := bnd1_use hd25 hR
    refine call_S (n := 1) (As := [.int u]) (rest := [.ref (a 0)]) hX hB (k_X10_isTable κ l (mw κ a r f q (tb a) w) u z24 hd25) ⟨by decide, by decide, by decide +kernel⟩ wm_5_186 wm_5_187 wm_1_6 wm_5_188 ⟨Nat.le_of_ble_eq_true rfl, Nat.le_of_ble_eq_true rfl⟩ ⟨Nat.le_of_ble_eq_true rfl, Nat.le_of_ble_eq_true rfl⟩ rfl hl.1 rfl (Nat.le_of_ble_eq_true rfl) dX10_take_9 (fun o w' H locs hp hB => ?_)
    obtain ⟨rfl, hf26, hw9⟩ := hp
    replace hB : Bd κ A s (mw κ a r f q (tb a) w) H locs := by rw [hw9] at hB; exact hB
    rcases hf26 with rfl | ⟨rfl, hz27a, hz27b⟩
    · replace hR := ifp rfl hR
      refine W.eq (g2 := F0 m 12 ls [.int 0, .ref (a 0)]) rfl ?_
      refine lv_if_ne (tgt := 19) hx hb dX10_take_12 (by decide) (fun c28 => False.elim (by revert c28; decide)) (fun _ => ?_)
      refine lv_iconst (v := 1) hx hb dX10_take_15 (by decide) ?_
      refine lv_goto (tgt := 20) hx hb dX10_take_16 (by decide) ?_
      refine lv_iload_n hx hb dX10_take_20 rfl (lv_at hl 2 rfl) ?_
      refine lv_if_lt (tgt := 29) hx hb dX10_take_21 (by decide) (fun c29 => ?_) (fun c29 => ?_)
      · replace hR := ifp c29 hR
        refine lv_iconst (v := 1) hx hb dX10_take_29 (by decide) ?_
        refine lv_goto (tgt := 34) hx hb dX10_take_30 (by decide) ?_
        obtain ⟨x30, t31, hd32⟩ := ex2 (D_X10_isThrown_ (q 0) (q 1) (q 2) (q 3) 1 1)
        replace hR := bnd2_use hd32 hR
        refine call_V (n := 2) (k0 := 0) (As := [.int 1, .int 1]) (rest := []) hX hB (k_X10_isThrown_ κ l (mw κ a r f q (tb a) w) 0 (a 0) (a 1) (q 0) (q 1) (q 2) (q 3) 1 1 (mw0x (a := a) (r := r) (f := f) (q := q) (T := tb a) (w := w) rfl) x30 t31 hd32) ⟨rfl, by decide, by decide, by decide +kernel⟩ wm_5_192 wm_5_194 wp_27 wm_1_6 wm_5_195 ⟨Nat.le_of_ble_eq_true rfl, Nat.le_of_ble_eq_true rfl⟩ ⟨Nat.le_of_ble_eq_true rfl, Nat.le_of_ble_eq_true rfl⟩ (mw0x (a := a) (r := r) (f := f) (q := q) (T := tb a) (w := w) rfl) rfl rfl rfl hl.1 rfl (Nat.le_of_ble_eq_true rfl) dX10_take_34 (fun o w' H locs hp hB => ?_)
        obtain ⟨rfl, hf33, hw9⟩ := hp
        replace hB : Bd κ A s (mw κ a r f (va_up q 3 t31) (tb a) w) H locs := by exact Bd_eq (mwQ3x rfl _) (by rw [hw9] at hB; exact hB)
        obtain rfl : x30 = 1 := hf33.trans (by decide)
        refine W.eq (g2 := F0 m 37 ls [.int 1]) rfl ?_
        refine lv_if_eq (tgt := 42) hx hb dX10_take_37 (by decide) (fun c34 => False.elim (by revert c34; decide)) (fun _ => ?_)
        refine lv_iconst (v := 0) hx hb dX10_take_40 (by decide) ?_
        rw [← hQ]
        exact end_i hX hB hA3 rfl rfl (by obtain ⟨rfl, rfl, rfl, rfl⟩ := pr4 hR; exact ⟨a, rfl, rfl, hm, rfl, rfl⟩) (Nat.le_of_ble_eq_true rfl) (Nat.le_of_ble_eq_true rfl) dX10_take_41
      · replace hR := ifn c29 hR
        refine lv_iload_n hx hb dX10_take_24 rfl (lv_at hl 2 rfl) ?_
        refine lv_iconst (v := 4) hx hb dX10_take_25 (by decide) ?_
        refine lv_icmp_le (tgt := 33) hx hb dX10_take_26 (by decide) (fun c35 => ?_) (fun c35 => ?_)
        · replace hR := ifp c35 hR
          refine lv_iconst (v := 0) hx hb dX10_take_33 (by decide) ?_
          obtain ⟨x36, t37, hd38⟩ := ex2 (D_X10_isThrown_ (q 0) (q 1) (q 2) (q 3) 1 0)
          replace hR := bnd2_use hd38 hR
          refine call_V (n := 2) (k0 := 0) (As := [.int 1, .int 0]) (rest := []) hX hB (k_X10_isThrown_ κ l (mw κ a r f q (tb a) w) 0 (a 0) (a 1) (q 0) (q 1) (q 2) (q 3) 1 0 (mw0x (a := a) (r := r) (f := f) (q := q) (T := tb a) (w := w) rfl) x36 t37 hd38) ⟨rfl, by decide, by decide, by decide +kernel⟩ wm_5_192 wm_5_194 wp_27 wm_1_6 wm_5_195 ⟨Nat.le_of_ble_eq_true rfl, Nat.le_of_ble_eq_true rfl⟩ ⟨Nat.le_of_ble_eq_true rfl, Nat.le_of_ble_eq_true rfl⟩ (mw0x (a := a) (r := r) (f := f) (q := q) (T := tb a) (w := w) rfl) rfl rfl rfl hl.1 rfl (Nat.le_of_ble_eq_true rfl) dX10_take_34 (fun o w' H locs hp hB => ?_)
          obtain ⟨rfl, hf39, hw9⟩ := hp
          replace hB : Bd κ A s (mw κ a r f (va_up q 3 t37) (tb a) w) H locs := by exact Bd_eq (mwQ3x rfl _) (by rw [hw9] at hB; exact hB)
          obtain rfl : x36 = 1 := hf39.trans (by decide)
          refine W.eq (g2 := F0 m 37 ls [.int 1]) rfl ?_
          refine lv_if_eq (tgt := 42) hx hb dX10_take_37 (by decide) (fun c40 => False.elim (by revert c40; decide)) (fun _ => ?_)
          refine lv_iconst (v := 0) hx hb dX10_take_40 (by decide) ?_
          rw [← hQ]
          exact end_i hX hB hA3 rfl rfl (by obtain ⟨rfl, rfl, rfl, rfl⟩ := pr4 hR; exact ⟨a, rfl, rfl, hm, rfl, rfl⟩) (Nat.le_of_ble_eq_true rfl) (Nat.le_of_ble_eq_true rfl) dX10_take_41
        · replace hR := ifn c35 hR
          refine lv_iconst (v := 1) hx hb dX10_take_29 (by decide) ?_
          refine lv_goto (tgt := 34) hx hb dX10_take_30 (by decide) ?_
          obtain ⟨x41, t42, hd43⟩ := ex2 (D_X10_isThrown_ (q 0) (q 1) (q 2) (q 3) 1 1)
          replace hR := bnd2_use hd43 hR
          refine call_V (n := 2) (k0 := 0) (As := [.int 1, .int 1]) (rest := []) hX hB (k_X10_isThrown_ κ l (mw κ a r f q (tb a) w) 0 (a 0) (a 1) (q 0) (q 1) (q 2) (q 3) 1 1 (mw0x (a := a) (r := r) (f := f) (q := q) (T := tb a) (w := w) rfl) x41 t42 hd43) ⟨rfl, by decide, by decide, by decide +kernel⟩ wm_5_192 wm_5_194 wp_27 wm_1_6 wm_5_195 ⟨Nat.le_of_ble_eq_true rfl, Nat.le_of_ble_eq_true rfl⟩ ⟨Nat.le_of_ble_eq_true rfl, Nat.le_of_ble_eq_true rfl⟩ (mw0x (a := a) (r := r) (f := f) (q := q) (T := tb a) (w := w) rfl) rfl rfl rfl hl.1 rfl (Nat.le_of_ble_eq_true rfl) dX10_take_34 (fun o w' H locs hp hB => ?_)
          obtain ⟨rfl, hf44, hw9⟩ := hp
          replace hB : Bd κ A s (mw κ a r f (va_up q 3 t42) (tb a) w) H locs := by exact Bd_eq (mwQ3x rfl _) (by rw [hw9] at hB; exact hB)
          obtain rfl : x41 = 1 := hf44.trans (by decide)
          refine W.eq (g2 := F0 m 37 ls [.int 1]) rfl ?_
          refine lv_if_eq (tgt := 42) hx hb dX10_take_37 (by decide) (fun c45 => False.elim (by revert c45; decide)) (fun _ => ?_)
          refine lv_iconst (v := 0) hx hb dX10_take_40 (by decide) ?_
          rw [← hQ]
          exact end_i hX hB hA3 rfl rfl (by obtain ⟨rfl, rfl, rfl, rfl⟩ := pr4 hR; exact ⟨a, rfl, rfl, hm, rfl, rfl⟩) (Nat.le_of_ble_eq_true rfl) (Nat.le_of_ble_eq_true rfl) dX10_take_41
    · replace hR := ifn (by decide) hR
      refine W.eq (g2 := F0 m 12 ls [.int 1, .ref (a 0)]) rfl ?_
      refine lv_if_ne (tgt := 19) hx hb dX10_take_12 (by decide) (fun _ => ?_) (fun c46 => False.elim (by revert c46; decide))
      refine lv_iconst (v := 0) hx hb dX10_take_19 (by decide) ?_
      refine lv_iload_n hx hb dX10_take_20 rfl (lv_at hl 2 rfl) ?_
      refine lv_if_lt (tgt := 29) hx hb dX10_take_21 (by decide) (fun c47 => ?_) (fun c47 => ?_)
      · replace hR := ifp c47 hR
        refine lv_iconst (v := 1) hx hb dX10_take_29 (by decide) ?_
        refine lv_goto (tgt := 34) hx hb dX10_take_30 (by decide) ?_
        obtain ⟨x48, t49, hd50⟩ := ex2 (D_X10_isThrown_ (q 0) (q 1) (q 2) (q 3) 0 1)
        replace hR := bnd2_use hd50 hR
        refine call_V (n := 2) (k0 := 0) (As := [.int 0, .int 1]) (rest := []) hX hB (k_X10_isThrown_ κ l (mw κ a r f q (tb a) w) 0 (a 0) (a 1) (q 0) (q 1) (q 2) (q 3) 0 1 (mw0x (a := a) (r := r) (f := f) (q := q) (T := tb a) (w := w) rfl) x48 t49 hd50) ⟨rfl, by decide, by decide, by decide +kernel⟩ wm_5_192 wm_5_194 wp_27 wm_1_6 wm_5_195 ⟨Nat.le_of_ble_eq_true rfl, Nat.le_of_ble_eq_true rfl⟩ ⟨Nat.le_of_ble_eq_true rfl, Nat.le_of_ble_eq_true rfl⟩ (mw0x (a := a) (r := r) (f := f) (q := q) (T := tb a) (w := w) rfl) rfl rfl rfl hl.1 rfl (Nat.le_of_ble_eq_true rfl) dX10_take_34 (fun o w' H locs hp hB => ?_)
        obtain ⟨rfl, hf51, hw9⟩ := hp
        replace hB : Bd κ A s (mw κ a r f (va_up q 3 t49) (tb a) w) H locs := by exact Bd_eq (mwQ3x rfl _) (by rw [hw9] at hB; exact hB)
        obtain rfl : x48 = 1 := hf51.trans (by decide)
        refine W.eq (g2 := F0 m 37 ls [.int 1]) rfl ?_
        refine lv_if_eq (tgt := 42) hx hb dX10_take_37 (by decide) (fun c52 => False.elim (by revert c52; decide)) (fun _ => ?_)
        refine lv_iconst (v := 0) hx hb dX10_take_40 (by decide) ?_
        rw [← hQ]
        exact end_i hX hB hA3 rfl rfl (by obtain ⟨rfl, rfl, rfl, rfl⟩ := pr4 hR; exact ⟨a, rfl, rfl, hm, rfl, rfl⟩) (Nat.le_of_ble_eq_true rfl) (Nat.le_of_ble_eq_true rfl) dX10_take_41
      · replace hR := ifn c47 hR
        refine lv_iload_n hx hb dX10_take_24 rfl (lv_at hl 2 rfl) ?_
        refine lv_iconst (v := 4) hx hb dX10_take_25 (by decide) ?_
        refine lv_icmp_le (tgt := 33) hx hb dX10_take_26 (by decide) (fun c53 => ?_) (fun c53 => ?_)
        · replace hR := ifp c53 hR
          refine lv_iconst (v := 0) hx hb dX10_take_33 (by decide) ?_
          obtain ⟨x54, t55, hd56⟩ := ex2 (D_X10_isThrown_ (q 0) (q 1) (q 2) (q 3) 0 0)
          replace hR := bnd2_use hd56 hR
          refine call_V (n := 2) (k0 := 0) (As := [.int 0, .int 0]) (rest := []) hX hB (k_X10_isThrown_ κ l (mw κ a r f q (tb a) w) 0 (a 0) (a 1) (q 0) (q 1) (q 2) (q 3) 0 0 (mw0x (a := a) (r := r) (f := f) (q := q) (T := tb a) (w := w) rfl) x54 t55 hd56) ⟨rfl, by decide, by decide, by decide +kernel⟩ wm_5_192 wm_5_194 wp_27 wm_1_6 wm_5_195 ⟨Nat.le_of_ble_eq_true rfl, Nat.le_of_ble_eq_true rfl⟩ ⟨Nat.le_of_ble_eq_true rfl, Nat.le_of_ble_eq_true rfl⟩ (mw0x (a := a) (r := r) (f := f) (q := q) (T := tb a) (w := w) rfl) rfl rfl rfl hl.1 rfl (Nat.le_of_ble_eq_true rfl) dX10_take_34 (fun o w' H locs hp hB => ?_)
          obtain ⟨rfl, hf57, hw9⟩ := hp
          replace hB : Bd κ A s (mw κ a r f (va_up q 3 t55) (tb a) w) H locs := by exact Bd_eq (mwQ3x rfl _) (by rw [hw9] at hB; exact hB)
          obtain rfl : x54 = 0 := hf57.trans (by decide)
          refine W.eq (g2 := F0 m 37 ls [.int 0]) rfl ?_
          refine lv_if_eq (tgt := 42) hx hb dX10_take_37 (by decide) (fun _ => ?_) (fun c58 => False.elim (by revert c58; decide))
          refine lv_aload_n hx hb dX10_take_42 rfl (lv_at hl 0 rfl) ?_
          refine gf (k0 := 0) hX hB (mw0x (a := a) (r := r) (f := f) (q := (va_up q 3 t55)) (T := tb a) (w := w) rfl) rfl in10 0 (by decide) wm_5_162 rfl rfl dX10_take_43 ?_
          refine lv_iload_n hx hb dX10_take_46 rfl (lv_at hl 1 rfl) ?_
          refine aaldM (k0 := 1) hX hB (mw1 (a := a) (r := r) (f := f) (q := (va_up q 3 t55)) (T := tb a) (w := w)) (vp_in_mk (by assumption) (by assumption)) rfl dX10_take_47 ?_
          have hb59 := mok_r hm y.toNatClampNeg (by omega)
          refine lv_iload_n hx hb dX10_take_48 rfl (lv_at hl 2 rfl) ?_
          obtain ⟨z60, R61, C62, F63, hd64⟩ := ex4 (D_X10_toldOf (r (2 * y.toNatClampNeg)) (r (2 * y.toNatClampNeg + 1)) (f y.toNatClampNeg) z)
          replace hR := bnd4_use hd64 hR
          refine call_S (n := 2) (As := [.ref (a (2 + 2 * y.toNatClampNeg)), .int z]) (rest := []) hX hB (k_X10_toldOf κ l (mw κ a r f (va_up q 3 t55) (tb a) w) (2 + 2 * y.toNatClampNeg) (3 + 2 * y.toNatClampNeg) (a (2 + 2 * y.toNatClampNeg)) (a (3 + 2 * y.toNatClampNeg)) (r (2 * y.toNatClampNeg)) (r (2 * y.toNatClampNeg + 1)) (f y.toNatClampNeg) z (mwG (i := y.toNatClampNeg) (a := a) (r := r) (f := f) (q := (va_up q 3 t55)) (T := tb a) (w := w) (by omega)) (mwA (i := y.toNatClampNeg) (a := a) (r := r) (f := f) (q := (va_up q 3 t55)) (T := tb a) (w := w) (by omega)) (mok_shp (i := y.toNatClampNeg) hm (by omega)) (by omega) (fun k hk => sm_ng ((hm _ (by omega)).2 k hk)) ⟨by assumption, by first | assumption | exact Int32.not_lt.mp (by assumption)⟩ z60 R61 C62 F63 hd64) ⟨by decide, by decide, by decide +kernel⟩ wm_6_124 wm_6_125 wm_1_6 wm_6_126 ⟨Nat.le_of_ble_eq_true rfl, Nat.le_of_ble_eq_true rfl⟩ ⟨Nat.le_of_ble_eq_true rfl, Nat.le_of_ble_eq_true rfl⟩ rfl hl.1 rfl (Nat.le_of_ble_eq_true rfl) dX10_take_49 (fun o w' H locs hp hB => ?_)
          rcases hp with ⟨hz0, rfl, hw9⟩ | ⟨hz0, q65, q66, rfl, ⟨⟨hd67a, hd67b, hd67c, hd67d⟩, hd67t⟩, hw9⟩
          · replace hB : Bd κ A s (mw κ a r f (va_up q 3 t55) (tb a) w) H locs := by rw [hw9] at hB; exact hB
            refine W.eq (g2 := F0 m 52 ls [.null]) rfl ?_
            replace hR := ifp hz0 hR
            refine lv_astoreN (lv' := [(4, .null), (0, .ref (a 0)), (1, .int y), (2, .int z), (3, .int u)]) hx hb dX10_take_52 hl (by decide) rfl (fun ls hl => ?_)
            refine lv_aloadN hx hb dX10_take_54 (lv_at hl 0 rfl) ?_
            refine lv_ifnonnullN hx hb dX10_take_56 ?_
            refine lv_aload_n hx hb dX10_take_59 rfl (lv_at hl 1 rfl) ?_
            refine call_V (n := 0) (k0 := 0) (As := []) (rest := []) hX hB (k_X10_no κ l (mw κ a r f (va_up q 3 t55) (tb a) w) 0 (a 0) (a 1) ((va_up q 3 t55) 0) ((va_up q 3 t55) 1) ((va_up q 3 t55) 2) ((va_up q 3 t55) 3) (mw0x (a := a) (r := r) (f := f) (q := (va_up q 3 t55)) (T := tb a) (w := w) rfl)) ⟨rfl, by decide, by decide, by decide +kernel⟩ wm_6_89 wm_6_91 wp_36 wm_1_6 wm_6_92 ⟨Nat.le_of_ble_eq_true rfl, Nat.le_of_ble_eq_true rfl⟩ ⟨Nat.le_of_ble_eq_true rfl, Nat.le_of_ble_eq_true rfl⟩ (mw0x (a := a) (r := r) (f := f) (q := (va_up q 3 t55)) (T := tb a) (w := w) rfl) rfl rfl rfl hl.1 rfl (Nat.le_of_ble_eq_true rfl) dX10_take_60 (fun o w' H locs hp hB => ?_)
            obtain ⟨rfl, hw9⟩ := hp
            replace hB : Bd κ A s (mw κ a r f (va_up (va_up q 3 t55) 1 (((va_up q 3 t55) 1) + 1)) (tb a) w) H locs := by exact Bd_eq (mwQ1x rfl _) (by rw [hw9] at hB; exact hB)
            refine W.eq (g2 := F0 m 63 ls [.int (-9)]) rfl ?_
            refine lv_goto (tgt := 73) hx hb dX10_take_63 (by decide) ?_
            rw [← hQ]
            exact end_i hX hB hA3 rfl rfl (by obtain ⟨rfl, rfl, rfl, rfl⟩ := pr4 hR; exact ⟨a, rfl, rfl, hm, rfl, rfl⟩) (Nat.le_of_ble_eq_true rfl) (Nat.le_of_ble_eq_true rfl) dX10_take_73
          · replace hB : Bd κ A s (lA κ q66 (R61 * 5) F63 :: gO q65 R61 C62 q66 :: mw κ a r f (va_up q 3 t55) (tb a) w) H locs := by rw [hw9] at hB; exact hB
            refine W.eq (g2 := F0 m 52 ls [.ref q65]) rfl ?_
            replace hR := ifn (by rw [hz0]; decide) hR
            refine lv_astore (lv' := [(4, .ref q65), (0, .ref (a 0)), (1, .int y), (2, .int z), (3, .int u)]) hx hb dX10_take_52 hl (by decide) rfl (fun ls hl => ?_)
            refine lv_aload hx hb dX10_take_54 (lv_at hl 0 rfl) ?_
            refine lv_ifnonnull (tgt := 66) hx hb dX10_take_56 (by decide) ?_
            refine lv_aload_n hx hb dX10_take_66 rfl (lv_at hl 1 rfl) ?_
            refine lv_iload_n hx hb dX10_take_67 rfl (lv_at hl 4 rfl) ?_
            refine lv_aload hx hb dX10_take_68 (lv_at hl 0 rfl) ?_
            obtain ⟨x68, rn70, fn71, qn72, hd73⟩ := ex4 (D_X10_become r f (va_up q 3 t55) u R61 C62 F63)
            replace hR := bnd4_use hd73 hR
            refine call_V (n := 2) (k0 := 2) (As := [.int u, .ref q65]) (rest := []) hX hB (k_X10_become κ l w a r f (va_up q 3 t55) u q65 q66 R61 C62 F63 hm ⟨by omega, by omega, by omega, by omega⟩ (by assumption) (by assumption) x68 rn70 fn71 qn72 hd73) ⟨rfl, by decide, by decide, by decide +kernel⟩ wm_6_108 wm_6_110 wp_37 wm_1_6 wm_6_111 ⟨Nat.le_of_ble_eq_true rfl, Nat.le_of_ble_eq_true rfl⟩ ⟨Nat.le_of_ble_eq_true rfl, Nat.le_of_ble_eq_true rfl⟩ (mw0x (a := a) (r := r) (f := f) (q := (va_up q 3 t55)) (T := tb a) (w := w) rfl) rfl rfl rfl hl.1 rfl (Nat.le_of_ble_eq_true rfl) dX10_take_70 (fun o w' H locs hp hB => ?_)
            obtain ⟨an69, rfl, hf74, hf75, hf76, hw9⟩ := hp
            replace hB : Bd κ A s (mw κ an69 rn70 fn71 qn72 (tb an69) w) H locs := by rw [hw9] at hB; exact hB
            refine W.eq (g2 := F0 m 73 ls [.int x68]) rfl ?_
            rw [← hQ]
            exact end_i hX hB hA3 rfl rfl (by obtain ⟨rfl, rfl, rfl, rfl⟩ := pr4 hR; exact ⟨an69, rfl, (hf74.trans rfl), hf75, (hf76.trans rfl), rfl⟩) (Nat.le_of_ble_eq_true rfl) (Nat.le_of_ble_eq_true rfl) dX10_take_73
        · replace hR := ifn c53 hR
          refine lv_iconst (v := 1) hx hb dX10_take_29 (by decide) ?_
          refine lv_goto (tgt := 34) hx hb dX10_take_30 (by decide) ?_
          obtain ⟨x77, t78, hd79⟩ := ex2 (D_X10_isThrown_ (q 0) (q 1) (q 2) (q 3) 0 1)
          replace hR := bnd2_use hd79 hR
          refine call_V (n := 2) (k0 := 0) (As := [.int 0, .int 1]) (rest := []) hX hB (k_X10_isThrown_ κ l (mw κ a r f q (tb a) w) 0 (a 0) (a 1) (q 0) (q 1) (q 2) (q 3) 0 1 (mw0x (a := a) (r := r) (f := f) (q := q) (T := tb a) (w := w) rfl) x77 t78 hd79) ⟨rfl, by decide, by decide, by decide +kernel⟩ wm_5_192 wm_5_194 wp_27 wm_1_6 wm_5_195 ⟨Nat.le_of_ble_eq_true rfl, Nat.le_of_ble_eq_true rfl⟩ ⟨Nat.le_of_ble_eq_true rfl, Nat.le_of_ble_eq_true rfl⟩ (mw0x (a := a) (r := r) (f := f) (q := q) (T := tb a) (w := w) rfl) rfl rfl rfl hl.1 rfl (Nat.le_of_ble_eq_true rfl) dX10_take_34 (fun o w' H locs hp hB => ?_)
          obtain ⟨rfl, hf80, hw9⟩ := hp
          replace hB : Bd κ A s (mw κ a r f (va_up q 3 t78) (tb a) w) H locs := by exact Bd_eq (mwQ3x rfl _) (by rw [hw9] at hB; exact hB)
          obtain rfl : x77 = 1 := hf80.trans (by decide)
          refine W.eq (g2 := F0 m 37 ls [.int 1]) rfl ?_
          refine lv_if_eq (tgt := 42) hx hb dX10_take_37 (by decide) (fun c81 => False.elim (by revert c81; decide)) (fun _ => ?_)
          refine lv_iconst (v := 0) hx hb dX10_take_40 (by decide) ?_
          rw [← hQ]
          exact end_i hX hB hA3 rfl rfl (by obtain ⟨rfl, rfl, rfl, rfl⟩ := pr4 hR; exact ⟨a, rfl, rfl, hm, rfl, rfl⟩) (Nat.le_of_ble_eq_true rfl) (Nat.le_of_ble_eq_true rfl) dX10_take_41
noncomputable def D_X10_solve_141 (r : Nat → Nat) (f : Nat → Nat → Int64) (q : Nat → Int32) (y : Int32) (v : Int32) (t35 : Int32) (F49 : Nat → Int64) (F51 : Nat → Int64) (K54 : Nat) (F65 : Nat → Int64) (nn : Nat) : Nat → (Nat → Int64) → Int32 × (Nat → Nat) × (Nat → Nat → Int64) × (Nat → Int32) := @Nat.rec (fun _ => Nat → (Nat → Int64) → Int32 × (Nat → Nat) × (Nat → Nat → Int64) × (Nat → Int32)) (fun _ _ => default) (fun _ lb141 (y9_141 : Nat) (fb73_141 : Nat → Int64) => (if K54 ≤ y9_141 then bnd1 (D_X7_isGreat (r (2 * y.toNatClampNeg + 1)) 1 fb73_141) (fun (x115 : Int32) => (if x115 = 0 then bnd1 (D_X7_product (r (2 * y.toNatClampNeg + 1)) (r (2 * y.toNatClampNeg + 1)) F49 (r (2 * y.toNatClampNeg + 1)) 1 fb73_141) (fun (F122 : Nat → Int64) => bnd4 (D_X10_become r f (va_up q 3 t35) v (r (2 * y.toNatClampNeg + 1)) 1 F122) (fun (x124 : Int32) (rn126 : Nat → Nat) (fn127 : Nat → Nat → Int64) (qn128 : Nat → Int32) => (x124, rn126, fn127, qn128))) else (-9, r, f, va_up (va_up q 3 t35) 1 (((va_up q 3 t35) 1) + 1)))) else (lb141 (y9_141 + 1) (vp_updL fb73_141 (y9_141 * 5 + 0) ((F65 (y9_141 * 5 + 0)) / (F51 (y9_141 * 5 + y9_141))))))) nn
theorem D_X10_solve_141_s {r : Nat → Nat} {f : Nat → Nat → Int64} {q : Nat → Int32} {y : Int32} {v : Int32} {t35 : Int32} {F49 : Nat → Int64} {F51 : Nat → Int64} {K54 : Nat} {F65 : Nat → Int64} {nn : Nat} {y9_141 : Nat} {fb73_141 : Nat → Int64} : D_X10_solve_141 r f q y v t35 F49 F51 K54 F65 (nn + 1) y9_141 fb73_141 = (if K54 ≤ y9_141 then bnd1 (D_X7_isGreat (r (2 * y.toNatClampNeg + 1)) 1 fb73_141) (fun (x115 : Int32) => (if x115 = 0 then bnd1 (D_X7_product (r (2 * y.toNatClampNeg + 1)) (r (2 * y.toNatClampNeg + 1)) F49 (r (2 * y.toNatClampNeg + 1)) 1 fb73_141) (fun (F122 : Nat → Int64) => bnd4 (D_X10_become r f (va_up q 3 t35) v (r (2 * y.toNatClampNeg + 1)) 1 F122) (fun (x124 : Int32) (rn126 : Nat → Nat) (fn127 : Nat → Nat → Int64) (qn128 : Nat → Int32) => (x124, rn126, fn127, qn128))) else (-9, r, f, va_up (va_up q 3 t35) 1 (((va_up q 3 t35) 1) + 1)))) else ((D_X10_solve_141 r f q y v t35 F49 F51 K54 F65 nn) (y9_141 + 1) (vp_updL fb73_141 (y9_141 * 5 + 0) ((F65 (y9_141 * 5 + 0)) / (F51 (y9_141 * 5 + y9_141)))))) := rfl
noncomputable def D_X10_solve (r : Nat → Nat) (f : Nat → Nat → Int64) (q : Nat → Int32) (y : Int32) (z : Int32) (u : Int32) (v : Int32) : Int32 × (Nat → Nat) × (Nat → Nat → Int64) × (Nat → Int32) := bnd1 (D_X10_isTable y) (fun (z1 : Int32) => (if z1 = 0 then bnd2 (D_X10_isThrown__ (q 0) (q 1) (q 2) (q 3) 1) (fun (x6 : Int32) (t7 : Int32) => (0, r, f, va_up q 3 t7)) else bnd1 (D_X10_isColumn r f q z u) (fun (x12 : Int32) => (if x12 = 0 then bnd2 (D_X10_isThrown__ (q 0) (q 1) (q 2) (q 3) 1) (fun (x17 : Int32) (t18 : Int32) => (0, r, f, va_up q 3 t18)) else bnd1 (D_X10_isTable v) (fun (z23 : Int32) => (if z23 = 0 then bnd2 (D_X10_isThrown__ (q 0) (q 1) (q 2) (q 3) 1) (fun (x28 : Int32) (t29 : Int32) => (0, r, f, va_up q 3 t29)) else bnd2 (D_X10_isThrown__ (q 0) (q 1) (q 2) (q 3) 0) (fun (x34 : Int32) (t35 : Int32) => (if (r (2 * y.toNatClampNeg)) = (r (2 * z.toNatClampNeg)) then bnd7 (D_X9_init (r (2 * y.toNatClampNeg)) (r (2 * y.toNatClampNeg + 1)) (f y.toNatClampNeg)) (fun (F49 : Nat → Int64) (F50 : Nat → Int64) (F51 : Nat → Int64) (S52 : Int32) (S53 : Int32) (K54 : Nat) (G55 : Int32) => (if G55 = 0 then bnd1 (D_X10_column ((va_up q 3 t35) 0) ((va_up q 3 t35) 1) ((va_up q 3 t35) 2) ((va_up q 3 t35) 3) (r (2 * z.toNatClampNeg)) (r (2 * z.toNatClampNeg + 1)) (f z.toNatClampNeg) z ((u).toNatClampNeg)) (fun (F61 : Nat → Int64) => bnd1 (D_X7_product (r (2 * y.toNatClampNeg)) (r (2 * y.toNatClampNeg)) F50 (r (2 * z.toNatClampNeg)) 1 F61) (fun (F65 : Nat → Int64) => bnd1 (D_X10_goes (r (2 * y.toNatClampNeg)) (r (2 * y.toNatClampNeg + 1)) F51 K54 S52 S53 G55 (r (2 * y.toNatClampNeg)) 1 F65) (fun (x67 : Int32) => (if x67 = 0 then (-9, r, f, va_up (va_up q 3 t35) 1 (((va_up q 3 t35) 1) + 1)) else (D_X10_solve_141 r f q y v t35 F49 F51 K54 F65 (K54 + 1 - 0 + 1) 0 (fun _ => 0)))))) else (-9, r, f, va_up (va_up q 3 t35) 1 (((va_up q 3 t35) 1) + 1)))) else (-9, r, f, va_up (va_up q 3 t35) 1 (((va_up q 3 t35) 1) + 1))))))))))
theorem D_X10_solve_s {r : Nat → Nat} {f : Nat → Nat → Int64} {q : Nat → Int32} {y : Int32} {z : Int32} {u : Int32} {v : Int32} : D_X10_solve r f q y z u v = bnd1 (D_X10_isTable y) (fun (z1 : Int32) => (if z1 = 0 then bnd2 (D_X10_isThrown__ (q 0) (q 1) (q 2) (q 3) 1) (fun (x6 : Int32) (t7 : Int32) => (0, r, f, va_up q 3 t7)) else bnd1 (D_X10_isColumn r f q z u) (fun (x12 : Int32) => (if x12 = 0 then bnd2 (D_X10_isThrown__ (q 0) (q 1) (q 2) (q 3) 1) (fun (x17 : Int32) (t18 : Int32) => (0, r, f, va_up q 3 t18)) else bnd1 (D_X10_isTable v) (fun (z23 : Int32) => (if z23 = 0 then bnd2 (D_X10_isThrown__ (q 0) (q 1) (q 2) (q 3) 1) (fun (x28 : Int32) (t29 : Int32) => (0, r, f, va_up q 3 t29)) else bnd2 (D_X10_isThrown__ (q 0) (q 1) (q 2) (q 3) 0) (fun (x34 : Int32) (t35 : Int32) => (if (r (2 * y.toNatClampNeg)) = (r (2 * z.toNatClampNeg)) then bnd7 (D_X9_init (r (2 * y.toNatClampNeg)) (r (2 * y.toNatClampNeg + 1)) (f y.toNatClampNeg)) (fun (F49 : Nat → Int64) (F50 : Nat → Int64) (F51 : Nat → Int64) (S52 : Int32) (S53 : Int32) (K54 : Nat) (G55 : Int32) => (if G55 = 0 then bnd1 (D_X10_column ((va_up q 3 t35) 0) ((va_up q 3 t35) 1) ((va_up q 3 t35) 2) ((va_up q 3 t35) 3) (r (2 * z.toNatClampNeg)) (r (2 * z.toNatClampNeg + 1)) (f z.toNatClampNeg) z ((u).toNatClampNeg)) (fun (F61 : Nat → Int64) => bnd1 (D_X7_product (r (2 * y.toNatClampNeg)) (r (2 * y.toNatClampNeg)) F50 (r (2 * z.toNatClampNeg)) 1 F61) (fun (F65 : Nat → Int64) => bnd1 (D_X10_goes (r (2 * y.toNatClampNeg)) (r (2 * y.toNatClampNeg + 1)) F51 K54 S52 S53 G55 (r (2 * y.toNatClampNeg)) 1 F65) (fun (x67 : Int32) => (if x67 = 0 then (-9, r, f, va_up (va_up q 3 t35) 1 (((va_up q 3 t35) 1) + 1)) else (D_X10_solve_141 r f q y v t35 F49 F51 K54 F65 (K54 + 1 - 0 + 1) 0 (fun _ => 0)))))) else (-9, r, f, va_up (va_up q 3 t35) 1 (((va_up q 3 t35) 1) + 1)))) else (-9, r, f, va_up (va_up q 3 t35) 1 (((va_up q 3 t35) 1) + 1)))))))))) := rfl
set_option maxHeartbeats 4000000 in
set_option maxRecDepth 100000 in
theorem k_X10_solve (κ : Kt) (l : Launch) (w : va_W) (a r : Nat → Nat) (f : Nat → Nat → Int64) (q : Nat → Int32) (y : Int32) (z : Int32) (u : Int32) (v : Int32) (hm : mok r f) (o_x : Int32) (o_r' : Nat → Nat) (o_f' : Nat → Nat → Int64) (o_q' : Nat → Int32) (hR : D_X10_solve r f q y z u v = (o_x, o_r', o_f', o_q')) : CM κ l yX10_solve cX10_solve 10 (some .int) 5 121 15 168 [.ref (a 0), .int y, .int z, .int u, .int v] (mw κ a r f q (tb a) w) (fun o w' => ∃ (a' : Nat → Nat), o = some (.int o_x) ∧ (a' 0 = a 0) ∧ (mok o_r' o_f') ∧ (o_q' 2 = q 2) ∧ w' = mw κ a' o_r' o_f' o_q' (tb a') w) := by
  refine CM_begin (plainFor_of_name (by decide)) (Nat.le_of_ble_eq_true rfl) ?_
  intro p e s m args below meth c A Q hX hnm hA3 hQ hB ls hl
  have hx := hX.1.1
  have hb := hX.1.2.1
  have hl : lv_has ls 10 [(0, .ref (a 0)), (1, .int y), (2, .int z), (3, .int u), (4, .int v)] := hl
  replace hR := (D_X10_solve_s).symm.trans hR
  refine lv_aload_n hx hb dX10_solve_0 rfl (lv_at hl 0 rfl) ?_
  refine lv_iload_n hx hb dX10_solve_1 rfl (lv_at hl 1 rfl) ?_
  obtain ⟨z1, hd2⟩ := ex1 (D_X10_isTable y)
  replace hR := bnd1_use hd2 hR
  refine call_S (n := 1) (As := [.int y]) (rest := [.ref (a 0)]) hX hB (k_X10_isTable κ l (mw κ a r f q (tb a) w) y z1 hd2) ⟨by decide, by decide, by decide +kernel⟩ wm_5_186 wm_5_187 wm_1_6 wm_5_188 ⟨Nat.le_of_ble_eq_true rfl, Nat.le_of_ble_eq_true rfl⟩ ⟨Nat.le_of_ble_eq_true rfl, Nat.le_of_ble_eq_true rfl⟩ rfl hl.1 rfl (Nat.le_of_ble_eq_true rfl) dX10_solve_2 (fun o w' H locs hp hB => ?_)
  obtain ⟨rfl, hf3, hw9⟩ := hp
  replace hB : Bd κ A s (mw κ a r f q (tb a) w) H locs := by rw [hw9] at hB; exact hB
  rcases hf3 with rfl | ⟨rfl, hz4a, hz4b⟩
  · replace hR := ifp rfl hR
    refine W.eq (g2 := F0 m 5 ls [.int 0, .ref (a 0)]) rfl ?_
    refine lv_if_eq (tgt := 25) hx hb dX10_solve_5 (by decide) (fun _ => ?_) (fun c5 => False.elim (by revert c5; decide))
    refine lv_iconst (v := 1) hx hb dX10_solve_25 (by decide) ?_
    refine lv_goto (tgt := 30) hx hb dX10_solve_26 (by decide) ?_
    obtain ⟨x6, t7, hd8⟩ := ex2 (D_X10_isThrown__ (q 0) (q 1) (q 2) (q 3) 1)
    replace hR := bnd2_use hd8 hR
    refine call_V (n := 1) (k0 := 0) (As := [.int 1]) (rest := []) hX hB (k_X10_isThrown__ κ l (mw κ a r f q (tb a) w) 0 (a 0) (a 1) (q 0) (q 1) (q 2) (q 3) 1 (mw0x (a := a) (r := r) (f := f) (q := q) (T := tb a) (w := w) rfl) x6 t7 hd8) ⟨rfl, by decide, by decide, by decide +kernel⟩ wm_6_15 wm_6_17 wp_33 wm_1_6 wm_6_18 ⟨Nat.le_of_ble_eq_true rfl, Nat.le_of_ble_eq_true rfl⟩ ⟨Nat.le_of_ble_eq_true rfl, Nat.le_of_ble_eq_true rfl⟩ (mw0x (a := a) (r := r) (f := f) (q := q) (T := tb a) (w := w) rfl) rfl rfl rfl hl.1 rfl (Nat.le_of_ble_eq_true rfl) dX10_solve_30 (fun o w' H locs hp hB => ?_)
    obtain ⟨rfl, hf9, hw9⟩ := hp
    replace hB : Bd κ A s (mw κ a r f (va_up q 3 t7) (tb a) w) H locs := by exact Bd_eq (mwQ3x rfl _) (by rw [hw9] at hB; exact hB)
    obtain rfl : x6 = 1 := hf9.trans (by decide)
    refine W.eq (g2 := F0 m 33 ls [.int 1]) rfl ?_
    refine lv_if_eq (tgt := 38) hx hb dX10_solve_33 (by decide) (fun c10 => False.elim (by revert c10; decide)) (fun _ => ?_)
    refine lv_iconst (v := 0) hx hb dX10_solve_36 (by decide) ?_
    rw [← hQ]
    exact end_i hX hB hA3 rfl rfl (by obtain ⟨rfl, rfl, rfl, rfl⟩ := pr4 hR; exact ⟨a, rfl, rfl, hm, rfl, rfl⟩) (Nat.le_of_ble_eq_true rfl) (Nat.le_of_ble_eq_true rfl) dX10_solve_37
  · replace hR := ifn (by decide) hR
    refine W.eq (g2 := F0 m 5 ls [.int 1, .ref (a 0)]) rfl ?_
    refine lv_if_eq (tgt := 25) hx hb dX10_solve_5 (by decide) (fun c11 => False.elim (by revert c11; decide)) (fun _ => ?_)
    refine lv_aload_n hx hb dX10_solve_8 rfl (lv_at hl 0 rfl) ?_
    refine lv_iload_n hx hb dX10_solve_9 rfl (lv_at hl 2 rfl) ?_
    refine lv_iload_n hx hb dX10_solve_10 rfl (lv_at hl 3 rfl) ?_
    obtain ⟨x12, hd13⟩ := ex1 (D_X10_isColumn r f q z u)
    replace hR := bnd1_use hd13 hR
    refine call_V (n := 2) (k0 := 0) (As := [.int z, .int u]) (rest := [.ref (a 0)]) hX hB (k_X10_isColumn κ l w a r f q z u hm x12 hd13) ⟨rfl, by decide, by decide, by decide +kernel⟩ wm_5_233 wm_5_235 wp_32 wm_1_6 wm_5_236 ⟨Nat.le_of_ble_eq_true rfl, Nat.le_of_ble_eq_true rfl⟩ ⟨Nat.le_of_ble_eq_true rfl, Nat.le_of_ble_eq_true rfl⟩ (mw0x (a := a) (r := r) (f := f) (q := q) (T := tb a) (w := w) rfl) rfl rfl rfl hl.1 rfl (Nat.le_of_ble_eq_true rfl) dX10_solve_11 (fun o w' H locs hp hB => ?_)
    obtain ⟨rfl, hf14, hw9⟩ := hp
    replace hB : Bd κ A s (mw κ a r f q (tb a) w) H locs := by rw [hw9] at hB; exact hB
    rcases hf14 with rfl | ⟨rfl, hz15a, hz15b, hz15c, hz15d⟩
    · replace hR := ifp rfl hR
      refine W.eq (g2 := F0 m 14 ls [.int 0, .ref (a 0)]) rfl ?_
      refine lv_if_eq (tgt := 25) hx hb dX10_solve_14 (by decide) (fun _ => ?_) (fun c16 => False.elim (by revert c16; decide))
      refine lv_iconst (v := 1) hx hb dX10_solve_25 (by decide) ?_
      refine lv_goto (tgt := 30) hx hb dX10_solve_26 (by decide) ?_
      obtain ⟨x17, t18, hd19⟩ := ex2 (D_X10_isThrown__ (q 0) (q 1) (q 2) (q 3) 1)
      replace hR := bnd2_use hd19 hR
      refine call_V (n := 1) (k0 := 0) (As := [.int 1]) (rest := []) hX hB (k_X10_isThrown__ κ l (mw κ a r f q (tb a) w) 0 (a 0) (a 1) (q 0) (q 1) (q 2) (q 3) 1 (mw0x (a := a) (r := r) (f := f) (q := q) (T := tb a) (w := w) rfl) x17 t18 hd19) ⟨rfl, by decide, by decide, by decide +kernel⟩ wm_6_15 wm_6_17 wp_33 wm_1_6 wm_6_18 ⟨Nat.le_of_ble_eq_true rfl, Nat.le_of_ble_eq_true rfl⟩ ⟨Nat.le_of_ble_eq_true rfl, Nat.le_of_ble_eq_true rfl⟩ (mw0x (a := a) (r := r) (f := f) (q := q) (T := tb a) (w := w) rfl) rfl rfl rfl hl.1 rfl (Nat.le_of_ble_eq_true rfl) dX10_solve_30 (fun o w' H locs hp hB => ?_)
      obtain ⟨rfl, hf20, hw9⟩ := hp
      replace hB : Bd κ A s (mw κ a r f (va_up q 3 t18) (tb a) w) H locs := by exact Bd_eq (mwQ3x rfl _) (by rw [hw9] at hB; exact hB)
      obtain rfl : x17 = 1 := hf20.trans (by decide)
      refine W.eq (g2 := F0 m 33 ls [.int 1]) rfl ?_
      refine lv_if_eq (tgt := 38) hx hb dX10_solve_33 (by decide) (fun c21 => False.elim (by revert c21; decide)) (fun _ => ?_)
      refine lv_iconst (v := 0) hx hb dX10_solve_36 (by decide) ?_
      rw [← hQ]
      exact end_i hX hB hA3 rfl rfl (by obtain ⟨rfl, rfl, rfl, rfl⟩ := pr4 hR; exact ⟨a, rfl, rfl, hm, rfl, rfl⟩) (Nat.le_of_ble_eq_true rfl) (Nat.le_of_ble_eq_true rfl) dX10_solve_37
    · replace hR := ifn (by decide) hR
      refine W.eq (g2 := F0 m 14 ls [.int 1, .ref (a 0)]) rfl ?_
      refine lv_if_eq (tgt := 25) hx hb dX10_solve_14 (by decide) (fun c22 => False.elim (by revert c22; decide)) (fun _ => ?_)
      refine lv_iload hx hb dX10_solve_17 (lv_at hl 4 rfl) ?_
      obtain ⟨z23, hd24⟩ := ex1 (D_X10_isTable v)
      replace hR := bnd1_use hd24 hR
      refine call_S (n := 1) (As := [.int v]) (rest := [.ref (a 0)]) hX hB (k_X10_isTable κ l (mw κ a r f q (tb a) w) v z23 hd24) ⟨by decide, by decide, by decide +kernel⟩ wm_5_186 wm_5_187 wm_1_6 wm_5_188 ⟨Nat.le_of_ble_eq_true rfl, Nat.le_of_ble_eq_true rfl⟩ ⟨Nat.le_of_ble_eq_true rfl, Nat.le_of_ble_eq_true rfl⟩ rfl hl.1 rfl (Nat.le_of_ble_eq_true rfl) dX10_solve_19 (fun o w' H locs hp hB => ?_)
      obtain ⟨rfl, hf25, hw9⟩ := hp
      replace hB : Bd κ A s (mw κ a r f q (tb a) w) H locs := by rw [hw9] at hB; exact hB
      rcases hf25 with rfl | ⟨rfl, hz26a, hz26b⟩
      · replace hR := ifp rfl hR
        refine W.eq (g2 := F0 m 22 ls [.int 0, .ref (a 0)]) rfl ?_
        refine lv_if_ne (tgt := 29) hx hb dX10_solve_22 (by decide) (fun c27 => False.elim (by revert c27; decide)) (fun _ => ?_)
        refine lv_iconst (v := 1) hx hb dX10_solve_25 (by decide) ?_
        refine lv_goto (tgt := 30) hx hb dX10_solve_26 (by decide) ?_
        obtain ⟨x28, t29, hd30⟩ := ex2 (D_X10_isThrown__ (q 0) (q 1) (q 2) (q 3) 1)
        replace hR := bnd2_use hd30 hR
        refine call_V (n := 1) (k0 := 0) (As := [.int 1]) (rest := []) hX hB (k_X10_isThrown__ κ l (mw κ a r f q (tb a) w) 0 (a 0) (a 1) (q 0) (q 1) (q 2) (q 3) 1 (mw0x (a := a) (r := r) (f := f) (q := q) (T := tb a) (w := w) rfl) x28 t29 hd30) ⟨rfl, by decide, by decide, by decide +kernel⟩ wm_6_15 wm_6_17 wp_33 wm_1_6 wm_6_18 ⟨Nat.le_of_ble_eq_true rfl, Nat.le_of_ble_eq_true rfl⟩ ⟨Nat.le_of_ble_eq_true rfl, Nat.le_of_ble_eq_true rfl⟩ (mw0x (a := a) (r := r) (f := f) (q := q) (T := tb a) (w := w) rfl) rfl rfl rfl hl.1 rfl (Nat.le_of_ble_eq_true rfl) dX10_solve_30 (fun o w' H locs hp hB => ?_)
        obtain ⟨rfl, hf31, hw9⟩ := hp
        replace hB : Bd κ A s (mw κ a r f (va_up q 3 t29) (tb a) w) H locs := by exact Bd_eq (mwQ3x rfl _) (by rw [hw9] at hB; exact hB)
        obtain rfl : x28 = 1 := hf31.trans (by decide)
        refine W.eq (g2 := F0 m 33 ls [.int 1]) rfl ?_
        refine lv_if_eq (tgt := 38) hx hb dX10_solve_33 (by decide) (fun c32 => False.elim (by revert c32; decide)) (fun _ => ?_)
        refine lv_iconst (v := 0) hx hb dX10_solve_36 (by decide) ?_
        rw [← hQ]
        exact end_i hX hB hA3 rfl rfl (by obtain ⟨rfl, rfl, rfl, rfl⟩ := pr4 hR; exact ⟨a, rfl, rfl, hm, rfl, rfl⟩) (Nat.le_of_ble_eq_true rfl) (Nat.le_of_ble_eq_true rfl) dX10_solve_37
      · replace hR := ifn (by decide) hR
        refine W.eq (g2 := F0 m 22 ls [.int 1, .ref (a 0)]) rfl ?_
        refine lv_if_ne (tgt := 29) hx hb dX10_solve_22 (by decide) (fun _ => ?_) (fun c33 => False.elim (by revert c33; decide))
        refine lv_iconst (v := 0) hx hb dX10_solve_29 (by decide) ?_
        obtain ⟨x34, t35, hd36⟩ := ex2 (D_X10_isThrown__ (q 0) (q 1) (q 2) (q 3) 0)
        replace hR := bnd2_use hd36 hR
        refine call_V (n := 1) (k0 := 0) (As := [.int 0]) (rest := []) hX hB (k_X10_isThrown__ κ l (mw κ a r f q (tb a) w) 0 (a 0) (a 1) (q 0) (q 1) (q 2) (q 3) 0 (mw0x (a := a) (r := r) (f := f) (q := q) (T := tb a) (w := w) rfl) x34 t35 hd36) ⟨rfl, by decide, by decide, by decide +kernel⟩ wm_6_15 wm_6_17 wp_33 wm_1_6 wm_6_18 ⟨Nat.le_of_ble_eq_true rfl, Nat.le_of_ble_eq_true rfl⟩ ⟨Nat.le_of_ble_eq_true rfl, Nat.le_of_ble_eq_true rfl⟩ (mw0x (a := a) (r := r) (f := f) (q := q) (T := tb a) (w := w) rfl) rfl rfl rfl hl.1 rfl (Nat.le_of_ble_eq_true rfl) dX10_solve_30 (fun o w' H locs hp hB => ?_)
        obtain ⟨rfl, hf37, hw9⟩ := hp
        replace hB : Bd κ A s (mw κ a r f (va_up q 3 t35) (tb a) w) H locs := by exact Bd_eq (mwQ3x rfl _) (by rw [hw9] at hB; exact hB)
        obtain rfl : x34 = 0 := hf37.trans (by decide)
        refine W.eq (g2 := F0 m 33 ls [.int 0]) rfl ?_
        refine lv_if_eq (tgt := 38) hx hb dX10_solve_33 (by decide) (fun _ => ?_) (fun c38 => False.elim (by revert c38; decide))
        refine lv_aload_n hx hb dX10_solve_38 rfl (lv_at hl 0 rfl) ?_
        refine gf (k0 := 0) hX hB (mw0x (a := a) (r := r) (f := f) (q := (va_up q 3 t35)) (T := tb a) (w := w) rfl) rfl in10 0 (by decide) wm_5_162 rfl rfl dX10_solve_39 ?_
        refine lv_iload_n hx hb dX10_solve_42 rfl (lv_at hl 1 rfl) ?_
        refine aaldM (k0 := 1) hX hB (mw1 (a := a) (r := r) (f := f) (q := (va_up q 3 t35)) (T := tb a) (w := w)) (vp_in_mk (by assumption) (by assumption)) rfl dX10_solve_43 ?_
        have hb39 := mok_r hm y.toNatClampNeg (by omega)
        refine lv_astore (lv' := [(5, .ref (a (2 + 2 * y.toNatClampNeg))), (0, .ref (a 0)), (1, .int y), (2, .int z), (3, .int u), (4, .int v)]) hx hb dX10_solve_44 hl (by decide) rfl (fun ls hl => ?_)
        refine lv_aload hx hb dX10_solve_46 (lv_at hl 0 rfl) ?_
        refine gf (k0 := 2 + 2 * y.toNatClampNeg) hX hB (mwG (i := y.toNatClampNeg) (a := a) (r := r) (f := f) (q := (va_up q 3 t35)) (T := tb a) (w := w) (by omega)) rfl in7 0 (by decide) wm_5_148 rfl rfl dX10_solve_48 ?_
        refine lv_aload_n hx hb dX10_solve_51 rfl (lv_at hl 1 rfl) ?_
        refine gf (k0 := 0) hX hB (mw0x (a := a) (r := r) (f := f) (q := (va_up q 3 t35)) (T := tb a) (w := w) rfl) rfl in10 0 (by decide) wm_5_162 rfl rfl dX10_solve_52 ?_
        refine lv_iload_n hx hb dX10_solve_55 rfl (lv_at hl 3 rfl) ?_
        refine aaldM (k0 := 1) hX hB (mw1 (a := a) (r := r) (f := f) (q := (va_up q 3 t35)) (T := tb a) (w := w)) (vp_in_mk (by assumption) (by assumption)) rfl dX10_solve_56 ?_
        have hb40 := mok_r hm z.toNatClampNeg (by omega)
        refine gf (k0 := 2 + 2 * z.toNatClampNeg) hX hB (mwG (i := z.toNatClampNeg) (a := a) (r := r) (f := f) (q := (va_up q 3 t35)) (T := tb a) (w := w) (by omega)) rfl in7 0 (by decide) wm_5_148 rfl rfl dX10_solve_57 ?_
        refine lv_icmp_eq (tgt := 68) hx hb dX10_solve_60 (by decide) (fun c41 => ?_) (fun c41 => ?_)
        · rw [neqP (a := r (2 * y.toNatClampNeg)) (b := r (2 * z.toNatClampNeg)) (by omega) (by omega)] at c41
          replace hR := ifp c41 hR
          refine newO (fs := [.null, .null, .null, .int 0, .int 0, .int 0, .int 0]) hX hB (ci := 10) rfl in9 tyX9_ok wm_6_176 wm_6_177 wm_1_16 df10 (Nat.le_of_ble_eq_true rfl) (Nat.le_of_ble_eq_true rfl) dX10_solve_68 (fun q42 H hB => ?_)
          refine lv_dup hx hb dX10_solve_71 rfl ?_
          refine lv_aload hx hb dX10_solve_72 (lv_at hl 0 rfl) ?_
          obtain ⟨F49, F50, F51, S52, S53, K54, G55, hd56⟩ := ex7 (D_X9_init (r (2 * y.toNatClampNeg)) (r (2 * y.toNatClampNeg + 1)) (f y.toNatClampNeg))
          replace hR := bnd7_use hd56 hR
          refine call_I (n := 1) (As := [.ref (a (2 + 2 * y.toNatClampNeg))]) (rest := [.ref q42]) hX hB (k_X9_init κ l (mw κ a r f (va_up q 3 t35) (tb a) w) q42 (2 + 2 * y.toNatClampNeg) (3 + 2 * y.toNatClampNeg) (a (2 + 2 * y.toNatClampNeg)) (a (3 + 2 * y.toNatClampNeg)) (r (2 * y.toNatClampNeg)) (r (2 * y.toNatClampNeg + 1)) (f y.toNatClampNeg) (mwG (i := y.toNatClampNeg) (a := a) (r := r) (f := f) (q := (va_up q 3 t35)) (T := tb a) (w := w) (by omega)) (mwA (i := y.toNatClampNeg) (a := a) (r := r) (f := f) (q := (va_up q 3 t35)) (T := tb a) (w := w) (by omega)) (mok_shp (i := y.toNatClampNeg) hm (by omega)) (by omega) (fun k hk => sm_ng ((hm _ (by omega)).2 k hk)) F49 F50 F51 S52 S53 K54 G55 hd56) ⟨by decide, by decide, by decide +kernel⟩ rfl wm_6_178 wm_6_179 wm_1_16 wm_6_180 ⟨Nat.le_of_ble_eq_true rfl, Nat.le_of_ble_eq_true rfl⟩ ⟨Nat.le_of_ble_eq_true rfl, Nat.le_of_ble_eq_true rfl⟩ rfl hl.1 rfl (Nat.le_of_ble_eq_true rfl) dX10_solve_74 (fun o w' H locs hp hB => ?_)
          obtain ⟨g43, b44, g45, b46, g47, b48, rfl, hf57, hw9⟩ := hp
          replace hB : Bd κ A s (lA κ b44 ((r (2 * y.toNatClampNeg + 1)) * 5) F49 :: gO g43 (r (2 * y.toNatClampNeg + 1)) (r (2 * y.toNatClampNeg + 1)) b44 :: lA κ b46 ((r (2 * y.toNatClampNeg)) * 5) F50 :: gO g45 (r (2 * y.toNatClampNeg)) (r (2 * y.toNatClampNeg)) b46 :: lA κ b48 ((r (2 * y.toNatClampNeg)) * 5) F51 :: gO g47 (r (2 * y.toNatClampNeg)) (r (2 * y.toNatClampNeg + 1)) b48 :: (q42, .inr (10, [.ref g47, .ref g45, .ref g43, .int S52, .int S53, .int (nI K54), .int G55])) :: mw κ a r f (va_up q 3 t35) (tb a) w) H locs := by rw [hw9] at hB; exact hB
          refine W.eq (g2 := F0 m 77 ls [.ref q42]) rfl ?_
          refine lv_astore (lv' := [(6, .ref q42), (5, .ref (a (2 + 2 * y.toNatClampNeg))), (0, .ref (a 0)), (1, .int y), (2, .int z), (3, .int u), (4, .int v)]) hx hb dX10_solve_77 hl (by decide) rfl (fun ls hl => ?_)
          refine lv_aload hx hb dX10_solve_79 (lv_at hl 0 rfl) ?_
          refine gf (k0 := 6) hX hB rfl rfl in9 6 (by decide) wm_6_234 rfl rfl dX10_solve_81 ?_
          refine lv_if_eq (tgt := 92) hx hb dX10_solve_84 (by decide) (fun c58 => ?_) (fun c58 => ?_)
          · replace hR := ifp c58 hR
            refine lv_aload hx hb dX10_solve_92 (lv_at hl 0 rfl) ?_
            refine gf (k0 := 6) hX hB rfl rfl in9 1 (by decide) wm_6_224 rfl rfl dX10_solve_94 ?_
            refine lv_aload_n hx hb dX10_solve_97 rfl (lv_at hl 2 rfl) ?_
            refine lv_iload_n hx hb dX10_solve_98 rfl (lv_at hl 4 rfl) ?_
            refine lv_iload_n hx hb dX10_solve_99 rfl (lv_at hl 5 rfl) ?_
            obtain ⟨F61, hd62⟩ := ex1 (D_X10_column ((va_up q 3 t35) 0) ((va_up q 3 t35) 1) ((va_up q 3 t35) 2) ((va_up q 3 t35) 3) (r (2 * z.toNatClampNeg)) (r (2 * z.toNatClampNeg + 1)) (f z.toNatClampNeg) z ((u).toNatClampNeg))
            replace hR := bnd1_use hd62 hR
            refine call_V (n := 2) (k0 := 7) (As := [.int z, .int u]) (rest := [.ref g45]) hX hB (k_X10_column κ l (lA κ b44 ((r (2 * y.toNatClampNeg + 1)) * 5) F49 :: gO g43 (r (2 * y.toNatClampNeg + 1)) (r (2 * y.toNatClampNeg + 1)) b44 :: lA κ b46 ((r (2 * y.toNatClampNeg)) * 5) F50 :: gO g45 (r (2 * y.toNatClampNeg)) (r (2 * y.toNatClampNeg)) b46 :: lA κ b48 ((r (2 * y.toNatClampNeg)) * 5) F51 :: gO g47 (r (2 * y.toNatClampNeg)) (r (2 * y.toNatClampNeg + 1)) b48 :: (q42, .inr (10, [.ref g47, .ref g45, .ref g43, .int S52, .int S53, .int (nI K54), .int G55])) :: mw κ a r f (va_up q 3 t35) (tb a) w) 7 (a 0) (a 1) 8 ((va_up q 3 t35) 0) ((va_up q 3 t35) 1) ((va_up q 3 t35) 2) ((va_up q 3 t35) 3) (tb a) (2 + 2 * z.toNatClampNeg + 7) (3 + 2 * z.toNatClampNeg + 7) (a (2 + 2 * z.toNatClampNeg)) (a (3 + 2 * z.toNatClampNeg)) (r (2 * z.toNatClampNeg)) (r (2 * z.toNatClampNeg + 1)) (f z.toNatClampNeg) z u ((u).toNatClampNeg) (mw0x (a := a) (r := r) (f := f) (q := (va_up q 3 t35)) (T := tb a) (w := w) rfl) (mw1 (a := a) (r := r) (f := f) (q := (va_up q 3 t35)) (T := tb a) (w := w)) (mwG (i := z.toNatClampNeg) (a := a) (r := r) (f := f) (q := (va_up q 3 t35)) (T := tb a) (w := w) (by omega)) (mwA (i := z.toNatClampNeg) (a := a) (r := r) (f := f) (q := (va_up q 3 t35)) (T := tb a) (w := w) (by omega)) (mok_shp (i := z.toNatClampNeg) hm (by omega)) (nI_rep (by assumption)) (vp_in_mk (by assumption) (by assumption)) rfl (by omega) F61 hd62) ⟨rfl, by decide, by decide, by decide +kernel⟩ wm_7_14 wm_7_16 wp_48 wm_1_6 wm_7_17 ⟨Nat.le_of_ble_eq_true rfl, Nat.le_of_ble_eq_true rfl⟩ ⟨Nat.le_of_ble_eq_true rfl, Nat.le_of_ble_eq_true rfl⟩ (mw0x (a := a) (r := r) (f := f) (q := (va_up q 3 t35)) (T := tb a) (w := w) rfl) rfl rfl rfl hl.1 rfl (Nat.le_of_ble_eq_true rfl) dX10_solve_100 (fun o w' H locs hp hB => ?_)
            obtain ⟨q59, q60, rfl, hw9⟩ := hp
            replace hB : Bd κ A s (lA κ q60 ((r (2 * z.toNatClampNeg)) * 5) F61 :: gO q59 (r (2 * z.toNatClampNeg)) 1 q60 :: lA κ b44 ((r (2 * y.toNatClampNeg + 1)) * 5) F49 :: gO g43 (r (2 * y.toNatClampNeg + 1)) (r (2 * y.toNatClampNeg + 1)) b44 :: lA κ b46 ((r (2 * y.toNatClampNeg)) * 5) F50 :: gO g45 (r (2 * y.toNatClampNeg)) (r (2 * y.toNatClampNeg)) b46 :: lA κ b48 ((r (2 * y.toNatClampNeg)) * 5) F51 :: gO g47 (r (2 * y.toNatClampNeg)) (r (2 * y.toNatClampNeg + 1)) b48 :: (q42, .inr (10, [.ref g47, .ref g45, .ref g43, .int S52, .int S53, .int (nI K54), .int G55])) :: mw κ a r f (va_up q 3 t35) (tb a) w) H locs := by rw [hw9] at hB; exact hB
            refine W.eq (g2 := F0 m 103 ls [.ref q59, .ref g45]) rfl ?_
            obtain ⟨F65, hd66⟩ := ex1 (D_X7_product (r (2 * y.toNatClampNeg)) (r (2 * y.toNatClampNeg)) F50 (r (2 * z.toNatClampNeg)) 1 F61)
            replace hR := bnd1_use hd66 hR
            refine call_V (n := 1) (k0 := 5) (As := [.ref q59]) (rest := []) hX hB (k_X7_product κ l (lA κ q60 ((r (2 * z.toNatClampNeg)) * 5) F61 :: gO q59 (r (2 * z.toNatClampNeg)) 1 q60 :: lA κ b44 ((r (2 * y.toNatClampNeg + 1)) * 5) F49 :: gO g43 (r (2 * y.toNatClampNeg + 1)) (r (2 * y.toNatClampNeg + 1)) b44 :: lA κ b46 ((r (2 * y.toNatClampNeg)) * 5) F50 :: gO g45 (r (2 * y.toNatClampNeg)) (r (2 * y.toNatClampNeg)) b46 :: lA κ b48 ((r (2 * y.toNatClampNeg)) * 5) F51 :: gO g47 (r (2 * y.toNatClampNeg)) (r (2 * y.toNatClampNeg + 1)) b48 :: (q42, .inr (10, [.ref g47, .ref g45, .ref g43, .int S52, .int S53, .int (nI K54), .int G55])) :: mw κ a r f (va_up q 3 t35) (tb a) w) 5 4 g45 b46 (r (2 * y.toNatClampNeg)) (r (2 * y.toNatClampNeg)) F50 1 0 q59 q60 (r (2 * z.toNatClampNeg)) 1 F61 rfl rfl ⟨by omega, by omega, by omega, by omega⟩ rfl rfl ⟨by omega, by omega, by omega, by omega⟩ (by omega) F65 hd66) ⟨rfl, by decide, by decide, by decide +kernel⟩ wm_6_116 wm_6_117 wm_6_118 wm_1_7 wm_6_119 ⟨Nat.le_of_ble_eq_true rfl, Nat.le_of_ble_eq_true rfl⟩ ⟨Nat.le_of_ble_eq_true rfl, Nat.le_of_ble_eq_true rfl⟩ rfl rfl rfl rfl hl.1 rfl (Nat.le_of_ble_eq_true rfl) dX10_solve_103 (fun o w' H locs hp hB => ?_)
            obtain ⟨q63, q64, rfl, hw9⟩ := hp
            replace hB : Bd κ A s (lA κ q64 ((r (2 * y.toNatClampNeg)) * 5) F65 :: gO q63 (r (2 * y.toNatClampNeg)) 1 q64 :: lA κ q60 ((r (2 * z.toNatClampNeg)) * 5) F61 :: gO q59 (r (2 * z.toNatClampNeg)) 1 q60 :: lA κ b44 ((r (2 * y.toNatClampNeg + 1)) * 5) F49 :: gO g43 (r (2 * y.toNatClampNeg + 1)) (r (2 * y.toNatClampNeg + 1)) b44 :: lA κ b46 ((r (2 * y.toNatClampNeg)) * 5) F50 :: gO g45 (r (2 * y.toNatClampNeg)) (r (2 * y.toNatClampNeg)) b46 :: lA κ b48 ((r (2 * y.toNatClampNeg)) * 5) F51 :: gO g47 (r (2 * y.toNatClampNeg)) (r (2 * y.toNatClampNeg + 1)) b48 :: (q42, .inr (10, [.ref g47, .ref g45, .ref g43, .int S52, .int S53, .int (nI K54), .int G55])) :: mw κ a r f (va_up q 3 t35) (tb a) w) H locs := by rw [hw9] at hB; exact hB
            refine W.eq (g2 := F0 m 106 ls [.ref q63]) rfl ?_
            refine lv_astore (lv' := [(7, .ref q63), (6, .ref q42), (5, .ref (a (2 + 2 * y.toNatClampNeg))), (0, .ref (a 0)), (1, .int y), (2, .int z), (3, .int u), (4, .int v)]) hx hb dX10_solve_106 hl (by decide) rfl (fun ls hl => ?_)
            refine lv_aload hx hb dX10_solve_108 (lv_at hl 1 rfl) ?_
            refine lv_aload hx hb dX10_solve_110 (lv_at hl 0 rfl) ?_
            obtain ⟨x67, hd68⟩ := ex1 (D_X10_goes (r (2 * y.toNatClampNeg)) (r (2 * y.toNatClampNeg + 1)) F51 K54 S52 S53 G55 (r (2 * y.toNatClampNeg)) 1 F65)
            replace hR := bnd1_use hd68 hR
            refine call_S (n := 2) (As := [.ref q42, .ref q63]) (rest := []) hX hB (k_X10_goes κ l (lA κ q64 ((r (2 * y.toNatClampNeg)) * 5) F65 :: gO q63 (r (2 * y.toNatClampNeg)) 1 q64 :: lA κ q60 ((r (2 * z.toNatClampNeg)) * 5) F61 :: gO q59 (r (2 * z.toNatClampNeg)) 1 q60 :: lA κ b44 ((r (2 * y.toNatClampNeg + 1)) * 5) F49 :: gO g43 (r (2 * y.toNatClampNeg + 1)) (r (2 * y.toNatClampNeg + 1)) b44 :: lA κ b46 ((r (2 * y.toNatClampNeg)) * 5) F50 :: gO g45 (r (2 * y.toNatClampNeg)) (r (2 * y.toNatClampNeg)) b46 :: lA κ b48 ((r (2 * y.toNatClampNeg)) * 5) F51 :: gO g47 (r (2 * y.toNatClampNeg)) (r (2 * y.toNatClampNeg + 1)) b48 :: (q42, .inr (10, [.ref g47, .ref g45, .ref g43, .int S52, .int S53, .int (nI K54), .int G55])) :: mw κ a r f (va_up q 3 t35) (tb a) w) 9 8 g47 b48 (r (2 * y.toNatClampNeg)) (r (2 * y.toNatClampNeg + 1)) F51 10 q42 g45 g43 K54 S52 S53 G55 1 0 q63 q64 (r (2 * y.toNatClampNeg)) 1 F65 rfl rfl (mok_shp (i := y.toNatClampNeg) hm (by omega)) rfl rfl rfl ⟨by omega, by omega, by omega, by omega⟩ hf57 x67 hd68) ⟨by decide, by decide, by decide +kernel⟩ wm_7_18 wm_7_19 wm_1_6 wm_7_20 ⟨Nat.le_of_ble_eq_true rfl, Nat.le_of_ble_eq_true rfl⟩ ⟨Nat.le_of_ble_eq_true rfl, Nat.le_of_ble_eq_true rfl⟩ rfl hl.1 rfl (Nat.le_of_ble_eq_true rfl) dX10_solve_112 (fun o w' H locs hp hB => ?_)
            obtain ⟨rfl, hf69, hw9⟩ := hp
            replace hB : Bd κ A s (lA κ q64 ((r (2 * y.toNatClampNeg)) * 5) F65 :: gO q63 (r (2 * y.toNatClampNeg)) 1 q64 :: lA κ q60 ((r (2 * z.toNatClampNeg)) * 5) F61 :: gO q59 (r (2 * z.toNatClampNeg)) 1 q60 :: lA κ b44 ((r (2 * y.toNatClampNeg + 1)) * 5) F49 :: gO g43 (r (2 * y.toNatClampNeg + 1)) (r (2 * y.toNatClampNeg + 1)) b44 :: lA κ b46 ((r (2 * y.toNatClampNeg)) * 5) F50 :: gO g45 (r (2 * y.toNatClampNeg)) (r (2 * y.toNatClampNeg)) b46 :: lA κ b48 ((r (2 * y.toNatClampNeg)) * 5) F51 :: gO g47 (r (2 * y.toNatClampNeg)) (r (2 * y.toNatClampNeg + 1)) b48 :: (q42, .inr (10, [.ref g47, .ref g45, .ref g43, .int S52, .int S53, .int (nI K54), .int G55])) :: mw κ a r f (va_up q 3 t35) (tb a) w) H locs := by rw [hw9] at hB; exact hB
            rcases hf69 with rfl | rfl
            · replace hR := ifp rfl hR
              refine W.eq (g2 := F0 m 115 ls [.int 0]) rfl ?_
              refine lv_if_ne (tgt := 123) hx hb dX10_solve_115 (by decide) (fun c70 => False.elim (by revert c70; decide)) (fun _ => ?_)
              refine lv_aload_n hx hb dX10_solve_118 rfl (lv_at hl 3 rfl) ?_
              refine call_V (n := 0) (k0 := 11) (As := []) (rest := []) hX hB (k_X10_no κ l (lA κ q64 ((r (2 * y.toNatClampNeg)) * 5) F65 :: gO q63 (r (2 * y.toNatClampNeg)) 1 q64 :: lA κ q60 ((r (2 * z.toNatClampNeg)) * 5) F61 :: gO q59 (r (2 * z.toNatClampNeg)) 1 q60 :: lA κ b44 ((r (2 * y.toNatClampNeg + 1)) * 5) F49 :: gO g43 (r (2 * y.toNatClampNeg + 1)) (r (2 * y.toNatClampNeg + 1)) b44 :: lA κ b46 ((r (2 * y.toNatClampNeg)) * 5) F50 :: gO g45 (r (2 * y.toNatClampNeg)) (r (2 * y.toNatClampNeg)) b46 :: lA κ b48 ((r (2 * y.toNatClampNeg)) * 5) F51 :: gO g47 (r (2 * y.toNatClampNeg)) (r (2 * y.toNatClampNeg + 1)) b48 :: (q42, .inr (10, [.ref g47, .ref g45, .ref g43, .int S52, .int S53, .int (nI K54), .int G55])) :: mw κ a r f (va_up q 3 t35) (tb a) w) 11 (a 0) (a 1) ((va_up q 3 t35) 0) ((va_up q 3 t35) 1) ((va_up q 3 t35) 2) ((va_up q 3 t35) 3) (mw0x (a := a) (r := r) (f := f) (q := (va_up q 3 t35)) (T := tb a) (w := w) rfl)) ⟨rfl, by decide, by decide, by decide +kernel⟩ wm_6_89 wm_6_91 wp_36 wm_1_6 wm_6_92 ⟨Nat.le_of_ble_eq_true rfl, Nat.le_of_ble_eq_true rfl⟩ ⟨Nat.le_of_ble_eq_true rfl, Nat.le_of_ble_eq_true rfl⟩ (mw0x (a := a) (r := r) (f := f) (q := (va_up q 3 t35)) (T := tb a) (w := w) rfl) rfl rfl rfl hl.1 rfl (Nat.le_of_ble_eq_true rfl) dX10_solve_119 (fun o w' H locs hp hB => ?_)
              obtain ⟨rfl, hw9⟩ := hp
              replace hB : Bd κ A s (lA κ q64 ((r (2 * y.toNatClampNeg)) * 5) F65 :: gO q63 (r (2 * y.toNatClampNeg)) 1 q64 :: lA κ q60 ((r (2 * z.toNatClampNeg)) * 5) F61 :: gO q59 (r (2 * z.toNatClampNeg)) 1 q60 :: lA κ b44 ((r (2 * y.toNatClampNeg + 1)) * 5) F49 :: gO g43 (r (2 * y.toNatClampNeg + 1)) (r (2 * y.toNatClampNeg + 1)) b44 :: lA κ b46 ((r (2 * y.toNatClampNeg)) * 5) F50 :: gO g45 (r (2 * y.toNatClampNeg)) (r (2 * y.toNatClampNeg)) b46 :: lA κ b48 ((r (2 * y.toNatClampNeg)) * 5) F51 :: gO g47 (r (2 * y.toNatClampNeg)) (r (2 * y.toNatClampNeg + 1)) b48 :: (q42, .inr (10, [.ref g47, .ref g45, .ref g43, .int S52, .int S53, .int (nI K54), .int G55])) :: mw κ a r f (va_up (va_up q 3 t35) 1 (((va_up q 3 t35) 1) + 1)) (tb a) w) H locs := by exact Bd_eq (congrArg (List.cons _) (congrArg (List.cons _) (congrArg (List.cons _) (congrArg (List.cons _) (congrArg (List.cons _) (congrArg (List.cons _) (congrArg (List.cons _) (congrArg (List.cons _) (congrArg (List.cons _) (congrArg (List.cons _) (congrArg (List.cons _) (mwQ1x rfl _)))))))))))) (by rw [hw9] at hB; exact hB)
              refine W.eq (g2 := F0 m 122 ls [.int (-9)]) rfl ?_
              replace hB : Bd κ A s (lA κ q64 ((r (2 * y.toNatClampNeg)) * 5) F65 :: gO q63 (r (2 * y.toNatClampNeg)) 1 q64 :: lA κ q60 ((r (2 * z.toNatClampNeg)) * 5) F61 :: gO q59 (r (2 * z.toNatClampNeg)) 1 q60 :: lA κ b44 ((r (2 * y.toNatClampNeg + 1)) * 5) F49 :: gO g43 (r (2 * y.toNatClampNeg + 1)) (r (2 * y.toNatClampNeg + 1)) b44 :: lA κ b46 ((r (2 * y.toNatClampNeg)) * 5) F50 :: gO g45 (r (2 * y.toNatClampNeg)) (r (2 * y.toNatClampNeg)) b46 :: lA κ b48 ((r (2 * y.toNatClampNeg)) * 5) F51 :: gO g47 (r (2 * y.toNatClampNeg)) (r (2 * y.toNatClampNeg + 1)) b48 :: mw κ a r f (va_up (va_up q 3 t35) 1 (((va_up q 3 t35) 1) + 1)) (tb a) w) H locs := Bd_del 10 hB
              replace hB : Bd κ A s (lA κ q64 ((r (2 * y.toNatClampNeg)) * 5) F65 :: gO q63 (r (2 * y.toNatClampNeg)) 1 q64 :: lA κ q60 ((r (2 * z.toNatClampNeg)) * 5) F61 :: gO q59 (r (2 * z.toNatClampNeg)) 1 q60 :: lA κ b44 ((r (2 * y.toNatClampNeg + 1)) * 5) F49 :: gO g43 (r (2 * y.toNatClampNeg + 1)) (r (2 * y.toNatClampNeg + 1)) b44 :: lA κ b46 ((r (2 * y.toNatClampNeg)) * 5) F50 :: gO g45 (r (2 * y.toNatClampNeg)) (r (2 * y.toNatClampNeg)) b46 :: lA κ b48 ((r (2 * y.toNatClampNeg)) * 5) F51 :: mw κ a r f (va_up (va_up q 3 t35) 1 (((va_up q 3 t35) 1) + 1)) (tb a) w) H locs := Bd_del 9 hB
              replace hB : Bd κ A s (lA κ q64 ((r (2 * y.toNatClampNeg)) * 5) F65 :: gO q63 (r (2 * y.toNatClampNeg)) 1 q64 :: lA κ q60 ((r (2 * z.toNatClampNeg)) * 5) F61 :: gO q59 (r (2 * z.toNatClampNeg)) 1 q60 :: lA κ b44 ((r (2 * y.toNatClampNeg + 1)) * 5) F49 :: gO g43 (r (2 * y.toNatClampNeg + 1)) (r (2 * y.toNatClampNeg + 1)) b44 :: lA κ b46 ((r (2 * y.toNatClampNeg)) * 5) F50 :: gO g45 (r (2 * y.toNatClampNeg)) (r (2 * y.toNatClampNeg)) b46 :: mw κ a r f (va_up (va_up q 3 t35) 1 (((va_up q 3 t35) 1) + 1)) (tb a) w) H locs := Bd_del 8 hB
              replace hB : Bd κ A s (lA κ q64 ((r (2 * y.toNatClampNeg)) * 5) F65 :: gO q63 (r (2 * y.toNatClampNeg)) 1 q64 :: lA κ q60 ((r (2 * z.toNatClampNeg)) * 5) F61 :: gO q59 (r (2 * z.toNatClampNeg)) 1 q60 :: lA κ b44 ((r (2 * y.toNatClampNeg + 1)) * 5) F49 :: gO g43 (r (2 * y.toNatClampNeg + 1)) (r (2 * y.toNatClampNeg + 1)) b44 :: lA κ b46 ((r (2 * y.toNatClampNeg)) * 5) F50 :: mw κ a r f (va_up (va_up q 3 t35) 1 (((va_up q 3 t35) 1) + 1)) (tb a) w) H locs := Bd_del 7 hB
              replace hB : Bd κ A s (lA κ q64 ((r (2 * y.toNatClampNeg)) * 5) F65 :: gO q63 (r (2 * y.toNatClampNeg)) 1 q64 :: lA κ q60 ((r (2 * z.toNatClampNeg)) * 5) F61 :: gO q59 (r (2 * z.toNatClampNeg)) 1 q60 :: lA κ b44 ((r (2 * y.toNatClampNeg + 1)) * 5) F49 :: gO g43 (r (2 * y.toNatClampNeg + 1)) (r (2 * y.toNatClampNeg + 1)) b44 :: mw κ a r f (va_up (va_up q 3 t35) 1 (((va_up q 3 t35) 1) + 1)) (tb a) w) H locs := Bd_del 6 hB
              replace hB : Bd κ A s (lA κ q64 ((r (2 * y.toNatClampNeg)) * 5) F65 :: gO q63 (r (2 * y.toNatClampNeg)) 1 q64 :: lA κ q60 ((r (2 * z.toNatClampNeg)) * 5) F61 :: gO q59 (r (2 * z.toNatClampNeg)) 1 q60 :: lA κ b44 ((r (2 * y.toNatClampNeg + 1)) * 5) F49 :: mw κ a r f (va_up (va_up q 3 t35) 1 (((va_up q 3 t35) 1) + 1)) (tb a) w) H locs := Bd_del 5 hB
              replace hB : Bd κ A s (lA κ q64 ((r (2 * y.toNatClampNeg)) * 5) F65 :: gO q63 (r (2 * y.toNatClampNeg)) 1 q64 :: lA κ q60 ((r (2 * z.toNatClampNeg)) * 5) F61 :: gO q59 (r (2 * z.toNatClampNeg)) 1 q60 :: mw κ a r f (va_up (va_up q 3 t35) 1 (((va_up q 3 t35) 1) + 1)) (tb a) w) H locs := Bd_del 4 hB
              replace hB : Bd κ A s (lA κ q64 ((r (2 * y.toNatClampNeg)) * 5) F65 :: gO q63 (r (2 * y.toNatClampNeg)) 1 q64 :: lA κ q60 ((r (2 * z.toNatClampNeg)) * 5) F61 :: mw κ a r f (va_up (va_up q 3 t35) 1 (((va_up q 3 t35) 1) + 1)) (tb a) w) H locs := Bd_del 3 hB
              replace hB : Bd κ A s (lA κ q64 ((r (2 * y.toNatClampNeg)) * 5) F65 :: gO q63 (r (2 * y.toNatClampNeg)) 1 q64 :: mw κ a r f (va_up (va_up q 3 t35) 1 (((va_up q 3 t35) 1) + 1)) (tb a) w) H locs := Bd_del 2 hB
              replace hB : Bd κ A s (lA κ q64 ((r (2 * y.toNatClampNeg)) * 5) F65 :: mw κ a r f (va_up (va_up q 3 t35) 1 (((va_up q 3 t35) 1) + 1)) (tb a) w) H locs := Bd_del 1 hB
              replace hB : Bd κ A s (mw κ a r f (va_up (va_up q 3 t35) 1 (((va_up q 3 t35) 1) + 1)) (tb a) w) H locs := Bd_del 0 hB
              rw [← hQ]
              exact end_i hX hB hA3 rfl rfl (by obtain ⟨rfl, rfl, rfl, rfl⟩ := pr4 hR; exact ⟨a, rfl, rfl, hm, rfl, rfl⟩) (Nat.le_of_ble_eq_true rfl) (Nat.le_of_ble_eq_true rfl) dX10_solve_122
            · replace hR := ifn (by decide) hR
              refine W.eq (g2 := F0 m 115 ls [.int 1]) rfl ?_
              refine lv_if_ne (tgt := 123) hx hb dX10_solve_115 (by decide) (fun _ => ?_) (fun c71 => False.elim (by revert c71; decide))
              refine newO (fs := [.int 0, .int 0, .null]) hX hB (ci := 8) rfl in7 tyX7_ok wm_5_138 wm_5_140 wm_1_7 df8 (Nat.le_of_ble_eq_true rfl) (Nat.le_of_ble_eq_true rfl) dX10_solve_123 (fun q72 H hB => ?_)
              refine lv_dup hx hb dX10_solve_126 rfl ?_
              refine lv_aload hx hb dX10_solve_127 (lv_at hl 2 rfl) ?_
              refine gf (k0 := 2 + 2 * y.toNatClampNeg + 12) hX hB (mwG (i := y.toNatClampNeg) (a := a) (r := r) (f := f) (q := (va_up q 3 t35)) (T := tb a) (w := w) (by omega)) rfl in7 1 (by decide) wm_5_152 rfl rfl dX10_solve_129 ?_
              refine lv_iconst (v := 1) hx hb dX10_solve_132 (by decide) ?_
              refine call_I (n := 2) (As := [.int (nI (r (2 * y.toNatClampNeg + 1))), .int 1]) (rest := [.ref q72]) hX hB (k_X7_init κ l (lA κ q64 ((r (2 * y.toNatClampNeg)) * 5) F65 :: gO q63 (r (2 * y.toNatClampNeg)) 1 q64 :: lA κ q60 ((r (2 * z.toNatClampNeg)) * 5) F61 :: gO q59 (r (2 * z.toNatClampNeg)) 1 q60 :: lA κ b44 ((r (2 * y.toNatClampNeg + 1)) * 5) F49 :: gO g43 (r (2 * y.toNatClampNeg + 1)) (r (2 * y.toNatClampNeg + 1)) b44 :: lA κ b46 ((r (2 * y.toNatClampNeg)) * 5) F50 :: gO g45 (r (2 * y.toNatClampNeg)) (r (2 * y.toNatClampNeg)) b46 :: lA κ b48 ((r (2 * y.toNatClampNeg)) * 5) F51 :: gO g47 (r (2 * y.toNatClampNeg)) (r (2 * y.toNatClampNeg + 1)) b48 :: (q42, .inr (10, [.ref g47, .ref g45, .ref g43, .int S52, .int S53, .int (nI K54), .int G55])) :: mw κ a r f (va_up q 3 t35) (tb a) w) q72 (nI (r (2 * y.toNatClampNeg + 1))) (r (2 * y.toNatClampNeg + 1)) 1 1 rfl rfl (by omega)) ⟨by decide, by decide, by decide +kernel⟩ rfl wm_5_141 wm_5_142 wm_1_7 wm_5_143 ⟨Nat.le_of_ble_eq_true rfl, Nat.le_of_ble_eq_true rfl⟩ ⟨Nat.le_of_ble_eq_true rfl, Nat.le_of_ble_eq_true rfl⟩ rfl hl.1 rfl (Nat.le_of_ble_eq_true rfl) dX10_solve_133 (fun o w' H locs hp hB => ?_)
              obtain ⟨b73, rfl, hw9⟩ := hp
              replace hB : Bd κ A s (lA κ b73 ((r (2 * y.toNatClampNeg + 1)) * 5) (fun _ => 0) :: gO q72 (r (2 * y.toNatClampNeg + 1)) 1 b73 :: lA κ q64 ((r (2 * y.toNatClampNeg)) * 5) F65 :: gO q63 (r (2 * y.toNatClampNeg)) 1 q64 :: lA κ q60 ((r (2 * z.toNatClampNeg)) * 5) F61 :: gO q59 (r (2 * z.toNatClampNeg)) 1 q60 :: lA κ b44 ((r (2 * y.toNatClampNeg + 1)) * 5) F49 :: gO g43 (r (2 * y.toNatClampNeg + 1)) (r (2 * y.toNatClampNeg + 1)) b44 :: lA κ b46 ((r (2 * y.toNatClampNeg)) * 5) F50 :: gO g45 (r (2 * y.toNatClampNeg)) (r (2 * y.toNatClampNeg)) b46 :: lA κ b48 ((r (2 * y.toNatClampNeg)) * 5) F51 :: gO g47 (r (2 * y.toNatClampNeg)) (r (2 * y.toNatClampNeg + 1)) b48 :: (q42, .inr (10, [.ref g47, .ref g45, .ref g43, .int S52, .int S53, .int (nI K54), .int G55])) :: mw κ a r f (va_up q 3 t35) (tb a) w) H locs := by rw [hw9] at hB; exact hB
              refine W.eq (g2 := F0 m 136 ls [.ref q72]) rfl ?_
              refine lv_astore (lv' := [(8, .ref q72), (7, .ref q63), (6, .ref q42), (5, .ref (a (2 + 2 * y.toNatClampNeg))), (0, .ref (a 0)), (1, .int y), (2, .int z), (3, .int u), (4, .int v)]) hx hb dX10_solve_136 hl (by decide) rfl (fun ls hl => ?_)
              have hK := hf57
              refine lv_iconst (v := 0) hx hb dX10_solve_138 (by decide) ?_
              refine lv_istore (lv' := [(9, .int 0), (8, .ref q72), (7, .ref q63), (6, .ref q42), (5, .ref (a (2 + 2 * y.toNatClampNeg))), (0, .ref (a 0)), (1, .int y), (2, .int z), (3, .int u), (4, .int v)]) hx hb dX10_solve_139 hl (by decide) rfl (fun ls hl => ?_)
              have lp141 : ∀ (nn141 : Nat) (y9_141 : Nat) (fb73_141 : Nat → Int64) (H : Heap) (locs : List Loc), (y9_141 ≤ K54) → K54 + 1 - y9_141 < nn141 → D_X10_solve_141 r f q y v t35 F49 F51 K54 F65 nn141 y9_141 fb73_141 = (o_x, o_r', o_f', o_q') → Bd κ A s (lA κ b73 ((r (2 * y.toNatClampNeg + 1)) * 5) fb73_141 :: gO q72 (r (2 * y.toNatClampNeg + 1)) 1 b73 :: lA κ q64 ((r (2 * y.toNatClampNeg)) * 5) F65 :: gO q63 (r (2 * y.toNatClampNeg)) 1 q64 :: lA κ q60 ((r (2 * z.toNatClampNeg)) * 5) F61 :: gO q59 (r (2 * z.toNatClampNeg)) 1 q60 :: lA κ b44 ((r (2 * y.toNatClampNeg + 1)) * 5) F49 :: gO g43 (r (2 * y.toNatClampNeg + 1)) (r (2 * y.toNatClampNeg + 1)) b44 :: lA κ b46 ((r (2 * y.toNatClampNeg)) * 5) F50 :: gO g45 (r (2 * y.toNatClampNeg)) (r (2 * y.toNatClampNeg)) b46 :: lA κ b48 ((r (2 * y.toNatClampNeg)) * 5) F51 :: gO g47 (r (2 * y.toNatClampNeg)) (r (2 * y.toNatClampNeg + 1)) b48 :: (q42, .inr (10, [.ref g47, .ref g45, .ref g43, .int S52, .int S53, .int (nI K54), .int G55])) :: mw κ a r f (va_up q 3 t35) (tb a) w) H locs → ∀ ls : Array Slot, lv_has ls 10 [(9, .int (nI y9_141)), (8, .ref q72), (7, .ref q63), (6, .ref q42), (5, .ref (a (2 + 2 * y.toNatClampNeg))), (0, .ref (a 0)), (1, .int y), (2, .int z), (3, .int u), (4, .int v)] → W p l e (Rm 5 121 15 168) s m args below meth c H locs (13) (145) Q (F0 m 141 ls []) := by
                intro nn141
                induction nn141 with
                | zero => intro y9_141 fb73_141 H locs hn9_141 hμ; exact absurd hμ (Nat.not_lt_zero _)
                | succ nn141 ih141 =>
                  intro y9_141 fb73_141 H locs hn9_141 hμ141 hR hB ls hl
                  replace hR := (D_X10_solve_141_s).symm.trans hR
                  refine lv_iload hx hb dX10_solve_141 (lv_at hl 0 rfl) ?_
                  refine lv_aload hx hb dX10_solve_143 (lv_at hl 3 rfl) ?_
                  refine gf (k0 := 12) hX hB rfl rfl in9 5 (by decide) wm_6_232 rfl rfl dX10_solve_145 ?_
                  refine lv_icmp_ge (tgt := 186) hx hb dX10_solve_148 (by decide) (fun c114 => ?_) (fun c114 => ?_)
                  · rw [nleP (a := K54) (b := y9_141) (by omega) (by omega)] at c114
                    replace hR := ifp c114 hR
                    refine lv_aload hx hb dX10_solve_186 (lv_at hl 1 rfl) ?_
                    obtain ⟨x115, hd116⟩ := ex1 (D_X7_isGreat (r (2 * y.toNatClampNeg + 1)) 1 fb73_141)
                    replace hR := bnd1_use hd116 hR
                    refine call_V (n := 0) (k0 := 1) (As := []) (rest := []) hX hB (k_X7_isGreat κ l (lA κ b73 ((r (2 * y.toNatClampNeg + 1)) * 5) fb73_141 :: gO q72 (r (2 * y.toNatClampNeg + 1)) 1 b73 :: lA κ q64 ((r (2 * y.toNatClampNeg)) * 5) F65 :: gO q63 (r (2 * y.toNatClampNeg)) 1 q64 :: lA κ q60 ((r (2 * z.toNatClampNeg)) * 5) F61 :: gO q59 (r (2 * z.toNatClampNeg)) 1 q60 :: lA κ b44 ((r (2 * y.toNatClampNeg + 1)) * 5) F49 :: gO g43 (r (2 * y.toNatClampNeg + 1)) (r (2 * y.toNatClampNeg + 1)) b44 :: lA κ b46 ((r (2 * y.toNatClampNeg)) * 5) F50 :: gO g45 (r (2 * y.toNatClampNeg)) (r (2 * y.toNatClampNeg)) b46 :: lA κ b48 ((r (2 * y.toNatClampNeg)) * 5) F51 :: gO g47 (r (2 * y.toNatClampNeg)) (r (2 * y.toNatClampNeg + 1)) b48 :: (q42, .inr (10, [.ref g47, .ref g45, .ref g43, .int S52, .int S53, .int (nI K54), .int G55])) :: mw κ a r f (va_up q 3 t35) (tb a) w) 1 0 q72 b73 (r (2 * y.toNatClampNeg + 1)) 1 fb73_141 rfl rfl ⟨by omega, by omega, by omega, by omega⟩ x115 hd116) ⟨rfl, by decide, by decide, by decide +kernel⟩ wm_7_21 wm_6_154 wm_6_155 wm_1_7 wm_6_156 ⟨Nat.le_of_ble_eq_true rfl, Nat.le_of_ble_eq_true rfl⟩ ⟨Nat.le_of_ble_eq_true rfl, Nat.le_of_ble_eq_true rfl⟩ rfl rfl rfl rfl hl.1 rfl (Nat.le_of_ble_eq_true rfl) dX10_solve_188 (fun o w' H locs hp hB => ?_)
                    obtain ⟨rfl, hf117, hf118, hw9⟩ := hp
                    replace hB : Bd κ A s (lA κ b73 ((r (2 * y.toNatClampNeg + 1)) * 5) fb73_141 :: gO q72 (r (2 * y.toNatClampNeg + 1)) 1 b73 :: lA κ q64 ((r (2 * y.toNatClampNeg)) * 5) F65 :: gO q63 (r (2 * y.toNatClampNeg)) 1 q64 :: lA κ q60 ((r (2 * z.toNatClampNeg)) * 5) F61 :: gO q59 (r (2 * z.toNatClampNeg)) 1 q60 :: lA κ b44 ((r (2 * y.toNatClampNeg + 1)) * 5) F49 :: gO g43 (r (2 * y.toNatClampNeg + 1)) (r (2 * y.toNatClampNeg + 1)) b44 :: lA κ b46 ((r (2 * y.toNatClampNeg)) * 5) F50 :: gO g45 (r (2 * y.toNatClampNeg)) (r (2 * y.toNatClampNeg)) b46 :: lA κ b48 ((r (2 * y.toNatClampNeg)) * 5) F51 :: gO g47 (r (2 * y.toNatClampNeg)) (r (2 * y.toNatClampNeg + 1)) b48 :: (q42, .inr (10, [.ref g47, .ref g45, .ref g43, .int S52, .int S53, .int (nI K54), .int G55])) :: mw κ a r f (va_up q 3 t35) (tb a) w) H locs := by rw [hw9] at hB; exact hB
                    rcases hf117 with rfl | rfl
                    · replace hR := ifp rfl hR
                      refine W.eq (g2 := F0 m 191 ls [.int 0]) rfl ?_
                      refine lv_if_eq (tgt := 199) hx hb dX10_solve_191 (by decide) (fun _ => ?_) (fun c119 => False.elim (by revert c119; decide))
                      refine lv_aload_n hx hb dX10_solve_199 rfl (lv_at hl 5 rfl) ?_
                      refine lv_iload hx hb dX10_solve_200 (lv_at hl 9 rfl) ?_
                      refine lv_aload hx hb dX10_solve_202 (lv_at hl 3 rfl) ?_
                      refine gf (k0 := 12) hX hB rfl rfl in9 2 (by decide) wm_6_226 rfl rfl dX10_solve_204 ?_
                      refine lv_aload hx hb dX10_solve_207 (lv_at hl 1 rfl) ?_
                      obtain ⟨F122, hd123⟩ := ex1 (D_X7_product (r (2 * y.toNatClampNeg + 1)) (r (2 * y.toNatClampNeg + 1)) F49 (r (2 * y.toNatClampNeg + 1)) 1 fb73_141)
                      replace hR := bnd1_use hd123 hR
                      refine call_V (n := 1) (k0 := 7) (As := [.ref q72]) (rest := [.int v, .ref (a 0)]) hX hB (k_X7_product κ l (lA κ b73 ((r (2 * y.toNatClampNeg + 1)) * 5) fb73_141 :: gO q72 (r (2 * y.toNatClampNeg + 1)) 1 b73 :: lA κ q64 ((r (2 * y.toNatClampNeg)) * 5) F65 :: gO q63 (r (2 * y.toNatClampNeg)) 1 q64 :: lA κ q60 ((r (2 * z.toNatClampNeg)) * 5) F61 :: gO q59 (r (2 * z.toNatClampNeg)) 1 q60 :: lA κ b44 ((r (2 * y.toNatClampNeg + 1)) * 5) F49 :: gO g43 (r (2 * y.toNatClampNeg + 1)) (r (2 * y.toNatClampNeg + 1)) b44 :: lA κ b46 ((r (2 * y.toNatClampNeg)) * 5) F50 :: gO g45 (r (2 * y.toNatClampNeg)) (r (2 * y.toNatClampNeg)) b46 :: lA κ b48 ((r (2 * y.toNatClampNeg)) * 5) F51 :: gO g47 (r (2 * y.toNatClampNeg)) (r (2 * y.toNatClampNeg + 1)) b48 :: (q42, .inr (10, [.ref g47, .ref g45, .ref g43, .int S52, .int S53, .int (nI K54), .int G55])) :: mw κ a r f (va_up q 3 t35) (tb a) w) 7 6 g43 b44 (r (2 * y.toNatClampNeg + 1)) (r (2 * y.toNatClampNeg + 1)) F49 1 0 q72 b73 (r (2 * y.toNatClampNeg + 1)) 1 fb73_141 rfl rfl ⟨by omega, by omega, by omega, by omega⟩ rfl rfl ⟨by omega, by omega, by omega, by omega⟩ (by omega) F122 hd123) ⟨rfl, by decide, by decide, by decide +kernel⟩ wm_6_116 wm_6_117 wm_6_118 wm_1_7 wm_6_119 ⟨Nat.le_of_ble_eq_true rfl, Nat.le_of_ble_eq_true rfl⟩ ⟨Nat.le_of_ble_eq_true rfl, Nat.le_of_ble_eq_true rfl⟩ rfl rfl rfl rfl hl.1 rfl (Nat.le_of_ble_eq_true rfl) dX10_solve_209 (fun o w' H locs hp hB => ?_)
                      obtain ⟨q120, q121, rfl, hw9⟩ := hp
                      replace hB : Bd κ A s (lA κ q121 ((r (2 * y.toNatClampNeg + 1)) * 5) F122 :: gO q120 (r (2 * y.toNatClampNeg + 1)) 1 q121 :: lA κ b73 ((r (2 * y.toNatClampNeg + 1)) * 5) fb73_141 :: gO q72 (r (2 * y.toNatClampNeg + 1)) 1 b73 :: lA κ q64 ((r (2 * y.toNatClampNeg)) * 5) F65 :: gO q63 (r (2 * y.toNatClampNeg)) 1 q64 :: lA κ q60 ((r (2 * z.toNatClampNeg)) * 5) F61 :: gO q59 (r (2 * z.toNatClampNeg)) 1 q60 :: lA κ b44 ((r (2 * y.toNatClampNeg + 1)) * 5) F49 :: gO g43 (r (2 * y.toNatClampNeg + 1)) (r (2 * y.toNatClampNeg + 1)) b44 :: lA κ b46 ((r (2 * y.toNatClampNeg)) * 5) F50 :: gO g45 (r (2 * y.toNatClampNeg)) (r (2 * y.toNatClampNeg)) b46 :: lA κ b48 ((r (2 * y.toNatClampNeg)) * 5) F51 :: gO g47 (r (2 * y.toNatClampNeg)) (r (2 * y.toNatClampNeg + 1)) b48 :: (q42, .inr (10, [.ref g47, .ref g45, .ref g43, .int S52, .int S53, .int (nI K54), .int G55])) :: mw κ a r f (va_up q 3 t35) (tb a) w) H locs := by rw [hw9] at hB; exact hB
                      refine W.eq (g2 := F0 m 212 ls [.ref q120, .int v, .ref (a 0)]) rfl ?_
                      replace hB : Bd κ A s (lA κ q121 ((r (2 * y.toNatClampNeg + 1)) * 5) F122 :: gO q120 (r (2 * y.toNatClampNeg + 1)) 1 q121 :: lA κ b73 ((r (2 * y.toNatClampNeg + 1)) * 5) fb73_141 :: gO q72 (r (2 * y.toNatClampNeg + 1)) 1 b73 :: lA κ q64 ((r (2 * y.toNatClampNeg)) * 5) F65 :: gO q63 (r (2 * y.toNatClampNeg)) 1 q64 :: lA κ q60 ((r (2 * z.toNatClampNeg)) * 5) F61 :: gO q59 (r (2 * z.toNatClampNeg)) 1 q60 :: lA κ b44 ((r (2 * y.toNatClampNeg + 1)) * 5) F49 :: gO g43 (r (2 * y.toNatClampNeg + 1)) (r (2 * y.toNatClampNeg + 1)) b44 :: lA κ b46 ((r (2 * y.toNatClampNeg)) * 5) F50 :: gO g45 (r (2 * y.toNatClampNeg)) (r (2 * y.toNatClampNeg)) b46 :: lA κ b48 ((r (2 * y.toNatClampNeg)) * 5) F51 :: gO g47 (r (2 * y.toNatClampNeg)) (r (2 * y.toNatClampNeg + 1)) b48 :: mw κ a r f (va_up q 3 t35) (tb a) w) H locs := Bd_del 14 hB
                      replace hB : Bd κ A s (lA κ q121 ((r (2 * y.toNatClampNeg + 1)) * 5) F122 :: gO q120 (r (2 * y.toNatClampNeg + 1)) 1 q121 :: lA κ b73 ((r (2 * y.toNatClampNeg + 1)) * 5) fb73_141 :: gO q72 (r (2 * y.toNatClampNeg + 1)) 1 b73 :: lA κ q64 ((r (2 * y.toNatClampNeg)) * 5) F65 :: gO q63 (r (2 * y.toNatClampNeg)) 1 q64 :: lA κ q60 ((r (2 * z.toNatClampNeg)) * 5) F61 :: gO q59 (r (2 * z.toNatClampNeg)) 1 q60 :: lA κ b44 ((r (2 * y.toNatClampNeg + 1)) * 5) F49 :: gO g43 (r (2 * y.toNatClampNeg + 1)) (r (2 * y.toNatClampNeg + 1)) b44 :: lA κ b46 ((r (2 * y.toNatClampNeg)) * 5) F50 :: gO g45 (r (2 * y.toNatClampNeg)) (r (2 * y.toNatClampNeg)) b46 :: lA κ b48 ((r (2 * y.toNatClampNeg)) * 5) F51 :: mw κ a r f (va_up q 3 t35) (tb a) w) H locs := Bd_del 13 hB
                      replace hB : Bd κ A s (lA κ q121 ((r (2 * y.toNatClampNeg + 1)) * 5) F122 :: gO q120 (r (2 * y.toNatClampNeg + 1)) 1 q121 :: lA κ b73 ((r (2 * y.toNatClampNeg + 1)) * 5) fb73_141 :: gO q72 (r (2 * y.toNatClampNeg + 1)) 1 b73 :: lA κ q64 ((r (2 * y.toNatClampNeg)) * 5) F65 :: gO q63 (r (2 * y.toNatClampNeg)) 1 q64 :: lA κ q60 ((r (2 * z.toNatClampNeg)) * 5) F61 :: gO q59 (r (2 * z.toNatClampNeg)) 1 q60 :: lA κ b44 ((r (2 * y.toNatClampNeg + 1)) * 5) F49 :: gO g43 (r (2 * y.toNatClampNeg + 1)) (r (2 * y.toNatClampNeg + 1)) b44 :: lA κ b46 ((r (2 * y.toNatClampNeg)) * 5) F50 :: gO g45 (r (2 * y.toNatClampNeg)) (r (2 * y.toNatClampNeg)) b46 :: mw κ a r f (va_up q 3 t35) (tb a) w) H locs := Bd_del 12 hB
                      replace hB : Bd κ A s (lA κ q121 ((r (2 * y.toNatClampNeg + 1)) * 5) F122 :: gO q120 (r (2 * y.toNatClampNeg + 1)) 1 q121 :: lA κ b73 ((r (2 * y.toNatClampNeg + 1)) * 5) fb73_141 :: gO q72 (r (2 * y.toNatClampNeg + 1)) 1 b73 :: lA κ q64 ((r (2 * y.toNatClampNeg)) * 5) F65 :: gO q63 (r (2 * y.toNatClampNeg)) 1 q64 :: lA κ q60 ((r (2 * z.toNatClampNeg)) * 5) F61 :: gO q59 (r (2 * z.toNatClampNeg)) 1 q60 :: lA κ b44 ((r (2 * y.toNatClampNeg + 1)) * 5) F49 :: gO g43 (r (2 * y.toNatClampNeg + 1)) (r (2 * y.toNatClampNeg + 1)) b44 :: lA κ b46 ((r (2 * y.toNatClampNeg)) * 5) F50 :: mw κ a r f (va_up q 3 t35) (tb a) w) H locs := Bd_del 11 hB
                      replace hB : Bd κ A s (lA κ q121 ((r (2 * y.toNatClampNeg + 1)) * 5) F122 :: gO q120 (r (2 * y.toNatClampNeg + 1)) 1 q121 :: lA κ b73 ((r (2 * y.toNatClampNeg + 1)) * 5) fb73_141 :: gO q72 (r (2 * y.toNatClampNeg + 1)) 1 b73 :: lA κ q64 ((r (2 * y.toNatClampNeg)) * 5) F65 :: gO q63 (r (2 * y.toNatClampNeg)) 1 q64 :: lA κ q60 ((r (2 * z.toNatClampNeg)) * 5) F61 :: gO q59 (r (2 * z.toNatClampNeg)) 1 q60 :: lA κ b44 ((r (2 * y.toNatClampNeg + 1)) * 5) F49 :: gO g43 (r (2 * y.toNatClampNeg + 1)) (r (2 * y.toNatClampNeg + 1)) b44 :: mw κ a r f (va_up q 3 t35) (tb a) w) H locs := Bd_del 10 hB
                      replace hB : Bd κ A s (lA κ q121 ((r (2 * y.toNatClampNeg + 1)) * 5) F122 :: gO q120 (r (2 * y.toNatClampNeg + 1)) 1 q121 :: lA κ b73 ((r (2 * y.toNatClampNeg + 1)) * 5) fb73_141 :: gO q72 (r (2 * y.toNatClampNeg + 1)) 1 b73 :: lA κ q64 ((r (2 * y.toNatClampNeg)) * 5) F65 :: gO q63 (r (2 * y.toNatClampNeg)) 1 q64 :: lA κ q60 ((r (2 * z.toNatClampNeg)) * 5) F61 :: gO q59 (r (2 * z.toNatClampNeg)) 1 q60 :: lA κ b44 ((r (2 * y.toNatClampNeg + 1)) * 5) F49 :: mw κ a r f (va_up q 3 t35) (tb a) w) H locs := Bd_del 9 hB
                      replace hB : Bd κ A s (lA κ q121 ((r (2 * y.toNatClampNeg + 1)) * 5) F122 :: gO q120 (r (2 * y.toNatClampNeg + 1)) 1 q121 :: lA κ b73 ((r (2 * y.toNatClampNeg + 1)) * 5) fb73_141 :: gO q72 (r (2 * y.toNatClampNeg + 1)) 1 b73 :: lA κ q64 ((r (2 * y.toNatClampNeg)) * 5) F65 :: gO q63 (r (2 * y.toNatClampNeg)) 1 q64 :: lA κ q60 ((r (2 * z.toNatClampNeg)) * 5) F61 :: gO q59 (r (2 * z.toNatClampNeg)) 1 q60 :: mw κ a r f (va_up q 3 t35) (tb a) w) H locs := Bd_del 8 hB
                      replace hB : Bd κ A s (lA κ q121 ((r (2 * y.toNatClampNeg + 1)) * 5) F122 :: gO q120 (r (2 * y.toNatClampNeg + 1)) 1 q121 :: lA κ b73 ((r (2 * y.toNatClampNeg + 1)) * 5) fb73_141 :: gO q72 (r (2 * y.toNatClampNeg + 1)) 1 b73 :: lA κ q64 ((r (2 * y.toNatClampNeg)) * 5) F65 :: gO q63 (r (2 * y.toNatClampNeg)) 1 q64 :: lA κ q60 ((r (2 * z.toNatClampNeg)) * 5) F61 :: mw κ a r f (va_up q 3 t35) (tb a) w) H locs := Bd_del 7 hB
                      replace hB : Bd κ A s (lA κ q121 ((r (2 * y.toNatClampNeg + 1)) * 5) F122 :: gO q120 (r (2 * y.toNatClampNeg + 1)) 1 q121 :: lA κ b73 ((r (2 * y.toNatClampNeg + 1)) * 5) fb73_141 :: gO q72 (r (2 * y.toNatClampNeg + 1)) 1 b73 :: lA κ q64 ((r (2 * y.toNatClampNeg)) * 5) F65 :: gO q63 (r (2 * y.toNatClampNeg)) 1 q64 :: mw κ a r f (va_up q 3 t35) (tb a) w) H locs := Bd_del 6 hB
                      replace hB : Bd κ A s (lA κ q121 ((r (2 * y.toNatClampNeg + 1)) * 5) F122 :: gO q120 (r (2 * y.toNatClampNeg + 1)) 1 q121 :: lA κ b73 ((r (2 * y.toNatClampNeg + 1)) * 5) fb73_141 :: gO q72 (r (2 * y.toNatClampNeg + 1)) 1 b73 :: lA κ q64 ((r (2 * y.toNatClampNeg)) * 5) F65 :: mw κ a r f (va_up q 3 t35) (tb a) w) H locs := Bd_del 5 hB
                      replace hB : Bd κ A s (lA κ q121 ((r (2 * y.toNatClampNeg + 1)) * 5) F122 :: gO q120 (r (2 * y.toNatClampNeg + 1)) 1 q121 :: lA κ b73 ((r (2 * y.toNatClampNeg + 1)) * 5) fb73_141 :: gO q72 (r (2 * y.toNatClampNeg + 1)) 1 b73 :: mw κ a r f (va_up q 3 t35) (tb a) w) H locs := Bd_del 4 hB
                      replace hB : Bd κ A s (lA κ q121 ((r (2 * y.toNatClampNeg + 1)) * 5) F122 :: gO q120 (r (2 * y.toNatClampNeg + 1)) 1 q121 :: lA κ b73 ((r (2 * y.toNatClampNeg + 1)) * 5) fb73_141 :: mw κ a r f (va_up q 3 t35) (tb a) w) H locs := Bd_del 3 hB
                      replace hB : Bd κ A s (lA κ q121 ((r (2 * y.toNatClampNeg + 1)) * 5) F122 :: gO q120 (r (2 * y.toNatClampNeg + 1)) 1 q121 :: mw κ a r f (va_up q 3 t35) (tb a) w) H locs := Bd_del 2 hB
                      obtain ⟨x124, rn126, fn127, qn128, hd129⟩ := ex4 (D_X10_become r f (va_up q 3 t35) v (r (2 * y.toNatClampNeg + 1)) 1 F122)
                      replace hR := bnd4_use hd129 hR
                      refine call_V (n := 2) (k0 := 2) (As := [.int v, .ref q120]) (rest := []) hX hB (k_X10_become κ l w a r f (va_up q 3 t35) v q120 q121 (r (2 * y.toNatClampNeg + 1)) 1 F122 hm ⟨by omega, by omega, by omega, by omega⟩ (by assumption) (by assumption) x124 rn126 fn127 qn128 hd129) ⟨rfl, by decide, by decide, by decide +kernel⟩ wm_6_108 wm_6_110 wp_37 wm_1_6 wm_6_111 ⟨Nat.le_of_ble_eq_true rfl, Nat.le_of_ble_eq_true rfl⟩ ⟨Nat.le_of_ble_eq_true rfl, Nat.le_of_ble_eq_true rfl⟩ (mw0x (a := a) (r := r) (f := f) (q := (va_up q 3 t35)) (T := tb a) (w := w) rfl) rfl rfl rfl hl.1 rfl (Nat.le_of_ble_eq_true rfl) dX10_solve_212 (fun o w' H locs hp hB => ?_)
                      obtain ⟨an125, rfl, hf130, hf131, hf132, hw9⟩ := hp
                      replace hB : Bd κ A s (mw κ an125 rn126 fn127 qn128 (tb an125) w) H locs := by rw [hw9] at hB; exact hB
                      refine W.eq (g2 := F0 m 215 ls [.int x124]) rfl ?_
                      rw [← hQ]
                      exact end_i hX hB hA3 rfl rfl (by obtain ⟨rfl, rfl, rfl, rfl⟩ := pr4 hR; exact ⟨an125, rfl, (hf130.trans rfl), hf131, (hf132.trans rfl), rfl⟩) (Nat.le_of_ble_eq_true rfl) (Nat.le_of_ble_eq_true rfl) dX10_solve_215
                    · replace hR := ifn (by decide) hR
                      refine W.eq (g2 := F0 m 191 ls [.int 1]) rfl ?_
                      refine lv_if_eq (tgt := 199) hx hb dX10_solve_191 (by decide) (fun c133 => False.elim (by revert c133; decide)) (fun _ => ?_)
                      refine lv_aload_n hx hb dX10_solve_194 rfl (lv_at hl 5 rfl) ?_
                      refine call_V (n := 0) (k0 := 13) (As := []) (rest := []) hX hB (k_X10_no κ l (lA κ b73 ((r (2 * y.toNatClampNeg + 1)) * 5) fb73_141 :: gO q72 (r (2 * y.toNatClampNeg + 1)) 1 b73 :: lA κ q64 ((r (2 * y.toNatClampNeg)) * 5) F65 :: gO q63 (r (2 * y.toNatClampNeg)) 1 q64 :: lA κ q60 ((r (2 * z.toNatClampNeg)) * 5) F61 :: gO q59 (r (2 * z.toNatClampNeg)) 1 q60 :: lA κ b44 ((r (2 * y.toNatClampNeg + 1)) * 5) F49 :: gO g43 (r (2 * y.toNatClampNeg + 1)) (r (2 * y.toNatClampNeg + 1)) b44 :: lA κ b46 ((r (2 * y.toNatClampNeg)) * 5) F50 :: gO g45 (r (2 * y.toNatClampNeg)) (r (2 * y.toNatClampNeg)) b46 :: lA κ b48 ((r (2 * y.toNatClampNeg)) * 5) F51 :: gO g47 (r (2 * y.toNatClampNeg)) (r (2 * y.toNatClampNeg + 1)) b48 :: (q42, .inr (10, [.ref g47, .ref g45, .ref g43, .int S52, .int S53, .int (nI K54), .int G55])) :: mw κ a r f (va_up q 3 t35) (tb a) w) 13 (a 0) (a 1) ((va_up q 3 t35) 0) ((va_up q 3 t35) 1) ((va_up q 3 t35) 2) ((va_up q 3 t35) 3) (mw0x (a := a) (r := r) (f := f) (q := (va_up q 3 t35)) (T := tb a) (w := w) rfl)) ⟨rfl, by decide, by decide, by decide +kernel⟩ wm_6_89 wm_6_91 wp_36 wm_1_6 wm_6_92 ⟨Nat.le_of_ble_eq_true rfl, Nat.le_of_ble_eq_true rfl⟩ ⟨Nat.le_of_ble_eq_true rfl, Nat.le_of_ble_eq_true rfl⟩ (mw0x (a := a) (r := r) (f := f) (q := (va_up q 3 t35)) (T := tb a) (w := w) rfl) rfl rfl rfl hl.1 rfl (Nat.le_of_ble_eq_true rfl) dX10_solve_195 (fun o w' H locs hp hB => ?_)
                      obtain ⟨rfl, hw9⟩ := hp
                      replace hB : Bd κ A s (lA κ b73 ((r (2 * y.toNatClampNeg + 1)) * 5) fb73_141 :: gO q72 (r (2 * y.toNatClampNeg + 1)) 1 b73 :: lA κ q64 ((r (2 * y.toNatClampNeg)) * 5) F65 :: gO q63 (r (2 * y.toNatClampNeg)) 1 q64 :: lA κ q60 ((r (2 * z.toNatClampNeg)) * 5) F61 :: gO q59 (r (2 * z.toNatClampNeg)) 1 q60 :: lA κ b44 ((r (2 * y.toNatClampNeg + 1)) * 5) F49 :: gO g43 (r (2 * y.toNatClampNeg + 1)) (r (2 * y.toNatClampNeg + 1)) b44 :: lA κ b46 ((r (2 * y.toNatClampNeg)) * 5) F50 :: gO g45 (r (2 * y.toNatClampNeg)) (r (2 * y.toNatClampNeg)) b46 :: lA κ b48 ((r (2 * y.toNatClampNeg)) * 5) F51 :: gO g47 (r (2 * y.toNatClampNeg)) (r (2 * y.toNatClampNeg + 1)) b48 :: (q42, .inr (10, [.ref g47, .ref g45, .ref g43, .int S52, .int S53, .int (nI K54), .int G55])) :: mw κ a r f (va_up (va_up q 3 t35) 1 (((va_up q 3 t35) 1) + 1)) (tb a) w) H locs := by exact Bd_eq (congrArg (List.cons _) (congrArg (List.cons _) (congrArg (List.cons _) (congrArg (List.cons _) (congrArg (List.cons _) (congrArg (List.cons _) (congrArg (List.cons _) (congrArg (List.cons _) (congrArg (List.cons _) (congrArg (List.cons _) (congrArg (List.cons _) (congrArg (List.cons _) (congrArg (List.cons _) (mwQ1x rfl _)))))))))))))) (by rw [hw9] at hB; exact hB)
                      refine W.eq (g2 := F0 m 198 ls [.int (-9)]) rfl ?_
                      replace hB : Bd κ A s (lA κ b73 ((r (2 * y.toNatClampNeg + 1)) * 5) fb73_141 :: gO q72 (r (2 * y.toNatClampNeg + 1)) 1 b73 :: lA κ q64 ((r (2 * y.toNatClampNeg)) * 5) F65 :: gO q63 (r (2 * y.toNatClampNeg)) 1 q64 :: lA κ q60 ((r (2 * z.toNatClampNeg)) * 5) F61 :: gO q59 (r (2 * z.toNatClampNeg)) 1 q60 :: lA κ b44 ((r (2 * y.toNatClampNeg + 1)) * 5) F49 :: gO g43 (r (2 * y.toNatClampNeg + 1)) (r (2 * y.toNatClampNeg + 1)) b44 :: lA κ b46 ((r (2 * y.toNatClampNeg)) * 5) F50 :: gO g45 (r (2 * y.toNatClampNeg)) (r (2 * y.toNatClampNeg)) b46 :: lA κ b48 ((r (2 * y.toNatClampNeg)) * 5) F51 :: gO g47 (r (2 * y.toNatClampNeg)) (r (2 * y.toNatClampNeg + 1)) b48 :: mw κ a r f (va_up (va_up q 3 t35) 1 (((va_up q 3 t35) 1) + 1)) (tb a) w) H locs := Bd_del 12 hB
                      replace hB : Bd κ A s (lA κ b73 ((r (2 * y.toNatClampNeg + 1)) * 5) fb73_141 :: gO q72 (r (2 * y.toNatClampNeg + 1)) 1 b73 :: lA κ q64 ((r (2 * y.toNatClampNeg)) * 5) F65 :: gO q63 (r (2 * y.toNatClampNeg)) 1 q64 :: lA κ q60 ((r (2 * z.toNatClampNeg)) * 5) F61 :: gO q59 (r (2 * z.toNatClampNeg)) 1 q60 :: lA κ b44 ((r (2 * y.toNatClampNeg + 1)) * 5) F49 :: gO g43 (r (2 * y.toNatClampNeg + 1)) (r (2 * y.toNatClampNeg + 1)) b44 :: lA κ b46 ((r (2 * y.toNatClampNeg)) * 5) F50 :: gO g45 (r (2 * y.toNatClampNeg)) (r (2 * y.toNatClampNeg)) b46 :: lA κ b48 ((r (2 * y.toNatClampNeg)) * 5) F51 :: mw κ a r f (va_up (va_up q 3 t35) 1 (((va_up q 3 t35) 1) + 1)) (tb a) w) H locs := Bd_del 11 hB
                      replace hB : Bd κ A s (lA κ b73 ((r (2 * y.toNatClampNeg + 1)) * 5) fb73_141 :: gO q72 (r (2 * y.toNatClampNeg + 1)) 1 b73 :: lA κ q64 ((r (2 * y.toNatClampNeg)) * 5) F65 :: gO q63 (r (2 * y.toNatClampNeg)) 1 q64 :: lA κ q60 ((r (2 * z.toNatClampNeg)) * 5) F61 :: gO q59 (r (2 * z.toNatClampNeg)) 1 q60 :: lA κ b44 ((r (2 * y.toNatClampNeg + 1)) * 5) F49 :: gO g43 (r (2 * y.toNatClampNeg + 1)) (r (2 * y.toNatClampNeg + 1)) b44 :: lA κ b46 ((r (2 * y.toNatClampNeg)) * 5) F50 :: gO g45 (r (2 * y.toNatClampNeg)) (r (2 * y.toNatClampNeg)) b46 :: mw κ a r f (va_up (va_up q 3 t35) 1 (((va_up q 3 t35) 1) + 1)) (tb a) w) H locs := Bd_del 10 hB
                      replace hB : Bd κ A s (lA κ b73 ((r (2 * y.toNatClampNeg + 1)) * 5) fb73_141 :: gO q72 (r (2 * y.toNatClampNeg + 1)) 1 b73 :: lA κ q64 ((r (2 * y.toNatClampNeg)) * 5) F65 :: gO q63 (r (2 * y.toNatClampNeg)) 1 q64 :: lA κ q60 ((r (2 * z.toNatClampNeg)) * 5) F61 :: gO q59 (r (2 * z.toNatClampNeg)) 1 q60 :: lA κ b44 ((r (2 * y.toNatClampNeg + 1)) * 5) F49 :: gO g43 (r (2 * y.toNatClampNeg + 1)) (r (2 * y.toNatClampNeg + 1)) b44 :: lA κ b46 ((r (2 * y.toNatClampNeg)) * 5) F50 :: mw κ a r f (va_up (va_up q 3 t35) 1 (((va_up q 3 t35) 1) + 1)) (tb a) w) H locs := Bd_del 9 hB
                      replace hB : Bd κ A s (lA κ b73 ((r (2 * y.toNatClampNeg + 1)) * 5) fb73_141 :: gO q72 (r (2 * y.toNatClampNeg + 1)) 1 b73 :: lA κ q64 ((r (2 * y.toNatClampNeg)) * 5) F65 :: gO q63 (r (2 * y.toNatClampNeg)) 1 q64 :: lA κ q60 ((r (2 * z.toNatClampNeg)) * 5) F61 :: gO q59 (r (2 * z.toNatClampNeg)) 1 q60 :: lA κ b44 ((r (2 * y.toNatClampNeg + 1)) * 5) F49 :: gO g43 (r (2 * y.toNatClampNeg + 1)) (r (2 * y.toNatClampNeg + 1)) b44 :: mw κ a r f (va_up (va_up q 3 t35) 1 (((va_up q 3 t35) 1) + 1)) (tb a) w) H locs := Bd_del 8 hB
                      replace hB : Bd κ A s (lA κ b73 ((r (2 * y.toNatClampNeg + 1)) * 5) fb73_141 :: gO q72 (r (2 * y.toNatClampNeg + 1)) 1 b73 :: lA κ q64 ((r (2 * y.toNatClampNeg)) * 5) F65 :: gO q63 (r (2 * y.toNatClampNeg)) 1 q64 :: lA κ q60 ((r (2 * z.toNatClampNeg)) * 5) F61 :: gO q59 (r (2 * z.toNatClampNeg)) 1 q60 :: lA κ b44 ((r (2 * y.toNatClampNeg + 1)) * 5) F49 :: mw κ a r f (va_up (va_up q 3 t35) 1 (((va_up q 3 t35) 1) + 1)) (tb a) w) H locs := Bd_del 7 hB
                      replace hB : Bd κ A s (lA κ b73 ((r (2 * y.toNatClampNeg + 1)) * 5) fb73_141 :: gO q72 (r (2 * y.toNatClampNeg + 1)) 1 b73 :: lA κ q64 ((r (2 * y.toNatClampNeg)) * 5) F65 :: gO q63 (r (2 * y.toNatClampNeg)) 1 q64 :: lA κ q60 ((r (2 * z.toNatClampNeg)) * 5) F61 :: gO q59 (r (2 * z.toNatClampNeg)) 1 q60 :: mw κ a r f (va_up (va_up q 3 t35) 1 (((va_up q 3 t35) 1) + 1)) (tb a) w) H locs := Bd_del 6 hB
                      replace hB : Bd κ A s (lA κ b73 ((r (2 * y.toNatClampNeg + 1)) * 5) fb73_141 :: gO q72 (r (2 * y.toNatClampNeg + 1)) 1 b73 :: lA κ q64 ((r (2 * y.toNatClampNeg)) * 5) F65 :: gO q63 (r (2 * y.toNatClampNeg)) 1 q64 :: lA κ q60 ((r (2 * z.toNatClampNeg)) * 5) F61 :: mw κ a r f (va_up (va_up q 3 t35) 1 (((va_up q 3 t35) 1) + 1)) (tb a) w) H locs := Bd_del 5 hB
                      replace hB : Bd κ A s (lA κ b73 ((r (2 * y.toNatClampNeg + 1)) * 5) fb73_141 :: gO q72 (r (2 * y.toNatClampNeg + 1)) 1 b73 :: lA κ q64 ((r (2 * y.toNatClampNeg)) * 5) F65 :: gO q63 (r (2 * y.toNatClampNeg)) 1 q64 :: mw κ a r f (va_up (va_up q 3 t35) 1 (((va_up q 3 t35) 1) + 1)) (tb a) w) H locs := Bd_del 4 hB
                      replace hB : Bd κ A s (lA κ b73 ((r (2 * y.toNatClampNeg + 1)) * 5) fb73_141 :: gO q72 (r (2 * y.toNatClampNeg + 1)) 1 b73 :: lA κ q64 ((r (2 * y.toNatClampNeg)) * 5) F65 :: mw κ a r f (va_up (va_up q 3 t35) 1 (((va_up q 3 t35) 1) + 1)) (tb a) w) H locs := Bd_del 3 hB
                      replace hB : Bd κ A s (lA κ b73 ((r (2 * y.toNatClampNeg + 1)) * 5) fb73_141 :: gO q72 (r (2 * y.toNatClampNeg + 1)) 1 b73 :: mw κ a r f (va_up (va_up q 3 t35) 1 (((va_up q 3 t35) 1) + 1)) (tb a) w) H locs := Bd_del 2 hB
                      replace hB : Bd κ A s (lA κ b73 ((r (2 * y.toNatClampNeg + 1)) * 5) fb73_141 :: mw κ a r f (va_up (va_up q 3 t35) 1 (((va_up q 3 t35) 1) + 1)) (tb a) w) H locs := Bd_del 1 hB
                      replace hB : Bd κ A s (mw κ a r f (va_up (va_up q 3 t35) 1 (((va_up q 3 t35) 1) + 1)) (tb a) w) H locs := Bd_del 0 hB
                      rw [← hQ]
                      exact end_i hX hB hA3 rfl rfl (by obtain ⟨rfl, rfl, rfl, rfl⟩ := pr4 hR; exact ⟨a, rfl, rfl, hm, rfl, rfl⟩) (Nat.le_of_ble_eq_true rfl) (Nat.le_of_ble_eq_true rfl) dX10_solve_198
                  · rw [nleP (a := K54) (b := y9_141) (by omega) (by omega)] at c114
                    replace hR := ifn c114 hR
                    refine lv_aload hx hb dX10_solve_151 (lv_at hl 1 rfl) ?_
                    refine lv_iload hx hb dX10_solve_153 (lv_at hl 0 rfl) ?_
                    refine lv_iconst (v := 0) hx hb dX10_solve_155 (by decide) ?_
                    refine lv_aload hx hb dX10_solve_156 (lv_at hl 2 rfl) ?_
                    refine lv_iload hx hb dX10_solve_158 (lv_at hl 0 rfl) ?_
                    refine lv_iconst (v := 0) hx hb dX10_solve_160 (by decide) ?_
                    refine call_V (n := 2) (k0 := 3) (As := [.int (nI y9_141), .int 0]) (rest := [.int 0, .int (nI y9_141), .ref q72]) hX hB (k_X7_at κ l (lA κ b73 ((r (2 * y.toNatClampNeg + 1)) * 5) fb73_141 :: gO q72 (r (2 * y.toNatClampNeg + 1)) 1 b73 :: lA κ q64 ((r (2 * y.toNatClampNeg)) * 5) F65 :: gO q63 (r (2 * y.toNatClampNeg)) 1 q64 :: lA κ q60 ((r (2 * z.toNatClampNeg)) * 5) F61 :: gO q59 (r (2 * z.toNatClampNeg)) 1 q60 :: lA κ b44 ((r (2 * y.toNatClampNeg + 1)) * 5) F49 :: gO g43 (r (2 * y.toNatClampNeg + 1)) (r (2 * y.toNatClampNeg + 1)) b44 :: lA κ b46 ((r (2 * y.toNatClampNeg)) * 5) F50 :: gO g45 (r (2 * y.toNatClampNeg)) (r (2 * y.toNatClampNeg)) b46 :: lA κ b48 ((r (2 * y.toNatClampNeg)) * 5) F51 :: gO g47 (r (2 * y.toNatClampNeg)) (r (2 * y.toNatClampNeg + 1)) b48 :: (q42, .inr (10, [.ref g47, .ref g45, .ref g43, .int S52, .int S53, .int (nI K54), .int G55])) :: mw κ a r f (va_up q 3 t35) (tb a) w) 3 2 q63 q64 (r (2 * y.toNatClampNeg)) 1 F65 (nI y9_141) y9_141 0 0 rfl rfl ⟨by omega, by omega, by omega, by omega⟩ rfl rfl (by omega)) ⟨rfl, by decide, by decide, by decide +kernel⟩ wm_5_237 wm_5_238 wm_5_239 wm_1_7 wm_6_0 ⟨Nat.le_of_ble_eq_true rfl, Nat.le_of_ble_eq_true rfl⟩ ⟨Nat.le_of_ble_eq_true rfl, Nat.le_of_ble_eq_true rfl⟩ rfl rfl rfl rfl hl.1 rfl (Nat.le_of_ble_eq_true rfl) dX10_solve_161 (fun o w' H locs hp hB => ?_)
                    obtain ⟨rfl, hw9⟩ := hp
                    replace hB : Bd κ A s (lA κ b73 ((r (2 * y.toNatClampNeg + 1)) * 5) fb73_141 :: gO q72 (r (2 * y.toNatClampNeg + 1)) 1 b73 :: lA κ q64 ((r (2 * y.toNatClampNeg)) * 5) F65 :: gO q63 (r (2 * y.toNatClampNeg)) 1 q64 :: lA κ q60 ((r (2 * z.toNatClampNeg)) * 5) F61 :: gO q59 (r (2 * z.toNatClampNeg)) 1 q60 :: lA κ b44 ((r (2 * y.toNatClampNeg + 1)) * 5) F49 :: gO g43 (r (2 * y.toNatClampNeg + 1)) (r (2 * y.toNatClampNeg + 1)) b44 :: lA κ b46 ((r (2 * y.toNatClampNeg)) * 5) F50 :: gO g45 (r (2 * y.toNatClampNeg)) (r (2 * y.toNatClampNeg)) b46 :: lA κ b48 ((r (2 * y.toNatClampNeg)) * 5) F51 :: gO g47 (r (2 * y.toNatClampNeg)) (r (2 * y.toNatClampNeg + 1)) b48 :: (q42, .inr (10, [.ref g47, .ref g45, .ref g43, .int S52, .int S53, .int (nI K54), .int G55])) :: mw κ a r f (va_up q 3 t35) (tb a) w) H locs := by rw [hw9] at hB; exact hB
                    refine W.eq (g2 := F0 m 164 ls [.long (F65 (y9_141 * 5 + 0)), .int 0, .int (nI y9_141), .ref q72]) rfl ?_
                    refine lv_aload hx hb dX10_solve_164 (lv_at hl 3 rfl) ?_
                    refine gf (k0 := 12) hX hB rfl rfl in9 0 (by decide) wm_6_222 rfl rfl dX10_solve_166 ?_
                    refine lv_iload hx hb dX10_solve_169 (lv_at hl 0 rfl) ?_
                    refine lv_iload hx hb dX10_solve_171 (lv_at hl 0 rfl) ?_
                    refine call_V (n := 2) (k0 := 11) (As := [.int (nI y9_141), .int (nI y9_141)]) (rest := [.long (F65 (y9_141 * 5 + 0)), .int 0, .int (nI y9_141), .ref q72]) hX hB (k_X7_at κ l (lA κ b73 ((r (2 * y.toNatClampNeg + 1)) * 5) fb73_141 :: gO q72 (r (2 * y.toNatClampNeg + 1)) 1 b73 :: lA κ q64 ((r (2 * y.toNatClampNeg)) * 5) F65 :: gO q63 (r (2 * y.toNatClampNeg)) 1 q64 :: lA κ q60 ((r (2 * z.toNatClampNeg)) * 5) F61 :: gO q59 (r (2 * z.toNatClampNeg)) 1 q60 :: lA κ b44 ((r (2 * y.toNatClampNeg + 1)) * 5) F49 :: gO g43 (r (2 * y.toNatClampNeg + 1)) (r (2 * y.toNatClampNeg + 1)) b44 :: lA κ b46 ((r (2 * y.toNatClampNeg)) * 5) F50 :: gO g45 (r (2 * y.toNatClampNeg)) (r (2 * y.toNatClampNeg)) b46 :: lA κ b48 ((r (2 * y.toNatClampNeg)) * 5) F51 :: gO g47 (r (2 * y.toNatClampNeg)) (r (2 * y.toNatClampNeg + 1)) b48 :: (q42, .inr (10, [.ref g47, .ref g45, .ref g43, .int S52, .int S53, .int (nI K54), .int G55])) :: mw κ a r f (va_up q 3 t35) (tb a) w) 11 10 g47 b48 (r (2 * y.toNatClampNeg)) (r (2 * y.toNatClampNeg + 1)) F51 (nI y9_141) y9_141 (nI y9_141) y9_141 rfl rfl (mok_shp (i := y.toNatClampNeg) hm (by omega)) rfl rfl (by omega)) ⟨rfl, by decide, by decide, by decide +kernel⟩ wm_5_237 wm_5_238 wm_5_239 wm_1_7 wm_6_0 ⟨Nat.le_of_ble_eq_true rfl, Nat.le_of_ble_eq_true rfl⟩ ⟨Nat.le_of_ble_eq_true rfl, Nat.le_of_ble_eq_true rfl⟩ rfl rfl rfl rfl hl.1 rfl (Nat.le_of_ble_eq_true rfl) dX10_solve_173 (fun o w' H locs hp hB => ?_)
                    obtain ⟨rfl, hw9⟩ := hp
                    replace hB : Bd κ A s (lA κ b73 ((r (2 * y.toNatClampNeg + 1)) * 5) fb73_141 :: gO q72 (r (2 * y.toNatClampNeg + 1)) 1 b73 :: lA κ q64 ((r (2 * y.toNatClampNeg)) * 5) F65 :: gO q63 (r (2 * y.toNatClampNeg)) 1 q64 :: lA κ q60 ((r (2 * z.toNatClampNeg)) * 5) F61 :: gO q59 (r (2 * z.toNatClampNeg)) 1 q60 :: lA κ b44 ((r (2 * y.toNatClampNeg + 1)) * 5) F49 :: gO g43 (r (2 * y.toNatClampNeg + 1)) (r (2 * y.toNatClampNeg + 1)) b44 :: lA κ b46 ((r (2 * y.toNatClampNeg)) * 5) F50 :: gO g45 (r (2 * y.toNatClampNeg)) (r (2 * y.toNatClampNeg)) b46 :: lA κ b48 ((r (2 * y.toNatClampNeg)) * 5) F51 :: gO g47 (r (2 * y.toNatClampNeg)) (r (2 * y.toNatClampNeg + 1)) b48 :: (q42, .inr (10, [.ref g47, .ref g45, .ref g43, .int S52, .int S53, .int (nI K54), .int G55])) :: mw κ a r f (va_up q 3 t35) (tb a) w) H locs := by rw [hw9] at hB; exact hB
                    refine W.eq (g2 := F0 m 176 ls [.long (F51 (y9_141 * 5 + y9_141)), .long (F65 (y9_141 * 5 + 0)), .int 0, .int (nI y9_141), .ref q72]) rfl ?_
                    refine lv_ldiv hx hb dX10_solve_176 (hf57.2.2 _ (by omega)) ?_
                    refine call_V (n := 3) (k0 := 1) (As := [.int (nI y9_141), .int 0, .long ((F65 (y9_141 * 5 + 0)) / (F51 (y9_141 * 5 + y9_141)))]) (rest := []) hX hB (k_X7_put κ l (lA κ b73 ((r (2 * y.toNatClampNeg + 1)) * 5) fb73_141 :: gO q72 (r (2 * y.toNatClampNeg + 1)) 1 b73 :: lA κ q64 ((r (2 * y.toNatClampNeg)) * 5) F65 :: gO q63 (r (2 * y.toNatClampNeg)) 1 q64 :: lA κ q60 ((r (2 * z.toNatClampNeg)) * 5) F61 :: gO q59 (r (2 * z.toNatClampNeg)) 1 q60 :: lA κ b44 ((r (2 * y.toNatClampNeg + 1)) * 5) F49 :: gO g43 (r (2 * y.toNatClampNeg + 1)) (r (2 * y.toNatClampNeg + 1)) b44 :: lA κ b46 ((r (2 * y.toNatClampNeg)) * 5) F50 :: gO g45 (r (2 * y.toNatClampNeg)) (r (2 * y.toNatClampNeg)) b46 :: lA κ b48 ((r (2 * y.toNatClampNeg)) * 5) F51 :: gO g47 (r (2 * y.toNatClampNeg)) (r (2 * y.toNatClampNeg + 1)) b48 :: (q42, .inr (10, [.ref g47, .ref g45, .ref g43, .int S52, .int S53, .int (nI K54), .int G55])) :: mw κ a r f (va_up q 3 t35) (tb a) w) 1 0 q72 b73 (r (2 * y.toNatClampNeg + 1)) 1 fb73_141 (nI y9_141) y9_141 0 0 ((F65 (y9_141 * 5 + 0)) / (F51 (y9_141 * 5 + y9_141))) rfl rfl ⟨by omega, by omega, by omega, by omega⟩ rfl rfl (by omega)) ⟨rfl, by decide, by decide, by decide +kernel⟩ wm_6_1 wm_5_222 wm_5_223 wm_1_7 wm_5_224 ⟨Nat.le_of_ble_eq_true rfl, Nat.le_of_ble_eq_true rfl⟩ ⟨Nat.le_of_ble_eq_true rfl, Nat.le_of_ble_eq_true rfl⟩ rfl rfl rfl rfl hl.1 rfl (Nat.le_of_ble_eq_true rfl) dX10_solve_177 (fun o w' H locs hp hB => ?_)
                    obtain ⟨rfl, hw9⟩ := hp
                    replace hB : Bd κ A s (lA κ b73 ((r (2 * y.toNatClampNeg + 1)) * 5) (vp_updL fb73_141 (y9_141 * 5 + 0) ((F65 (y9_141 * 5 + 0)) / (F51 (y9_141 * 5 + y9_141)))) :: gO q72 (r (2 * y.toNatClampNeg + 1)) 1 b73 :: lA κ q64 ((r (2 * y.toNatClampNeg)) * 5) F65 :: gO q63 (r (2 * y.toNatClampNeg)) 1 q64 :: lA κ q60 ((r (2 * z.toNatClampNeg)) * 5) F61 :: gO q59 (r (2 * z.toNatClampNeg)) 1 q60 :: lA κ b44 ((r (2 * y.toNatClampNeg + 1)) * 5) F49 :: gO g43 (r (2 * y.toNatClampNeg + 1)) (r (2 * y.toNatClampNeg + 1)) b44 :: lA κ b46 ((r (2 * y.toNatClampNeg)) * 5) F50 :: gO g45 (r (2 * y.toNatClampNeg)) (r (2 * y.toNatClampNeg)) b46 :: lA κ b48 ((r (2 * y.toNatClampNeg)) * 5) F51 :: gO g47 (r (2 * y.toNatClampNeg)) (r (2 * y.toNatClampNeg + 1)) b48 :: (q42, .inr (10, [.ref g47, .ref g45, .ref g43, .int S52, .int S53, .int (nI K54), .int G55])) :: mw κ a r f (va_up q 3 t35) (tb a) w) H locs := by rw [hw9] at hB; exact hB
                    refine W.eq (g2 := F0 m 180 ls []) rfl ?_
                    refine lv_iinc (v := nI (y9_141 + 1)) (lv' := [(9, .int (nI (y9_141 + 1))), (8, .ref q72), (7, .ref q63), (6, .ref q42), (5, .ref (a (2 + 2 * y.toNatClampNeg))), (0, .ref (a 0)), (1, .int y), (2, .int z), (3, .int u), (4, .int v)]) hx hb dX10_solve_180 hl (k := 0) rfl (nI_add y9_141 1) (by decide) rfl (fun ls hl => ?_)
                    refine lv_goto (tgt := 141) hx hb dX10_solve_183 (by decide) ?_
                    exact ih141 (y9_141 + 1) (vp_updL fb73_141 (y9_141 * 5 + 0) ((F65 (y9_141 * 5 + 0)) / (F51 (y9_141 * 5 + y9_141)))) _ _ (by omega) (by omega) hR hB _ hl
              exact lp141 _ 0 (fun _ => 0) _ _ (by omega) (Nat.lt_succ_self _) hR hB _ hl
          · replace hR := ifn c58 hR
            refine lv_aload_n hx hb dX10_solve_87 rfl (lv_at hl 2 rfl) ?_
            refine call_V (n := 0) (k0 := 7) (As := []) (rest := []) hX hB (k_X10_no κ l (lA κ b44 ((r (2 * y.toNatClampNeg + 1)) * 5) F49 :: gO g43 (r (2 * y.toNatClampNeg + 1)) (r (2 * y.toNatClampNeg + 1)) b44 :: lA κ b46 ((r (2 * y.toNatClampNeg)) * 5) F50 :: gO g45 (r (2 * y.toNatClampNeg)) (r (2 * y.toNatClampNeg)) b46 :: lA κ b48 ((r (2 * y.toNatClampNeg)) * 5) F51 :: gO g47 (r (2 * y.toNatClampNeg)) (r (2 * y.toNatClampNeg + 1)) b48 :: (q42, .inr (10, [.ref g47, .ref g45, .ref g43, .int S52, .int S53, .int (nI K54), .int G55])) :: mw κ a r f (va_up q 3 t35) (tb a) w) 7 (a 0) (a 1) ((va_up q 3 t35) 0) ((va_up q 3 t35) 1) ((va_up q 3 t35) 2) ((va_up q 3 t35) 3) (mw0x (a := a) (r := r) (f := f) (q := (va_up q 3 t35)) (T := tb a) (w := w) rfl)) ⟨rfl, by decide, by decide, by decide +kernel⟩ wm_6_89 wm_6_91 wp_36 wm_1_6 wm_6_92 ⟨Nat.le_of_ble_eq_true rfl, Nat.le_of_ble_eq_true rfl⟩ ⟨Nat.le_of_ble_eq_true rfl, Nat.le_of_ble_eq_true rfl⟩ (mw0x (a := a) (r := r) (f := f) (q := (va_up q 3 t35)) (T := tb a) (w := w) rfl) rfl rfl rfl hl.1 rfl (Nat.le_of_ble_eq_true rfl) dX10_solve_88 (fun o w' H locs hp hB => ?_)
            obtain ⟨rfl, hw9⟩ := hp
            replace hB : Bd κ A s (lA κ b44 ((r (2 * y.toNatClampNeg + 1)) * 5) F49 :: gO g43 (r (2 * y.toNatClampNeg + 1)) (r (2 * y.toNatClampNeg + 1)) b44 :: lA κ b46 ((r (2 * y.toNatClampNeg)) * 5) F50 :: gO g45 (r (2 * y.toNatClampNeg)) (r (2 * y.toNatClampNeg)) b46 :: lA κ b48 ((r (2 * y.toNatClampNeg)) * 5) F51 :: gO g47 (r (2 * y.toNatClampNeg)) (r (2 * y.toNatClampNeg + 1)) b48 :: (q42, .inr (10, [.ref g47, .ref g45, .ref g43, .int S52, .int S53, .int (nI K54), .int G55])) :: mw κ a r f (va_up (va_up q 3 t35) 1 (((va_up q 3 t35) 1) + 1)) (tb a) w) H locs := by exact Bd_eq (congrArg (List.cons _) (congrArg (List.cons _) (congrArg (List.cons _) (congrArg (List.cons _) (congrArg (List.cons _) (congrArg (List.cons _) (congrArg (List.cons _) (mwQ1x rfl _)))))))) (by rw [hw9] at hB; exact hB)
            refine W.eq (g2 := F0 m 91 ls [.int (-9)]) rfl ?_
            replace hB : Bd κ A s (lA κ b44 ((r (2 * y.toNatClampNeg + 1)) * 5) F49 :: gO g43 (r (2 * y.toNatClampNeg + 1)) (r (2 * y.toNatClampNeg + 1)) b44 :: lA κ b46 ((r (2 * y.toNatClampNeg)) * 5) F50 :: gO g45 (r (2 * y.toNatClampNeg)) (r (2 * y.toNatClampNeg)) b46 :: lA κ b48 ((r (2 * y.toNatClampNeg)) * 5) F51 :: gO g47 (r (2 * y.toNatClampNeg)) (r (2 * y.toNatClampNeg + 1)) b48 :: mw κ a r f (va_up (va_up q 3 t35) 1 (((va_up q 3 t35) 1) + 1)) (tb a) w) H locs := Bd_del 6 hB
            replace hB : Bd κ A s (lA κ b44 ((r (2 * y.toNatClampNeg + 1)) * 5) F49 :: gO g43 (r (2 * y.toNatClampNeg + 1)) (r (2 * y.toNatClampNeg + 1)) b44 :: lA κ b46 ((r (2 * y.toNatClampNeg)) * 5) F50 :: gO g45 (r (2 * y.toNatClampNeg)) (r (2 * y.toNatClampNeg)) b46 :: lA κ b48 ((r (2 * y.toNatClampNeg)) * 5) F51 :: mw κ a r f (va_up (va_up q 3 t35) 1 (((va_up q 3 t35) 1) + 1)) (tb a) w) H locs := Bd_del 5 hB
            replace hB : Bd κ A s (lA κ b44 ((r (2 * y.toNatClampNeg + 1)) * 5) F49 :: gO g43 (r (2 * y.toNatClampNeg + 1)) (r (2 * y.toNatClampNeg + 1)) b44 :: lA κ b46 ((r (2 * y.toNatClampNeg)) * 5) F50 :: gO g45 (r (2 * y.toNatClampNeg)) (r (2 * y.toNatClampNeg)) b46 :: mw κ a r f (va_up (va_up q 3 t35) 1 (((va_up q 3 t35) 1) + 1)) (tb a) w) H locs := Bd_del 4 hB
            replace hB : Bd κ A s (lA κ b44 ((r (2 * y.toNatClampNeg + 1)) * 5) F49 :: gO g43 (r (2 * y.toNatClampNeg + 1)) (r (2 * y.toNatClampNeg + 1)) b44 :: lA κ b46 ((r (2 * y.toNatClampNeg)) * 5) F50 :: mw κ a r f (va_up (va_up q 3 t35) 1 (((va_up q 3 t35) 1) + 1)) (tb a) w) H locs := Bd_del 3 hB
            replace hB : Bd κ A s (lA κ b44 ((r (2 * y.toNatClampNeg + 1)) * 5) F49 :: gO g43 (r (2 * y.toNatClampNeg + 1)) (r (2 * y.toNatClampNeg + 1)) b44 :: mw κ a r f (va_up (va_up q 3 t35) 1 (((va_up q 3 t35) 1) + 1)) (tb a) w) H locs := Bd_del 2 hB
            replace hB : Bd κ A s (lA κ b44 ((r (2 * y.toNatClampNeg + 1)) * 5) F49 :: mw κ a r f (va_up (va_up q 3 t35) 1 (((va_up q 3 t35) 1) + 1)) (tb a) w) H locs := Bd_del 1 hB
            replace hB : Bd κ A s (mw κ a r f (va_up (va_up q 3 t35) 1 (((va_up q 3 t35) 1) + 1)) (tb a) w) H locs := Bd_del 0 hB
            rw [← hQ]
            exact end_i hX hB hA3 rfl rfl (by obtain ⟨rfl, rfl, rfl, rfl⟩ := pr4 hR; exact ⟨a, rfl, rfl, hm, rfl, rfl⟩) (Nat.le_of_ble_eq_true rfl) (Nat.le_of_ble_eq_true rfl) dX10_solve_91
        · rw [neqP (a := r (2 * y.toNatClampNeg)) (b := r (2 * z.toNatClampNeg)) (by omega) (by omega)] at c41
          replace hR := ifn c41 hR
          refine lv_aload_n hx hb dX10_solve_63 rfl (lv_at hl 1 rfl) ?_
          refine call_V (n := 0) (k0 := 0) (As := []) (rest := []) hX hB (k_X10_no κ l (mw κ a r f (va_up q 3 t35) (tb a) w) 0 (a 0) (a 1) ((va_up q 3 t35) 0) ((va_up q 3 t35) 1) ((va_up q 3 t35) 2) ((va_up q 3 t35) 3) (mw0x (a := a) (r := r) (f := f) (q := (va_up q 3 t35)) (T := tb a) (w := w) rfl)) ⟨rfl, by decide, by decide, by decide +kernel⟩ wm_6_89 wm_6_91 wp_36 wm_1_6 wm_6_92 ⟨Nat.le_of_ble_eq_true rfl, Nat.le_of_ble_eq_true rfl⟩ ⟨Nat.le_of_ble_eq_true rfl, Nat.le_of_ble_eq_true rfl⟩ (mw0x (a := a) (r := r) (f := f) (q := (va_up q 3 t35)) (T := tb a) (w := w) rfl) rfl rfl rfl hl.1 rfl (Nat.le_of_ble_eq_true rfl) dX10_solve_64 (fun o w' H locs hp hB => ?_)
          obtain ⟨rfl, hw9⟩ := hp
          replace hB : Bd κ A s (mw κ a r f (va_up (va_up q 3 t35) 1 (((va_up q 3 t35) 1) + 1)) (tb a) w) H locs := by exact Bd_eq (mwQ1x rfl _) (by rw [hw9] at hB; exact hB)
          refine W.eq (g2 := F0 m 67 ls [.int (-9)]) rfl ?_
          rw [← hQ]
          exact end_i hX hB hA3 rfl rfl (by obtain ⟨rfl, rfl, rfl, rfl⟩ := pr4 hR; exact ⟨a, rfl, rfl, hm, rfl, rfl⟩) (Nat.le_of_ble_eq_true rfl) (Nat.le_of_ble_eq_true rfl) dX10_solve_67
