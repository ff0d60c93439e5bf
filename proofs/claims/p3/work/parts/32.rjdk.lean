def tz (x : Nat) : Nat := if x % 2 = 1 then 0 else if x / 2 % 2 = 1 then 1 else if x / 4 % 2 = 1 then 2 else if x / 8 % 2 = 1 then 3 else 4
theorem fz1 : ∀ x, x < 32 → 0 < x → ¬ 0 < ((nI x) ^^^ (-1)) &&& ((nI x) - 1) → (((nI x) ^^^ (-1)) &&& ((nI x) - 1)) &&& 32 = nI (tz x) := by decide +kernel
theorem fzA : ∀ x, x < 32 → ((nI x) ^^^ (-1)) &&& ((nI x) - 1) ≤ 65536 := by decide +kernel
theorem fzB : ∀ x, x < 32 → ((nI x) ^^^ (-1)) &&& ((nI x) - 1) ≤ 256 := by decide +kernel
theorem fzC : ∀ x, x < 32 → ((nI x) ^^^ (-1)) &&& ((nI x) - 1) ≤ 16 := by decide +kernel
theorem fz3 : ∀ x, x < 32 → 0 < ((nI x) ^^^ (-1)) &&& ((nI x) - 1) → ¬ ((nI x) ^^^ (-1)) &&& ((nI x) - 1) ≤ 4 → (3 : Int32) + us32 (us32 (((nI x) ^^^ (-1)) &&& ((nI x) - 1)) 2) 1 = nI (tz x) := by decide +kernel
theorem fz4 : ∀ x, x < 32 → 0 < ((nI x) ^^^ (-1)) &&& ((nI x) - 1) → ((nI x) ^^^ (-1)) &&& ((nI x) - 1) ≤ 4 → (1 : Int32) + us32 (((nI x) ^^^ (-1)) &&& ((nI x) - 1)) 1 = nI (tz x) := by decide +kernel

set_option maxHeartbeats 4000000 in
set_option maxRecDepth 100000 in
theorem k_J6_numberOfTrailingZeros_0f7a4 (κ : Kt) (l : Launch) (w : va_W) (xx : Int32) (x : Nat) (hxx : xx = nI x) (h32 : x < 32) (h0 : 0 < x) : CM κ l yJ6_numberOfTrailingZeros_0f7a4 cJ6_numberOfTrailingZeros_0f7a4 2 (some .int) 0 0 0 0 [.int xx] (w) (fun o w' => ∃ (nvz : Int32), o = some (.int nvz) ∧ (nvz = nI (tz x)) ∧ w' = w) := by
  
  subst hxx
  refine CM_begin (plainFor_of_name (by decide)) (Nat.le_of_ble_eq_true rfl) ?_
  intro p e s m args below meth c A Q hX hnm hA3 hQ hB ls hl
  have hx := hX.1.1
  have hb := hX.1.2.1
  have hl : lv_has ls 2 [(0, .int (nI x))] := hl
  refine lv_iload_n hx hb dJ6_numberOfTrailingZeros_0f7a4_0 rfl (lv_at hl 0 rfl) ?_
  refine lv_iconst (v := (-1)) hx hb dJ6_numberOfTrailingZeros_0f7a4_1 (by decide) ?_
  refine lv_ixor hx hb dJ6_numberOfTrailingZeros_0f7a4_2 ?_
  refine lv_iload_n hx hb dJ6_numberOfTrailingZeros_0f7a4_3 rfl (lv_at hl 0 rfl) ?_
  refine lv_iconst (v := 1) hx hb dJ6_numberOfTrailingZeros_0f7a4_4 (by decide) ?_
  refine lv_isub hx hb dJ6_numberOfTrailingZeros_0f7a4_5 ?_
  refine lv_iand hx hb dJ6_numberOfTrailingZeros_0f7a4_6 ?_
  refine lv_topi (fun v1 ev1 => ?_)
  refine lv_istore_n (lv' := [(0, .int v1)]) hx hb dJ6_numberOfTrailingZeros_0f7a4_7 rfl hl (by decide) rfl (fun ls hl => ?_)
  refine lv_iload_n hx hb dJ6_numberOfTrailingZeros_0f7a4_8 rfl (lv_at hl 0 rfl) ?_
  refine lv_if_gt (tgt := 17) hx hb dJ6_numberOfTrailingZeros_0f7a4_9 (by decide) (fun c2 => ?_) (fun c2 => ?_)
  · refine lv_iconst (v := 1) hx hb dJ6_numberOfTrailingZeros_0f7a4_17 (by decide) ?_
    refine lv_istore_n (lv' := [(1, .int 1), (0, .int v1)]) hx hb dJ6_numberOfTrailingZeros_0f7a4_18 rfl hl (by decide) rfl (fun ls hl => ?_)
    refine lv_iload_n hx hb dJ6_numberOfTrailingZeros_0f7a4_19 rfl (lv_at hl 1 rfl) ?_
    refine lv_ldcw (own := RJ6) (v := 65536) hx hb hX.1.2.2.2.1 (hX.1.2.2.2.2 _ wm_7_86) dJ6_numberOfTrailingZeros_0f7a4_20 ?_
    refine lv_icmp_le (tgt := 34) hx hb dJ6_numberOfTrailingZeros_0f7a4_23 (by decide) (fun c3 => ?_) (fun c3 => ?_)
    · refine lv_iload_n hx hb dJ6_numberOfTrailingZeros_0f7a4_34 rfl (lv_at hl 1 rfl) ?_
      refine lv_sipush (v := 256) hx hb dJ6_numberOfTrailingZeros_0f7a4_35 (by decide) ?_
      refine lv_icmp_le (tgt := 49) hx hb dJ6_numberOfTrailingZeros_0f7a4_38 (by decide) (fun c4 => ?_) (fun c4 => ?_)
      · refine lv_iload_n hx hb dJ6_numberOfTrailingZeros_0f7a4_49 rfl (lv_at hl 1 rfl) ?_
        refine lv_bipush (v := 16) hx hb dJ6_numberOfTrailingZeros_0f7a4_50 (by decide) ?_
        refine lv_icmp_le (tgt := 62) hx hb dJ6_numberOfTrailingZeros_0f7a4_52 (by decide) (fun c6 => ?_) (fun c6 => ?_)
        · refine lv_iload_n hx hb dJ6_numberOfTrailingZeros_0f7a4_62 rfl (lv_at hl 1 rfl) ?_
          refine lv_iconst (v := 4) hx hb dJ6_numberOfTrailingZeros_0f7a4_63 (by decide) ?_
          refine lv_icmp_le (tgt := 74) hx hb dJ6_numberOfTrailingZeros_0f7a4_64 (by decide) (fun c7 => ?_) (fun c7 => ?_)
          · refine lv_iload_n hx hb dJ6_numberOfTrailingZeros_0f7a4_74 rfl (lv_at hl 0 rfl) ?_
            refine lv_iload_n hx hb dJ6_numberOfTrailingZeros_0f7a4_75 rfl (lv_at hl 1 rfl) ?_
            refine lv_iconst (v := 1) hx hb dJ6_numberOfTrailingZeros_0f7a4_76 (by decide) ?_
            refine lv_iushr hx hb dJ6_numberOfTrailingZeros_0f7a4_77 rfl ?_
            refine lv_topi (fun u8 eu8 => ?_)
            refine lv_iadd hx hb dJ6_numberOfTrailingZeros_0f7a4_78 ?_
            rw [← hQ]
            exact end_i hX hB hA3 rfl rfl ⟨(1 + u8), rfl, (by subst_vars; first | exact fz1 x h32 h0 (by assumption) | exact fz3 x h32 (by assumption) (by assumption) | exact fz4 x h32 (by assumption) (by assumption)), rfl⟩ (Nat.le_of_ble_eq_true rfl) (Nat.le_of_ble_eq_true rfl) dJ6_numberOfTrailingZeros_0f7a4_79
          · refine lv_iinc (v := 3) (lv' := [(1, .int 3), (0, .int v1)]) hx hb dJ6_numberOfTrailingZeros_0f7a4_67 hl (k := 0) rfl (by decide) (by decide) rfl (fun ls hl => ?_)
            refine lv_iload_n hx hb dJ6_numberOfTrailingZeros_0f7a4_70 rfl (lv_at hl 1 rfl) ?_
            refine lv_iconst (v := 2) hx hb dJ6_numberOfTrailingZeros_0f7a4_71 (by decide) ?_
            refine lv_iushr hx hb dJ6_numberOfTrailingZeros_0f7a4_72 rfl ?_
            refine lv_topi (fun u9 eu9 => ?_)
            refine lv_istore_n (lv' := [(0, .int u9), (1, .int 3)]) hx hb dJ6_numberOfTrailingZeros_0f7a4_73 rfl hl (by decide) rfl (fun ls hl => ?_)
            refine lv_iload_n hx hb dJ6_numberOfTrailingZeros_0f7a4_74 rfl (lv_at hl 1 rfl) ?_
            refine lv_iload_n hx hb dJ6_numberOfTrailingZeros_0f7a4_75 rfl (lv_at hl 0 rfl) ?_
            refine lv_iconst (v := 1) hx hb dJ6_numberOfTrailingZeros_0f7a4_76 (by decide) ?_
            refine lv_iushr hx hb dJ6_numberOfTrailingZeros_0f7a4_77 rfl ?_
            refine lv_topi (fun u10 eu10 => ?_)
            refine lv_iadd hx hb dJ6_numberOfTrailingZeros_0f7a4_78 ?_
            rw [← hQ]
            exact end_i hX hB hA3 rfl rfl ⟨(3 + u10), rfl, (by subst_vars; first | exact fz1 x h32 h0 (by assumption) | exact fz3 x h32 (by assumption) (by assumption) | exact fz4 x h32 (by assumption) (by assumption)), rfl⟩ (Nat.le_of_ble_eq_true rfl) (Nat.le_of_ble_eq_true rfl) dJ6_numberOfTrailingZeros_0f7a4_79
        · exact (by subst_vars; exact absurd (fzC x h32) (by assumption))
      · exact (by subst_vars; exact absurd (fzB x h32) (by assumption))
    · exact (by subst_vars; exact absurd (fzA x h32) (by assumption))
  · refine lv_iload_n hx hb dJ6_numberOfTrailingZeros_0f7a4_12 rfl (lv_at hl 0 rfl) ?_
    refine lv_bipush (v := 32) hx hb dJ6_numberOfTrailingZeros_0f7a4_13 (by decide) ?_
    refine lv_iand hx hb dJ6_numberOfTrailingZeros_0f7a4_15 ?_
    rw [← hQ]
    exact end_i hX hB hA3 rfl rfl ⟨(v1 &&& 32), rfl, (by subst_vars; first | exact fz1 x h32 h0 (by assumption) | exact fz3 x h32 (by assumption) (by assumption) | exact fz4 x h32 (by assumption) (by assumption)), rfl⟩ (Nat.le_of_ble_eq_true rfl) (Nat.le_of_ble_eq_true rfl) dJ6_numberOfTrailingZeros_0f7a4_16
noncomputable def D_gcd_step (x : Int64) (y : Int64) (rec : Int64 → Int64 → Int64) : Int64 := (if (lg_cmp y 0) = 0 then nm ((if 0 < x then x else -x) : Int64) (fun (t2 : Int64) => t2) else rec y (x - x / y * y))
theorem D_gcd_step_s {x : Int64} {y : Int64} {rec : Int64 → Int64 → Int64} : D_gcd_step x y rec = (if (lg_cmp y 0) = 0 then nm ((if 0 < x then x else -x) : Int64) (fun (t2 : Int64) => t2) else rec y (x - x / y * y)) := rfl
set_option maxHeartbeats 4000000 in
theorem gcd_step (κ : Kt) (l : Launch) (w : va_W) (d : Nat) (x y : Int64) (rec : Int64 → Int64 → Int64) (h : ¬ y = 0 → CM κ l yX10_gcd cX10_gcd 4 (some .long) d (23 * d) 0 0 [.long y, .long (x - x / y * y)] w (fun o w' => o = some (.long (rec y (x - x / y * y))) ∧ w' = w)) (o_z : Int64) (hR : D_gcd_step x y rec = o_z) : CM κ l yX10_gcd cX10_gcd 4 (some .long) (d + 1) (23 * (d + 1)) 0 0 [.long x, .long y] w (fun o w' => o = some (.long o_z) ∧ w' = w) := by
  refine CM_begin (plainFor_of_name (by decide)) (Nat.le_of_ble_eq_true rfl) ?_
  intro p e s m args below meth c A Q hX hnm hA3 hQ hB ls hl
  have hx := hX.1.1
  have hb := hX.1.2.1
  have hl : lv_has ls 4 [(0, .long x), (2, .long y)] := hl
  replace hR := (D_gcd_step_s).symm.trans hR
  refine lv_lload_n hx hb dX10_gcd_0 rfl (lv_at hl 1 rfl) ?_
  refine lv_lconst (v := 0) hx hb dX10_gcd_1 (by decide) ?_
  refine W.lcmp hx hb dX10_gcd_2 ?_
  refine lv_if_ne (tgt := 13) hx hb dX10_gcd_3 (by decide) (fun c1 => ?_) (fun c1 => ?_)
  · replace hR := ifn c1 hR
    refine lv_lload_n hx hb dX10_gcd_13 rfl (lv_at hl 1 rfl) ?_
    refine lv_lload_n hx hb dX10_gcd_14 rfl (lv_at hl 0 rfl) ?_
    refine lv_lload_n hx hb dX10_gcd_15 rfl (lv_at hl 1 rfl) ?_
    refine lv_lrem hx hb dX10_gcd_16 (lgnz (by assumption)) ?_
    refine call_S (n := 2) (As := [.long y, .long (x - x / y * y)]) (rest := []) hX hB (h (lgnz (by assumption))) ⟨by decide, by decide, by decide +kernel⟩ wm_7_110 wm_7_107 wm_1_6 wm_7_108 ⟨Nat.le_refl _, (show 8 + (4 + 11) + 23 * d ≤ 23 * (d + 1) by omega)⟩ ⟨Nat.le_of_ble_eq_true rfl, Nat.le_of_ble_eq_true rfl⟩ rfl hl.1 rfl (Nat.le_of_ble_eq_true rfl) dX10_gcd_17 (fun o w' H locs hp hB => ?_)
    obtain ⟨rfl, hw9⟩ := hp
    replace hB : Bd κ A s (w) H locs := by rw [hw9] at hB; exact hB
    refine W.eq (g2 := F0 m 20 ls [.long (rec y (x - x / y * y))]) rfl ?_
    rw [← hQ]
    exact end_l hX hB hA3 rfl (by obtain rfl := hR; exact ⟨rfl, rfl⟩) (Nat.le_of_ble_eq_true rfl) (Nat.le_of_ble_eq_true rfl) dX10_gcd_20
  · replace hR := ifp c1 hR
    refine lv_lload_n hx hb dX10_gcd_6 rfl (lv_at hl 0 rfl) ?_
    refine va_mabs_long hx hb (by rw [hX.1.2.2.1]; exact hl.1.symm) hX.1.2.2.2.1 (hX.1.2.2.2.2 _ wm_7_109) (hX.1.2.2.2.2 _ wm_1_237) (hX.1.2.2.2.2 _ wm_1_14) (hX.1.2.2.2.2 _ wm_1_238) (Nat.le_add_left 1 d) (Nat.le_trans (Nat.le_of_ble_eq_true rfl : 13 ≤ 23) (Nat.le_mul_of_pos_right 23 (Nat.succ_pos d))) (Nat.le_of_ble_eq_true rfl) (Nat.le_of_ble_eq_true rfl) dX10_gcd_7 ?_
    refine lv_topl (fun t2 et2 => ?_)
    replace hR := nm_use et2 hR
    refine lv_goto (tgt := 20) hx hb dX10_gcd_10 (by decide) ?_
    rw [← hQ]
    exact end_l hX hB hA3 rfl (by obtain rfl := hR; exact ⟨rfl, rfl⟩) (Nat.le_of_ble_eq_true rfl) (Nat.le_of_ble_eq_true rfl) dX10_gcd_20


theorem rem_int {x y : Int64} (hy : ¬ y = 0) : (x - x / y * y).toInt = x.toInt.tmod y.toInt := by
  have h0 : y.toInt ≠ 0 := fun h => hy (Int64.toInt_inj.mp h)
  rw [Int64.toInt_sub, Int64.toInt_mul, Int64.toInt_div, Int.bmod_mul_bmod, Int.sub_bmod_bmod]
  have e : x.toInt - x.toInt.tdiv y.toInt * y.toInt = x.toInt.tmod y.toInt := by rw [Int.tmod_def, Int.mul_comm]
  rw [e]
  have h1 := Int.natAbs_tmod x.toInt y.toInt
  have h2 : x.toInt.natAbs % y.toInt.natAbs < y.toInt.natAbs := Nat.mod_lt _ (by omega)
  have h3 := Int64.toInt_lt y
  have h4 := Int64.le_toInt y
  exact Int.bmod_eq_of_le (by omega) (by omega)
theorem rem_abs {x y : Int64} (hy : ¬ y = 0) : (x - x / y * y).toInt.natAbs = x.toInt.natAbs % y.toInt.natAbs := by rw [rem_int hy, Int.natAbs_tmod]
theorem half_mod {a b : Nat} (h0 : 0 < a) (h : a ≤ b) : b % a * 2 < b := by
  have h1 := Nat.mod_lt b h0
  have h2 := Nat.div_add_mod b a
  have h3 : 1 ≤ b / a := (Nat.one_le_div_iff h0).mpr h
  have h4 : a * 1 ≤ a * (b / a) := Nat.mul_le_mul_left a h3
  omega
noncomputable def gcF (d : Nat) : Int64 → Int64 → Int64 := @Nat.rec (fun _ => Int64 → Int64 → Int64) (fun _ _ => 0) (fun _ ih x y => D_gcd_step x y ih) d
noncomputable def gcv (x y : Int64) : Int64 := gcF 129 x y
abbrev gcP (κ : Kt) (l : Launch) (w : va_W) (d : Nat) (x y : Int64) : Prop := CM κ l yX10_gcd cX10_gcd 4 (some .long) d (23 * d) 0 0 [.long x, .long y] w (fun o w' => o = some (.long (gcF d x y)) ∧ w' = w)
theorem gcd_all (κ : Kt) (l : Launch) (w : va_W) : ∀ (k : Nat) (x y : Int64), y.toInt.natAbs < 2 ^ k → gcP κ l w (2 * k + 1) x y := by
  intro k
  induction k with
  | zero =>
    intro x y h
    refine gcd_step κ l w 0 x y (gcF 0) (fun hy => absurd (Int64.toInt_inj.mp (?_ : y.toInt = (0 : Int64).toInt)) hy) _ rfl
    show y.toInt = 0
    omega
  | succ k ih =>
    intro x y h
    refine gcd_step κ l w (2 * k + 2) x y (gcF (2 * k + 2)) (fun hy => ?_) _ rfl
    refine gcd_step κ l w (2 * k + 1) y _ (gcF (2 * k + 1)) (fun hr => ih _ _ ?_) _ rfl
    have h0 : y.toInt ≠ 0 := fun h => hy (Int64.toInt_inj.mp h)
    have hr0 : (x - x / y * y).toInt ≠ 0 := fun h => hr (Int64.toInt_inj.mp h)
    rw [rem_abs hr]
    have e1 := rem_abs (x := x) hy
    have e2 : x.toInt.natAbs % y.toInt.natAbs < y.toInt.natAbs := Nat.mod_lt _ (by omega)
    have e3 := half_mod (a := (x - x / y * y).toInt.natAbs) (b := y.toInt.natAbs) (by omega) (by omega)
    rw [Nat.pow_succ] at h
    omega
theorem k_X10_gcd (κ : Kt) (l : Launch) (w : va_W) (x y : Int64) : CM κ l yX10_gcd cX10_gcd 4 (some .long) 129 (23 * 129) 0 0 [.long x, .long y] w (fun o w' => o = some (.long (gcv x y)) ∧ w' = w) := by
  refine gcd_all κ l w 64 x y ?_
  have h3 := Int64.toInt_lt y
  have h4 := Int64.le_toInt y
  omega

