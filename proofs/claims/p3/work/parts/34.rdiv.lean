theorem pc5_le (x : Nat) : pc5 x ≤ 5 := by unfold pc5; omega
theorem fpw : ∀ R, R < 6 → (1 : Int32) <<< ((nI R) &&& 31) = nI (2 ^ R) := by decide +kernel
theorem fpm : ∀ R, R < 6 → ((1 : Int32) <<< ((nI R) &&& 31)) - 1 = nI (2 ^ R - 1) := by decide +kernel
theorem fbc : ∀ x, x < 32 → bcE (nI x) = nI (pc5 x) := by decide +kernel
theorem dv_pc {x1 x2 many : Int32} {r c : Nat} (e1 : x1 = bcE (nI r)) (c1 : x1 = many) (e2 : x2 = bcE (nI c)) (c2 : x2 = many) (hr : r < 32) (hc : c < 32) : pc5 r = pc5 c := by
  have h : nI (pc5 r) = nI (pc5 c) := by rw [← fbc r hr, ← fbc c hc, ← e1, ← e2, c1, c2]
  have h1 := pc5_le r
  have h2 := pc5_le c
  exact (nI_eq (by omega) (by omega)).mp h
theorem nmin {a b : Nat} (ha : a < 2 ^ 31) (hb : b < 2 ^ 31) : (if nI b < nI a then nI b else nI a) = nI (min a b) := by
  by_cases h : b < a
  · rw [if_pos ((nI_ltI hb ha).mpr h), Nat.min_eq_right (by omega)]
  · rw [if_neg (fun z => h ((nI_ltI hb ha).mp z)), Nat.min_eq_left (by omega)]
theorem dt_pc {R : Nat} (h1 : 1 ≤ R) (h2 : R < 6) : pc5 (2 ^ R - 1) = R := (by decide +kernel : ∀ R, R < 6 → 1 ≤ R → pc5 (2 ^ R - 1) = R) R h2 h1
theorem dt_six {R C : Nat} (h1 : 1 ≤ R) (h2 : R < 6) (h : R = C) : 0 < 2 ^ R - 1 ∧ 2 ^ R - 1 < 2 ^ R ∧ 0 < 2 ^ C - 1 ∧ 2 ^ C - 1 < 2 ^ C ∧ pc5 (2 ^ R - 1) = pc5 (2 ^ R - 1) ∧ pc5 (2 ^ C - 1) = pc5 (2 ^ R - 1) := by
  subst h
  exact (by decide +kernel : ∀ R, R < 6 → 1 ≤ R → 0 < 2 ^ R - 1 ∧ 2 ^ R - 1 < 2 ^ R ∧ 0 < 2 ^ R - 1 ∧ 2 ^ R - 1 < 2 ^ R ∧ pc5 (2 ^ R - 1) = pc5 (2 ^ R - 1) ∧ pc5 (2 ^ R - 1) = pc5 (2 ^ R - 1)) R h2 h1

noncomputable def D_X7_divisor_37 (C : Nat) (f : Nat → Int64) (p0 : Int32) (lb11 : Nat → Int64 → Int64) (y4_11 : Nat) (nn : Nat) : Nat → Int64 → Int64 := @Nat.rec (fun _ => Nat → Int64 → Int64) (fun _ _ => default) (fun _ lb37 (y5_37 : Nat) (y2_37 : Int64) => (if (2 ^ C) ≤ y5_37 then (lb11 (y4_11 + 1) y2_37) else nm ((bcE (nI y5_37)) : Int32) (fun (x36 : Int32) => (if x36 = p0 then (lb37 (y5_37 + 1) (gcv y2_37 (mnv f C (pc5 y4_11) y4_11 y5_37))) else (lb37 (y5_37 + 1) y2_37))))) nn
theorem D_X7_divisor_37_s {C : Nat} {f : Nat → Int64} {p0 : Int32} {lb11 : Nat → Int64 → Int64} {y4_11 : Nat} {nn : Nat} {y5_37 : Nat} {y2_37 : Int64} : D_X7_divisor_37 C f p0 lb11 y4_11 (nn + 1) y5_37 y2_37 = (if (2 ^ C) ≤ y5_37 then (lb11 (y4_11 + 1) y2_37) else nm ((bcE (nI y5_37)) : Int32) (fun (x36 : Int32) => (if x36 = p0 then ((D_X7_divisor_37 C f p0 lb11 y4_11 nn) (y5_37 + 1) (gcv y2_37 (mnv f C (pc5 y4_11) y4_11 y5_37))) else ((D_X7_divisor_37 C f p0 lb11 y4_11 nn) (y5_37 + 1) y2_37)))) := rfl
noncomputable def D_X7_divisor_11 (R : Nat) (C : Nat) (f : Nat → Int64) (p0 : Int32) (nn : Nat) : Nat → Int64 → Int64 := @Nat.rec (fun _ => Nat → Int64 → Int64) (fun _ _ => default) (fun _ lb11 (y4_11 : Nat) (y2_11 : Int64) => (if (2 ^ R) ≤ y4_11 then y2_11 else nm ((bcE (nI y4_11)) : Int32) (fun (x27 : Int32) => (if x27 = p0 then (D_X7_divisor_37 C f p0 lb11 y4_11 ((2 ^ C) + 1 - 1 + 1) 1 y2_11) else (lb11 (y4_11 + 1) y2_11))))) nn
theorem D_X7_divisor_11_s {R : Nat} {C : Nat} {f : Nat → Int64} {p0 : Int32} {nn : Nat} {y4_11 : Nat} {y2_11 : Int64} : D_X7_divisor_11 R C f p0 (nn + 1) y4_11 y2_11 = (if (2 ^ R) ≤ y4_11 then y2_11 else nm ((bcE (nI y4_11)) : Int32) (fun (x27 : Int32) => (if x27 = p0 then (D_X7_divisor_37 C f p0 (D_X7_divisor_11 R C f p0 nn) y4_11 ((2 ^ C) + 1 - 1 + 1) 1 y2_11) else ((D_X7_divisor_11 R C f p0 nn) (y4_11 + 1) y2_11)))) := rfl
noncomputable def D_X7_divisor (R : Nat) (C : Nat) (f : Nat → Int64) (p0 : Int32) : Int64 := (if p0 = 0 then 1 else (D_X7_divisor_11 R C f p0 ((2 ^ R) + 1 - 1 + 1) 1 0))
theorem D_X7_divisor_s {R : Nat} {C : Nat} {f : Nat → Int64} {p0 : Int32} : D_X7_divisor R C f p0 = (if p0 = 0 then 1 else (D_X7_divisor_11 R C f p0 ((2 ^ R) + 1 - 1 + 1) 1 0)) := rfl
set_option maxHeartbeats 4000000 in
set_option maxRecDepth 100000 in
theorem k_X7_divisor (κ : Kt) (l : Launch) (w : va_W) (k1 k2 g b R C : Nat) (f : Nat → Int64) (p0 : Int32) (h1 : w[k1]? = some (gO g R C b)) (h2 : w[k2]? = some (lA κ b (R * 5) f)) (hs : shp R C) (o_x : Int64) (hR : D_X7_divisor R C f p0 = o_x) : CM κ l yX7_divisor cX7_divisor 6 (some .long) 130 2990 0 0 [.ref g, .int p0] (w) (fun o w' => o = some (.long o_x) ∧ w' = w) := by
  have hs0 := hs
  obtain ⟨hs1, hs2, hs3, hs4⟩ := hs0
  refine CM_begin (plainFor_of_name (by decide)) (Nat.le_of_ble_eq_true rfl) ?_
  intro p e s m args below meth c A Q hX hnm hA3 hQ hB ls hl
  have hx := hX.1.1
  have hb := hX.1.2.1
  have hl : lv_has ls 6 [(0, .ref g), (1, .int p0)] := hl
  have hR2 : 2 ^ R < 2 ^ 5 := Nat.pow_lt_pow_right (by decide) (by omega)
  have hR3 : 0 < 2 ^ R := Nat.two_pow_pos R
  have hC3 : 0 < 2 ^ C := Nat.two_pow_pos C
  have hC2 : 2 ^ C ≤ 2 ^ 5 := Nat.pow_le_pow_right (by decide) (by omega)
  replace hR := (D_X7_divisor_s).symm.trans hR
  refine lv_iload_n hx hb dX7_divisor_0 rfl (lv_at hl 1 rfl) ?_
  refine lv_if_ne (tgt := 6) hx hb dX7_divisor_1 (by decide) (fun c1 => ?_) (fun c1 => ?_)
  · replace hR := ifn c1 hR
    refine lv_lconst (v := 0) hx hb dX7_divisor_6 (by decide) ?_
    refine lv_lstore_n (lv' := [(2, .long 0), (0, .ref g), (1, .int p0)]) hx hb dX7_divisor_7 rfl hl (by decide) rfl (fun ls hl => ?_)
    refine lv_iconst (v := 1) hx hb dX7_divisor_8 (by decide) ?_
    refine lv_istore (lv' := [(4, .int 1), (2, .long 0), (0, .ref g), (1, .int p0)]) hx hb dX7_divisor_9 hl (by decide) rfl (fun ls hl => ?_)
    have lp11 : ∀ (nn11 : Nat) (y4_11 : Nat) (y2_11 : Int64) (H : Heap) (locs : List Loc), (y4_11 ≤ (2 ^ R)) → (1 ≤ y4_11) → (2 ^ R) + 1 - y4_11 < nn11 → D_X7_divisor_11 R C f p0 nn11 y4_11 y2_11 = o_x → Bd κ A s (w) H locs → ∀ ls : Array Slot, lv_has ls 6 [(4, .int (nI y4_11)), (2, .long y2_11), (0, .ref g), (1, .int p0)] → W p l e (Rm 130 2990 0 0) s m args below meth c H locs (0) (0) Q (F0 m 11 ls []) := by
      intro nn11
      induction nn11 with
      | zero => intro y4_11 y2_11 H locs hn4_11 hr1 hμ; exact absurd hμ (Nat.not_lt_zero _)
      | succ nn11 ih11 =>
        intro y4_11 y2_11 H locs hn4_11 hr1 hμ11 hR hB ls hl
        replace hR := (D_X7_divisor_11_s).symm.trans hR
        refine lv_iload hx hb dX7_divisor_11 (lv_at hl 0 rfl) ?_
        refine lv_iconst (v := 1) hx hb dX7_divisor_13 (by decide) ?_
        refine lv_aload_n hx hb dX7_divisor_14 rfl (lv_at hl 2 rfl) ?_
        refine gf (k0 := k1) hX hB h1 rfl in7 0 (by decide) wm_5_145 rfl rfl dX7_divisor_15 ?_
        refine lv_ishl hx hb dX7_divisor_18 ?_
        refine eqi (y := nI (2 ^ R)) (fpw R (by omega)) ?_
        refine lv_icmp_ge (tgt := 82) hx hb dX7_divisor_19 (by decide) (fun c26 => ?_) (fun c26 => ?_)
        · rw [nleP (a := 2 ^ R) (b := y4_11) (by omega) (by omega)] at c26
          replace hR := ifp c26 hR
          refine lv_lload_n hx hb dX7_divisor_82 rfl (lv_at hl 1 rfl) ?_
          rw [← hQ]
          exact end_l hX hB hA3 rfl (by obtain rfl := hR; exact ⟨rfl, rfl⟩) (Nat.le_of_ble_eq_true rfl) (Nat.le_of_ble_eq_true rfl) dX7_divisor_83
        · rw [nleP (a := 2 ^ R) (b := y4_11) (by omega) (by omega)] at c26
          replace hR := ifn c26 hR
          refine lv_iload hx hb dX7_divisor_22 (lv_at hl 0 rfl) ?_
          refine call_S (n := 1) (As := [.int (nI y4_11)]) (rest := []) hX hB (k_J6_bitCount_0f7a4 κ l (w) (nI y4_11) ) ⟨by decide, by decide, by decide +kernel⟩ wm_7_105 wm_1_195 wm_1_26 wm_1_196 ⟨Nat.le_of_ble_eq_true rfl, Nat.le_of_ble_eq_true rfl⟩ ⟨Nat.le_of_ble_eq_true rfl, Nat.le_of_ble_eq_true rfl⟩ rfl hl.1 rfl (Nat.le_of_ble_eq_true rfl) dX7_divisor_24 (fun o w' H locs hp hB => ?_)
          obtain ⟨x27, rfl, ex27, hw9⟩ := hp
          replace hR := nm_use ex27 hR
          rw [hw9] at hB
          refine W.eq (g2 := F0 m 27 ls [.int x27]) rfl ?_
          refine lv_iload_n hx hb dX7_divisor_27 rfl (lv_at hl 3 rfl) ?_
          refine lv_icmp_eq (tgt := 34) hx hb dX7_divisor_28 (by decide) (fun c28 => ?_) (fun c28 => ?_)
          · replace hR := ifp c28 hR
            refine lv_iconst (v := 1) hx hb dX7_divisor_34 (by decide) ?_
            refine lv_istore (lv' := [(5, .int 1), (4, .int (nI y4_11)), (2, .long y2_11), (0, .ref g), (1, .int p0)]) hx hb dX7_divisor_35 hl (by decide) rfl (fun ls hl => ?_)
            have lp37 : ∀ (nn37 : Nat) (y5_37 : Nat) (y2_37 : Int64) (H : Heap) (locs : List Loc), (y5_37 ≤ (2 ^ C)) → (1 ≤ y5_37) → (2 ^ C) + 1 - y5_37 < nn37 → D_X7_divisor_37 C f p0 (D_X7_divisor_11 R C f p0 nn11) y4_11 nn37 y5_37 y2_37 = o_x → Bd κ A s (w) H locs → ∀ ls : Array Slot, lv_has ls 6 [(5, .int (nI y5_37)), (4, .int (nI y4_11)), (2, .long y2_37), (0, .ref g), (1, .int p0)] → W p l e (Rm 130 2990 0 0) s m args below meth c H locs (0) (0) Q (F0 m 37 ls []) := by
              intro nn37
              induction nn37 with
              | zero => intro y5_37 y2_37 H locs hn5_37 hc1 hμ; exact absurd hμ (Nat.not_lt_zero _)
              | succ nn37 ih37 =>
                intro y5_37 y2_37 H locs hn5_37 hc1 hμ37 hR hB ls hl
                replace hR := (D_X7_divisor_37_s).symm.trans hR
                refine lv_iload hx hb dX7_divisor_37 (lv_at hl 0 rfl) ?_
                refine lv_iconst (v := 1) hx hb dX7_divisor_39 (by decide) ?_
                refine lv_aload_n hx hb dX7_divisor_40 rfl (lv_at hl 3 rfl) ?_
                refine gf (k0 := k1) hX hB h1 rfl in7 1 (by decide) wm_5_149 rfl rfl dX7_divisor_41 ?_
                refine lv_ishl hx hb dX7_divisor_44 ?_
                refine eqi (y := nI (2 ^ C)) (fpw C (by omega)) ?_
                refine lv_icmp_ge (tgt := 76) hx hb dX7_divisor_45 (by decide) (fun c35 => ?_) (fun c35 => ?_)
                · rw [nleP (a := 2 ^ C) (b := y5_37) (by omega) (by omega)] at c35
                  replace hR := ifp c35 hR
                  refine lv_iinc (v := nI (y4_11 + 1)) (lv' := [(4, .int (nI (y4_11 + 1))), (5, .int (nI y5_37)), (2, .long y2_37), (0, .ref g), (1, .int p0)]) hx hb dX7_divisor_76 hl (k := 1) rfl (nI_add y4_11 1) (by decide) rfl (fun ls hl => ?_)
                  refine lv_goto (tgt := 11) hx hb dX7_divisor_79 (by decide) ?_
                  exact ih11 (y4_11 + 1) y2_37 _ _ (by omega) (by omega) (by omega) hR hB _ (lv_sub hl [0, 2, 3, 4] rfl)
                · rw [nleP (a := 2 ^ C) (b := y5_37) (by omega) (by omega)] at c35
                  replace hR := ifn c35 hR
                  refine lv_iload hx hb dX7_divisor_48 (lv_at hl 0 rfl) ?_
                  refine call_S (n := 1) (As := [.int (nI y5_37)]) (rest := []) hX hB (k_J6_bitCount_0f7a4 κ l (w) (nI y5_37) ) ⟨by decide, by decide, by decide +kernel⟩ wm_7_105 wm_1_195 wm_1_26 wm_1_196 ⟨Nat.le_of_ble_eq_true rfl, Nat.le_of_ble_eq_true rfl⟩ ⟨Nat.le_of_ble_eq_true rfl, Nat.le_of_ble_eq_true rfl⟩ rfl hl.1 rfl (Nat.le_of_ble_eq_true rfl) dX7_divisor_50 (fun o w' H locs hp hB => ?_)
                  obtain ⟨x36, rfl, ex36, hw9⟩ := hp
                  replace hR := nm_use ex36 hR
                  rw [hw9] at hB
                  refine W.eq (g2 := F0 m 53 ls [.int x36]) rfl ?_
                  refine lv_iload_n hx hb dX7_divisor_53 rfl (lv_at hl 4 rfl) ?_
                  refine lv_icmp_ne (tgt := 70) hx hb dX7_divisor_54 (by decide) (fun c37 => ?_) (fun c37 => ?_)
                  · replace hR := ifn c37 hR
                    refine lv_iinc (v := nI (y5_37 + 1)) (lv' := [(5, .int (nI (y5_37 + 1))), (4, .int (nI y4_11)), (2, .long y2_37), (0, .ref g), (1, .int p0)]) hx hb dX7_divisor_70 hl (k := 0) rfl (nI_add y5_37 1) (by decide) rfl (fun ls hl => ?_)
                    refine lv_goto (tgt := 37) hx hb dX7_divisor_73 (by decide) ?_
                    exact ih37 (y5_37 + 1) y2_37 _ _ (by omega) (by omega) (by omega) hR hB _ hl
                  · replace hR := ifp c37 hR
                    refine lv_lload_n hx hb dX7_divisor_57 rfl (lv_at hl 2 rfl) ?_
                    refine lv_aload_n hx hb dX7_divisor_58 rfl (lv_at hl 3 rfl) ?_
                    refine lv_iload hx hb dX7_divisor_59 (lv_at hl 1 rfl) ?_
                    refine lv_iload hx hb dX7_divisor_61 (lv_at hl 0 rfl) ?_
                    refine call_V (n := 2) (k0 := k1) (As := [.int (nI y4_11), .int (nI y5_37)]) (rest := [.long y2_37]) hX hB (minor_all κ l (w) k1 k2 g b R C f h1 h2 hs 5 (pc5 y4_11) y4_11 y5_37 (pc5_le _) ⟨by omega, by omega, by omega, by omega, rfl, dv_pc ex36 (by assumption) ex27 (by assumption) (by omega) (by omega)⟩) ⟨rfl, by decide, by decide, by decide +kernel⟩ wm_7_87 wm_7_80 wm_7_81 wm_1_7 wm_7_82 ⟨Nat.le_of_ble_eq_true rfl, Nat.le_of_ble_eq_true rfl⟩ ⟨Nat.le_of_ble_eq_true rfl, Nat.le_of_ble_eq_true rfl⟩ h1 rfl rfl rfl hl.1 rfl (Nat.le_of_ble_eq_true rfl) dX7_divisor_63 (fun o w' H locs hp hB => ?_)
                    obtain ⟨rfl, hw9⟩ := hp
                    replace hB : Bd κ A s (w) H locs := by rw [hw9] at hB; exact hB
                    refine W.eq (g2 := F0 m 66 ls [.long (mnv f C (pc5 y4_11) y4_11 y5_37), .long y2_37]) rfl ?_
                    refine call_SN (n := 2) (As := [.long y2_37, .long (mnv f C (pc5 y4_11) y4_11 y5_37)]) (rest := []) hX hB (k_X10_gcd κ l (w) y2_37 (mnv f C (pc5 y4_11) y4_11 y5_37)) ⟨by decide, by decide, by decide +kernel⟩ wn_7_106 wm_7_107 wm_1_6 wm_7_108 ⟨Nat.le_of_ble_eq_true rfl, Nat.le_of_ble_eq_true rfl⟩ ⟨Nat.le_of_ble_eq_true rfl, Nat.le_of_ble_eq_true rfl⟩ rfl hl.1 rfl (Nat.le_of_ble_eq_true rfl) dX7_divisor_66 (fun o w' H locs hp hB => ?_)
                    obtain ⟨rfl, hw9⟩ := hp
                    replace hB : Bd κ A s (w) H locs := by rw [hw9] at hB; exact hB
                    refine W.eq (g2 := F0 m 69 ls [.long (gcv y2_37 (mnv f C (pc5 y4_11) y4_11 y5_37))]) rfl ?_
                    refine lv_lstore_n (lv' := [(2, .long (gcv y2_37 (mnv f C (pc5 y4_11) y4_11 y5_37))), (5, .int (nI y5_37)), (4, .int (nI y4_11)), (0, .ref g), (1, .int p0)]) hx hb dX7_divisor_69 rfl hl (by decide) rfl (fun ls hl => ?_)
                    refine lv_iinc (v := nI (y5_37 + 1)) (lv' := [(5, .int (nI (y5_37 + 1))), (2, .long (gcv y2_37 (mnv f C (pc5 y4_11) y4_11 y5_37))), (4, .int (nI y4_11)), (0, .ref g), (1, .int p0)]) hx hb dX7_divisor_70 hl (k := 1) rfl (nI_add y5_37 1) (by decide) rfl (fun ls hl => ?_)
                    refine lv_goto (tgt := 37) hx hb dX7_divisor_73 (by decide) ?_
                    exact ih37 (y5_37 + 1) (gcv y2_37 (mnv f C (pc5 y4_11) y4_11 y5_37)) _ _ (by omega) (by omega) (by omega) hR hB _ (lv_sub hl [0, 2, 1, 3, 4] rfl)
            exact lp37 _ 1 y2_11 _ _ (by omega) (by omega) (Nat.lt_succ_self _) hR hB _ hl
          · replace hR := ifn c28 hR
            refine lv_goto (tgt := 76) hx hb dX7_divisor_31 (by decide) ?_
            refine lv_iinc (v := nI (y4_11 + 1)) (lv' := [(4, .int (nI (y4_11 + 1))), (2, .long y2_11), (0, .ref g), (1, .int p0)]) hx hb dX7_divisor_76 hl (k := 0) rfl (nI_add y4_11 1) (by decide) rfl (fun ls hl => ?_)
            refine lv_goto (tgt := 11) hx hb dX7_divisor_79 (by decide) ?_
            exact ih11 (y4_11 + 1) y2_11 _ _ (by omega) (by omega) (by omega) hR hB _ hl
    exact lp11 _ 1 0 _ _ (by omega) (by omega) (Nat.lt_succ_self _) hR hB _ hl
  · replace hR := ifp c1 hR
    refine lv_lconst (v := 1) hx hb dX7_divisor_4 (by decide) ?_
    rw [← hQ]
    exact end_l hX hB hA3 rfl (by obtain rfl := hR; exact ⟨rfl, rfl⟩) (Nat.le_of_ble_eq_true rfl) (Nat.le_of_ble_eq_true rfl) dX7_divisor_5
noncomputable def D_X7_rank_4 (R : Nat) (C : Nat) (f : Nat → Int64) (nn : Nat) : Nat → Nat → Int32 := @Nat.rec (fun _ => Nat → Nat → Int32) (fun _ _ => default) (fun _ lb4 (y2_4 : Nat) (y1_4 : Nat) => nm ((if (nI C) < (nI R) then (nI C) else (nI R)) : Int32) (fun (t12 : Int32) => (if (min R C) < y2_4 then nI y1_4 else bnd1 (D_X7_divisor R C f (nI y2_4)) (fun (x14 : Int64) => (if (lg_cmp x14 0) = 0 then (lb4 (y2_4 + 1) y1_4) else (lb4 (y2_4 + 1) y2_4)))))) nn
theorem D_X7_rank_4_s {R : Nat} {C : Nat} {f : Nat → Int64} {nn : Nat} {y2_4 : Nat} {y1_4 : Nat} : D_X7_rank_4 R C f (nn + 1) y2_4 y1_4 = nm ((if (nI C) < (nI R) then (nI C) else (nI R)) : Int32) (fun (t12 : Int32) => (if (min R C) < y2_4 then nI y1_4 else bnd1 (D_X7_divisor R C f (nI y2_4)) (fun (x14 : Int64) => (if (lg_cmp x14 0) = 0 then ((D_X7_rank_4 R C f nn) (y2_4 + 1) y1_4) else ((D_X7_rank_4 R C f nn) (y2_4 + 1) y2_4))))) := rfl
noncomputable def D_X7_rank (R : Nat) (C : Nat) (f : Nat → Int64) : Int32 := (D_X7_rank_4 R C f ((min R C) + 1 - 1 + 1) 1 0)
theorem D_X7_rank_s {R : Nat} {C : Nat} {f : Nat → Int64} : D_X7_rank R C f = (D_X7_rank_4 R C f ((min R C) + 1 - 1 + 1) 1 0) := rfl
set_option maxHeartbeats 4000000 in
set_option maxRecDepth 100000 in
theorem k_X7_rank (κ : Kt) (l : Launch) (w : va_W) (k1 k2 g b R C : Nat) (f : Nat → Int64) (h1 : w[k1]? = some (gO g R C b)) (h2 : w[k2]? = some (lA κ b (R * 5) f)) (hs : shp R C) (o_x : Int32) (hR : D_X7_rank R C f = o_x) : CM κ l yX7_rank cX7_rank 3 (some .int) 131 3015 0 0 [.ref g] (w) (fun o w' => o = some (.int o_x) ∧ w' = w) := by
  have hs0 := hs
  obtain ⟨hs1, hs2, hs3, hs4⟩ := hs0
  refine CM_begin (plainFor_of_name (by decide)) (Nat.le_of_ble_eq_true rfl) ?_
  intro p e s m args below meth c A Q hX hnm hA3 hQ hB ls hl
  have hx := hX.1.1
  have hb := hX.1.2.1
  have hl : lv_has ls 3 [(0, .ref g)] := hl
  replace hR := (D_X7_rank_s).symm.trans hR
  refine lv_iconst (v := 0) hx hb dX7_rank_0 (by decide) ?_
  refine lv_istore_n (lv' := [(1, .int 0), (0, .ref g)]) hx hb dX7_rank_1 rfl hl (by decide) rfl (fun ls hl => ?_)
  refine lv_iconst (v := 1) hx hb dX7_rank_2 (by decide) ?_
  refine lv_istore_n (lv' := [(2, .int 1), (1, .int 0), (0, .ref g)]) hx hb dX7_rank_3 rfl hl (by decide) rfl (fun ls hl => ?_)
  have lp4 : ∀ (nn4 : Nat) (y2_4 : Nat) (y1_4 : Nat) (H : Heap) (locs : List Loc), (y2_4 ≤ (min R C) + 1) → (min R C) + 1 - y2_4 < nn4 → D_X7_rank_4 R C f nn4 y2_4 y1_4 = o_x → Bd κ A s (w) H locs → ∀ ls : Array Slot, lv_has ls 3 [(2, .int (nI y2_4)), (1, .int (nI y1_4)), (0, .ref g)] → W p l e (Rm 131 3015 0 0) s m args below meth c H locs (0) (0) Q (F0 m 4 ls []) := by
    intro nn4
    induction nn4 with
    | zero => intro y2_4 y1_4 H locs hn2_4 hμ; exact absurd hμ (Nat.not_lt_zero _)
    | succ nn4 ih4 =>
      intro y2_4 y1_4 H locs hn2_4 hμ4 hR hB ls hl
      replace hR := (D_X7_rank_4_s).symm.trans hR
      refine lv_iload_n hx hb dX7_rank_4 rfl (lv_at hl 0 rfl) ?_
      refine lv_aload_n hx hb dX7_rank_5 rfl (lv_at hl 2 rfl) ?_
      refine gf (k0 := k1) hX hB h1 rfl in7 0 (by decide) wm_5_145 rfl rfl dX7_rank_6 ?_
      refine lv_aload_n hx hb dX7_rank_9 rfl (lv_at hl 2 rfl) ?_
      refine gf (k0 := k1) hX hB h1 rfl in7 1 (by decide) wm_5_149 rfl rfl dX7_rank_10 ?_
      refine va_mmin hx hb (by rw [hX.1.2.2.1]; exact hl.1.symm) hX.1.2.2.2.1 (hX.1.2.2.2.2 _ wm_7_119) (hX.1.2.2.2.2 _ wm_1_217) (hX.1.2.2.2.2 _ wm_1_14) (hX.1.2.2.2.2 _ wm_1_218) (Nat.le_of_ble_eq_true rfl) (Nat.le_of_ble_eq_true rfl) (Nat.le_of_ble_eq_true rfl) (Nat.le_of_ble_eq_true rfl) dX7_rank_13 ?_
      refine lv_topi (fun t12 et12 => ?_)
      replace hR := nm_use et12 hR
      refine eqi (y := nI (min R C)) (et12.trans (nmin (by omega) (by omega))) ?_
      refine lv_icmp_gt (tgt := 37) hx hb dX7_rank_16 (by decide) (fun c13 => ?_) (fun c13 => ?_)
      · rw [nltP (a := min R C) (b := y2_4) (by omega) (by omega)] at c13
        replace hR := ifp c13 hR
        refine lv_iload_n hx hb dX7_rank_37 rfl (lv_at hl 1 rfl) ?_
        rw [← hQ]
        exact end_i hX hB hA3 rfl rfl (by obtain rfl := hR; exact ⟨rfl, rfl⟩) (Nat.le_of_ble_eq_true rfl) (Nat.le_of_ble_eq_true rfl) dX7_rank_38
      · rw [nltP (a := min R C) (b := y2_4) (by omega) (by omega)] at c13
        replace hR := ifn c13 hR
        refine lv_aload_n hx hb dX7_rank_19 rfl (lv_at hl 2 rfl) ?_
        refine lv_iload_n hx hb dX7_rank_20 rfl (lv_at hl 0 rfl) ?_
        obtain ⟨x14, hd15⟩ := ex1 (D_X7_divisor R C f (nI y2_4))
        replace hR := bnd1_use hd15 hR
        refine call_V (n := 1) (k0 := k1) (As := [.int (nI y2_4)]) (rest := []) hX hB (k_X7_divisor κ l (w) k1 k2 g b R C f (nI y2_4) h1 h2 hs x14 hd15) ⟨rfl, by decide, by decide, by decide +kernel⟩ wm_7_120 wm_7_102 wm_7_103 wm_1_7 wm_7_104 ⟨Nat.le_of_ble_eq_true rfl, Nat.le_of_ble_eq_true rfl⟩ ⟨Nat.le_of_ble_eq_true rfl, Nat.le_of_ble_eq_true rfl⟩ h1 rfl rfl rfl hl.1 rfl (Nat.le_of_ble_eq_true rfl) dX7_rank_21 (fun o w' H locs hp hB => ?_)
        obtain ⟨rfl, hw9⟩ := hp
        replace hB : Bd κ A s (w) H locs := by rw [hw9] at hB; exact hB
        refine W.eq (g2 := F0 m 24 ls [.long x14]) rfl ?_
        refine lv_lconst (v := 0) hx hb dX7_rank_24 (by decide) ?_
        refine W.lcmp hx hb dX7_rank_25 ?_
        refine lv_if_eq (tgt := 31) hx hb dX7_rank_26 (by decide) (fun c16 => ?_) (fun c16 => ?_)
        · replace hR := ifp c16 hR
          refine lv_iinc (v := nI (y2_4 + 1)) (lv' := [(2, .int (nI (y2_4 + 1))), (1, .int (nI y1_4)), (0, .ref g)]) hx hb dX7_rank_31 hl (k := 0) rfl (nI_add y2_4 1) (by decide) rfl (fun ls hl => ?_)
          refine lv_goto (tgt := 4) hx hb dX7_rank_34 (by decide) ?_
          exact ih4 (y2_4 + 1) y1_4 _ _ (by omega) (by omega) hR hB _ hl
        · replace hR := ifn c16 hR
          refine lv_iload_n hx hb dX7_rank_29 rfl (lv_at hl 0 rfl) ?_
          refine lv_istore_n (lv' := [(1, .int (nI y2_4)), (2, .int (nI y2_4)), (0, .ref g)]) hx hb dX7_rank_30 rfl hl (by decide) rfl (fun ls hl => ?_)
          refine lv_iinc (v := nI (y2_4 + 1)) (lv' := [(2, .int (nI (y2_4 + 1))), (1, .int (nI y2_4)), (0, .ref g)]) hx hb dX7_rank_31 hl (k := 1) rfl (nI_add y2_4 1) (by decide) rfl (fun ls hl => ?_)
          refine lv_goto (tgt := 4) hx hb dX7_rank_34 (by decide) ?_
          exact ih4 (y2_4 + 1) y2_4 _ _ (by omega) (by omega) hR hB _ hl
  exact lp4 _ 1 0 _ _ (by omega) (Nat.lt_succ_self _) hR hB _ hl
set_option maxHeartbeats 4000000 in
set_option maxRecDepth 100000 in
theorem k_X10_determinantOf (κ : Kt) (l : Launch) (w : va_W) (k1 k2 g b R C : Nat) (f : Nat → Int64) (h1 : w[k1]? = some (gO g R C b)) (h2 : w[k2]? = some (lA κ b (R * 5) f)) (hs : shp R C) (hRC : R = C) : CM κ l yX10_determinantOf cX10_determinantOf 1 (some .long) 6 168 0 0 [.ref g] (w) (fun o w' => o = some (.long (mnv f C R (2 ^ R - 1) (2 ^ C - 1))) ∧ w' = w) := by
  have hs0 := hs
  obtain ⟨hs1, hs2, hs3, hs4⟩ := hs0
  refine CM_begin (plainFor_of_name (by decide)) (Nat.le_of_ble_eq_true rfl) ?_
  intro p e s m args below meth c A Q hX hnm hA3 hQ hB ls hl
  have hx := hX.1.1
  have hb := hX.1.2.1
  have hl : lv_has ls 1 [(0, .ref g)] := hl
  refine lv_aload_n hx hb dX10_determinantOf_0 rfl (lv_at hl 0 rfl) ?_
  refine lv_iconst (v := 1) hx hb dX10_determinantOf_1 (by decide) ?_
  refine lv_aload_n hx hb dX10_determinantOf_2 rfl (lv_at hl 0 rfl) ?_
  refine gf (k0 := k1) hX hB h1 rfl in7 0 (by decide) wm_5_148 rfl rfl dX10_determinantOf_3 ?_
  refine lv_ishl hx hb dX10_determinantOf_6 ?_
  refine lv_iconst (v := 1) hx hb dX10_determinantOf_7 (by decide) ?_
  refine lv_isub hx hb dX10_determinantOf_8 ?_
  refine eqi (y := nI (2 ^ R - 1)) (fpm R (by omega)) ?_
  refine lv_iconst (v := 1) hx hb dX10_determinantOf_9 (by decide) ?_
  refine lv_aload_n hx hb dX10_determinantOf_10 rfl (lv_at hl 0 rfl) ?_
  refine gf (k0 := k1) hX hB h1 rfl in7 1 (by decide) wm_5_152 rfl rfl dX10_determinantOf_11 ?_
  refine lv_ishl hx hb dX10_determinantOf_14 ?_
  refine lv_iconst (v := 1) hx hb dX10_determinantOf_15 (by decide) ?_
  refine lv_isub hx hb dX10_determinantOf_16 ?_
  refine eqi (y := nI (2 ^ C - 1)) (fpm C (by omega)) ?_
  refine call_V (n := 2) (k0 := k1) (As := [.int (nI (2 ^ R - 1)), .int (nI (2 ^ C - 1))]) (rest := []) hX hB (minor_all κ l (w) k1 k2 g b R C f h1 h2 hs 5 (pc5 (2 ^ R - 1)) (2 ^ R - 1) (2 ^ C - 1) (pc5_le _) (dt_six hs1 (by omega) hRC)) ⟨rfl, by decide, by decide, by decide +kernel⟩ wm_7_79 wm_7_80 wm_7_81 wm_1_7 wm_7_82 ⟨Nat.le_of_ble_eq_true rfl, Nat.le_of_ble_eq_true rfl⟩ ⟨Nat.le_of_ble_eq_true rfl, Nat.le_of_ble_eq_true rfl⟩ h1 rfl rfl rfl hl.1 rfl (Nat.le_of_ble_eq_true rfl) dX10_determinantOf_17 (fun o w' H locs hp hB => ?_)
  obtain ⟨rfl, hw9⟩ := hp
  replace hB : Bd κ A s (w) H locs := by rw [hw9] at hB; exact hB
  refine W.eq (g2 := F0 m 20 ls [.long (mnv f C (pc5 (2 ^ R - 1)) (2 ^ R - 1) (2 ^ C - 1))]) rfl ?_
  rw [← hQ]
  exact end_l hX hB hA3 rfl ⟨by rw [dt_pc hs1 (by omega)], rfl⟩ (Nat.le_of_ble_eq_true rfl) (Nat.le_of_ble_eq_true rfl) dX10_determinantOf_20
noncomputable def D_bs_step0 (R : Nat) (C : Nat) (f : Nat → Int64) (x : Nat) (y : Int32) : Int64 := (if x = R then 1 else default)
theorem D_bs_step0_s {R : Nat} {C : Nat} {f : Nat → Int64} {x : Nat} {y : Int32} : D_bs_step0 R C f x y = (if x = R then 1 else default) := rfl
set_option maxHeartbeats 4000000 in
set_option maxRecDepth 100000 in
theorem k_bs_step0 (κ : Kt) (l : Launch) (d : Nat) (w : va_W) (k1 k2 g b R C : Nat) (f : Nat → Int64) (xx : Int32) (x : Nat) (y : Int32) (h1 : w[k1]? = some (gO g R C b)) (h2 : w[k2]? = some (lA κ b (R * 5) f)) (hs : shp R C) (hxx : xx = nI x) (hxR : x ≤ R) (hn : R - x ≤ 0) (o_x0 : Int64) (hR : D_bs_step0 R C f x y = o_x0) : CM κ l yX10_bySequences cX10_bySequences 7 (some .long) (d + 1) (26 * (d + 1)) 0 0 [.ref g, .int xx, .int y] (w) (fun o w' => o = some (.long o_x0) ∧ w' = w) := by
  have hs0 := hs
  obtain ⟨hs1, hs2, hs3, hs4⟩ := hs0
  subst hxx
  refine CM_begin (plainFor_of_name (by decide)) (Nat.le_of_ble_eq_true rfl) ?_
  intro p e s m args below meth c A Q hX hnm hA3 hQ hB ls hl
  have hx := hX.1.1
  have hb := hX.1.2.1
  have hl : lv_has ls 7 [(0, .ref g), (1, .int (nI x)), (2, .int y)] := hl
  replace hR := (D_bs_step0_s).symm.trans hR
  refine lv_iload_n hx hb dX10_bySequences_0 rfl (lv_at hl 1 rfl) ?_
  refine lv_aload_n hx hb dX10_bySequences_1 rfl (lv_at hl 0 rfl) ?_
  refine gf (k0 := k1) hX hB h1 rfl in7 0 (by decide) wm_5_148 rfl rfl dX10_bySequences_2 ?_
  refine lv_icmp_ne (tgt := 10) hx hb dX10_bySequences_5 (by decide) (fun c1 => ?_) (fun c1 => ?_)
  · rw [neqP (a := x) (b := R) (by omega) (by omega)] at c1
    replace hR := ifn c1 hR
    exact absurd (show x = R by omega) (by assumption)
  · rw [neqP (a := x) (b := R) (by omega) (by omega)] at c1
    replace hR := ifp c1 hR
    refine lv_lconst (v := 1) hx hb dX10_bySequences_8 (by decide) ?_
    rw [← hQ]
    exact end_l hX hB hA3 rfl (by obtain rfl := hR; exact ⟨rfl, rfl⟩) (Nat.le_of_ble_eq_true rfl) (Nat.le_of_ble_eq_true rfl) dX10_bySequences_9
noncomputable def D_bs_step_j56 (f : Nat → Int64) (x : Nat) (y : Int32) (rec : Nat → Int32 → Int64) (lb15 : Nat → Int64 → Int64) (y5_15 : Nat) (y3_15 : Int64) (z0_56 : Int32) : Int64 := (lb15 (y5_15 + 1) (y3_15 + ((((z0_56).toInt64) * (f (x * 5 + y5_15))) * (rec (x + 1) (y ||| (1 <<< ((nI y5_15) &&& 31)))))))
theorem D_bs_step_j56_s {f : Nat → Int64} {x : Nat} {y : Int32} {rec : Nat → Int32 → Int64} {lb15 : Nat → Int64 → Int64} {y5_15 : Nat} {y3_15 : Int64} {z0_56 : Int32} : D_bs_step_j56 f x y rec lb15 y5_15 y3_15 z0_56 = (lb15 (y5_15 + 1) (y3_15 + ((((z0_56).toInt64) * (f (x * 5 + y5_15))) * (rec (x + 1) (y ||| (1 <<< ((nI y5_15) &&& 31))))))) := rfl
noncomputable def D_bs_step_15 (C : Nat) (f : Nat → Int64) (x : Nat) (y : Int32) (rec : Nat → Int32 → Int64) (nn : Nat) : Nat → Int64 → Int64 := @Nat.rec (fun _ => Nat → Int64 → Int64) (fun _ _ => default) (fun _ lb15 (y5_15 : Nat) (y3_15 : Int64) => (if C ≤ y5_15 then y3_15 else (if ((y >>> ((nI y5_15) &&& 31)) &&& 1) = 1 then (lb15 (y5_15 + 1) y3_15) else nm ((bcE (y >>> ((nI (y5_15 + 1)) &&& 31))) : Int32) (fun (x14 : Int32) => (if (x14 - x14 / 2 * 2) = 0 then (D_bs_step_j56 f x y rec lb15 y5_15 y3_15 1) else (D_bs_step_j56 f x y rec lb15 y5_15 y3_15 (-1))))))) nn
theorem D_bs_step_15_s {C : Nat} {f : Nat → Int64} {x : Nat} {y : Int32} {rec : Nat → Int32 → Int64} {nn : Nat} {y5_15 : Nat} {y3_15 : Int64} : D_bs_step_15 C f x y rec (nn + 1) y5_15 y3_15 = (if C ≤ y5_15 then y3_15 else (if ((y >>> ((nI y5_15) &&& 31)) &&& 1) = 1 then ((D_bs_step_15 C f x y rec nn) (y5_15 + 1) y3_15) else nm ((bcE (y >>> ((nI (y5_15 + 1)) &&& 31))) : Int32) (fun (x14 : Int32) => (if (x14 - x14 / 2 * 2) = 0 then (D_bs_step_j56 f x y rec (D_bs_step_15 C f x y rec nn) y5_15 y3_15 1) else (D_bs_step_j56 f x y rec (D_bs_step_15 C f x y rec nn) y5_15 y3_15 (-1)))))) := rfl
noncomputable def D_bs_step (R : Nat) (C : Nat) (f : Nat → Int64) (x : Nat) (y : Int32) (rec : Nat → Int32 → Int64) : Int64 := (if x = R then 1 else (D_bs_step_15 C f x y rec (C + 1 - 0 + 1) 0 0))
theorem D_bs_step_s {R : Nat} {C : Nat} {f : Nat → Int64} {x : Nat} {y : Int32} {rec : Nat → Int32 → Int64} : D_bs_step R C f x y rec = (if x = R then 1 else (D_bs_step_15 C f x y rec (C + 1 - 0 + 1) 0 0)) := rfl
set_option maxHeartbeats 4000000 in
set_option maxRecDepth 100000 in
theorem k_bs_step (κ : Kt) (l : Launch) (d : Nat) (w : va_W) (k1 k2 g b R C : Nat) (f : Nat → Int64) (xx : Int32) (x : Nat) (y : Int32) (n : Nat) (rec : Nat → Int32 → Int64) (h1 : w[k1]? = some (gO g R C b)) (h2 : w[k2]? = some (lA κ b (R * 5) f)) (hs : shp R C) (hxx : xx = nI x) (hxR : x ≤ R) (hn : R - x ≤ n + 1) (hnd : R - x ≤ d) (ih : ∀ (X : Nat) (Y : Int32), X ≤ R → R - X ≤ n → CM κ l yX10_bySequences cX10_bySequences 7 (some .long) d (26 * d) 0 0 [.ref g, .int (nI X), .int Y] w (fun o w' => o = some (.long (rec X Y)) ∧ w' = w)) (o_x0 : Int64) (hR : D_bs_step R C f x y rec = o_x0) : CM κ l yX10_bySequences cX10_bySequences 7 (some .long) (d + 1) (26 * (d + 1)) 0 0 [.ref g, .int xx, .int y] (w) (fun o w' => o = some (.long o_x0) ∧ w' = w) := by
  have hs0 := hs
  obtain ⟨hs1, hs2, hs3, hs4⟩ := hs0
  subst hxx
  refine CM_begin (plainFor_of_name (by decide)) (Nat.le_of_ble_eq_true rfl) ?_
  intro p e s m args below meth c A Q hX hnm hA3 hQ hB ls hl
  have hx := hX.1.1
  have hb := hX.1.2.1
  have hl : lv_has ls 7 [(0, .ref g), (1, .int (nI x)), (2, .int y)] := hl
  replace hR := (D_bs_step_s).symm.trans hR
  refine lv_iload_n hx hb dX10_bySequences_0 rfl (lv_at hl 1 rfl) ?_
  refine lv_aload_n hx hb dX10_bySequences_1 rfl (lv_at hl 0 rfl) ?_
  refine gf (k0 := k1) hX hB h1 rfl in7 0 (by decide) wm_5_148 rfl rfl dX10_bySequences_2 ?_
  refine lv_icmp_ne (tgt := 10) hx hb dX10_bySequences_5 (by decide) (fun c1 => ?_) (fun c1 => ?_)
  · rw [neqP (a := x) (b := R) (by omega) (by omega)] at c1
    replace hR := ifn c1 hR
    refine lv_lconst (v := 0) hx hb dX10_bySequences_10 (by decide) ?_
    refine lv_lstore_n (lv' := [(3, .long 0), (0, .ref g), (1, .int (nI x)), (2, .int y)]) hx hb dX10_bySequences_11 rfl hl (by decide) rfl (fun ls hl => ?_)
    refine lv_iconst (v := 0) hx hb dX10_bySequences_12 (by decide) ?_
    refine lv_istore (lv' := [(5, .int 0), (3, .long 0), (0, .ref g), (1, .int (nI x)), (2, .int y)]) hx hb dX10_bySequences_13 hl (by decide) rfl (fun ls hl => ?_)
    have lp15 : ∀ (nn15 : Nat) (y5_15 : Nat) (y3_15 : Int64) (H : Heap) (locs : List Loc), (y5_15 ≤ C) → C + 1 - y5_15 < nn15 → D_bs_step_15 C f x y rec nn15 y5_15 y3_15 = o_x0 → Bd κ A s (w) H locs → ∀ ls : Array Slot, lv_has ls 7 [(5, .int (nI y5_15)), (3, .long y3_15), (0, .ref g), (1, .int (nI x)), (2, .int y)] → W p l e (Rm (d + 1) (26 * (d + 1)) 0 0) s m args below meth c H locs (0) (0) Q (F0 m 15 ls []) := by
      intro nn15
      induction nn15 with
      | zero => intro y5_15 y3_15 H locs hn5_15 hμ; exact absurd hμ (Nat.not_lt_zero _)
      | succ nn15 ih15 =>
        intro y5_15 y3_15 H locs hn5_15 hμ15 hR hB ls hl
        replace hR := (D_bs_step_15_s).symm.trans hR
        refine lv_iload hx hb dX10_bySequences_15 (lv_at hl 0 rfl) ?_
        refine lv_aload_n hx hb dX10_bySequences_17 rfl (lv_at hl 2 rfl) ?_
        refine gf (k0 := k1) hX hB h1 rfl in7 1 (by decide) wm_5_152 rfl rfl dX10_bySequences_18 ?_
        refine lv_icmp_ge (tgt := 92) hx hb dX10_bySequences_21 (by decide) (fun c12 => ?_) (fun c12 => ?_)
        · rw [nleP (a := C) (b := y5_15) (by omega) (by omega)] at c12
          replace hR := ifp c12 hR
          refine lv_lload_n hx hb dX10_bySequences_92 rfl (lv_at hl 1 rfl) ?_
          rw [← hQ]
          exact end_l hX hB hA3 rfl (by obtain rfl := hR; exact ⟨rfl, rfl⟩) (Nat.le_of_ble_eq_true rfl) (Nat.le_of_ble_eq_true rfl) dX10_bySequences_93
        · rw [nleP (a := C) (b := y5_15) (by omega) (by omega)] at c12
          replace hR := ifn c12 hR
          refine lv_iload_n hx hb dX10_bySequences_24 rfl (lv_at hl 4 rfl) ?_
          refine lv_iload hx hb dX10_bySequences_25 (lv_at hl 0 rfl) ?_
          refine lv_ishr hx hb dX10_bySequences_27 ?_
          refine lv_iconst (v := 1) hx hb dX10_bySequences_28 (by decide) ?_
          refine lv_iand hx hb dX10_bySequences_29 ?_
          refine lv_iconst (v := 1) hx hb dX10_bySequences_30 (by decide) ?_
          refine lv_icmp_ne (tgt := 37) hx hb dX10_bySequences_31 (by decide) (fun c13 => ?_) (fun c13 => ?_)
          · replace hR := ifn c13 hR
            refine lv_iload_n hx hb dX10_bySequences_37 rfl (lv_at hl 4 rfl) ?_
            refine lv_iload hx hb dX10_bySequences_38 (lv_at hl 0 rfl) ?_
            refine lv_iconst (v := 1) hx hb dX10_bySequences_40 (by decide) ?_
            refine lv_iadd hx hb dX10_bySequences_41 ?_
            refine eqi (y := nI (y5_15 + 1)) (nI_add y5_15 1) ?_
            refine lv_ishr hx hb dX10_bySequences_42 ?_
            refine call_S (n := 1) (As := [.int (y >>> ((nI (y5_15 + 1)) &&& 31))]) (rest := []) hX hB (k_J6_bitCount_0f7a4 κ l (w) (y >>> ((nI (y5_15 + 1)) &&& 31)) ) ⟨by decide, by decide, by decide +kernel⟩ wm_7_91 wm_1_195 wm_1_26 wm_1_196 ⟨(show 0 + 1 ≤ d + 1 by omega), (show 8 + (1 + 11) + 0 ≤ 26 * (d + 1) by omega)⟩ ⟨Nat.le_of_ble_eq_true rfl, Nat.le_of_ble_eq_true rfl⟩ rfl hl.1 rfl (Nat.le_of_ble_eq_true rfl) dX10_bySequences_43 (fun o w' H locs hp hB => ?_)
            obtain ⟨x14, rfl, ex14, hw9⟩ := hp
            replace hR := nm_use ex14 hR
            rw [hw9] at hB
            refine W.eq (g2 := F0 m 46 ls [.int x14]) rfl ?_
            refine lv_iconst (v := 2) hx hb dX10_bySequences_46 (by decide) ?_
            refine lv_irem hx hb dX10_bySequences_47 (by decide) ?_
            have jn56 : ∀ (z0_56 : Int32) (H : Heap) (locs : List Loc), D_bs_step_j56 f x y rec (D_bs_step_15 C f x y rec nn15) y5_15 y3_15 z0_56 = o_x0 → Bd κ A s (w) H locs → ∀ ls : Array Slot, lv_has ls 7 [(5, .int (nI y5_15)), (3, .long y3_15), (0, .ref g), (1, .int (nI x)), (2, .int y)] → W p l e (Rm (d + 1) (26 * (d + 1)) 0 0) s m args below meth c H locs (0) (0) Q (F0 m 56 ls [.int z0_56]) := by
              intro z0_56 H locs hR hB ls hl
              replace hR := (D_bs_step_j56_s).symm.trans hR
              refine lv_istore (lv' := [(6, .int z0_56), (5, .int (nI y5_15)), (3, .long y3_15), (0, .ref g), (1, .int (nI x)), (2, .int y)]) hx hb dX10_bySequences_56 hl (by decide) rfl (fun ls hl => ?_)
              refine lv_lload_n hx hb dX10_bySequences_58 rfl (lv_at hl 2 rfl) ?_
              refine lv_iload hx hb dX10_bySequences_59 (lv_at hl 0 rfl) ?_
              refine lv_i2l hx hb dX10_bySequences_61 rfl ?_
              refine lv_aload_n hx hb dX10_bySequences_62 rfl (lv_at hl 3 rfl) ?_
              refine lv_iload_n hx hb dX10_bySequences_63 rfl (lv_at hl 4 rfl) ?_
              refine lv_iload hx hb dX10_bySequences_64 (lv_at hl 1 rfl) ?_
              refine call_V (n := 2) (k0 := k1) (As := [.int (nI x), .int (nI y5_15)]) (rest := [.long ((z0_56).toInt64), .long y3_15]) hX hB (k_X7_at κ l (w) k1 k2 g b R C f (nI x) x (nI y5_15) y5_15 h1 h2 hs rfl rfl (by omega)) ⟨rfl, by decide, by decide, by decide +kernel⟩ wm_5_237 wm_5_238 wm_5_239 wm_1_7 wm_6_0 ⟨(show 0 + 1 ≤ d + 1 by omega), (show 8 + (3 + 11) + 0 ≤ 26 * (d + 1) by omega)⟩ ⟨Nat.le_of_ble_eq_true rfl, Nat.le_of_ble_eq_true rfl⟩ h1 rfl rfl rfl hl.1 rfl (Nat.le_of_ble_eq_true rfl) dX10_bySequences_66 (fun o w' H locs hp hB => ?_)
              obtain ⟨rfl, hw9⟩ := hp
              replace hB : Bd κ A s (w) H locs := by rw [hw9] at hB; exact hB
              refine W.eq (g2 := F0 m 69 ls [.long (f (x * 5 + y5_15)), .long ((z0_56).toInt64), .long y3_15]) rfl ?_
              refine lv_lmul hx hb dX10_bySequences_69 ?_
              refine lv_aload_n hx hb dX10_bySequences_70 rfl (lv_at hl 3 rfl) ?_
              refine lv_iload_n hx hb dX10_bySequences_71 rfl (lv_at hl 4 rfl) ?_
              refine lv_iconst (v := 1) hx hb dX10_bySequences_72 (by decide) ?_
              refine lv_iadd hx hb dX10_bySequences_73 ?_
              refine eqi (y := nI (x + 1)) (nI_add x 1) ?_
              refine lv_iload_n hx hb dX10_bySequences_74 rfl (lv_at hl 5 rfl) ?_
              refine lv_iconst (v := 1) hx hb dX10_bySequences_75 (by decide) ?_
              refine lv_iload hx hb dX10_bySequences_76 (lv_at hl 1 rfl) ?_
              refine lv_ishl hx hb dX10_bySequences_78 ?_
              refine lv_ior hx hb dX10_bySequences_79 ?_
              refine call_S (n := 3) (As := [.ref g, .int (nI (x + 1)), .int (y ||| (1 <<< ((nI y5_15) &&& 31)))]) (rest := [.long (((z0_56).toInt64) * (f (x * 5 + y5_15))), .long y3_15]) hX hB (ih (x + 1) (y ||| (1 <<< ((nI y5_15) &&& 31))) (by omega) (by omega)) ⟨by decide, by decide, by decide +kernel⟩ wm_7_88 wm_7_89 wm_1_6 wm_7_90 ⟨Nat.le_refl _, (show 8 + (7 + 11) + 26 * d ≤ 26 * (d + 1) by omega)⟩ ⟨Nat.le_of_ble_eq_true rfl, Nat.le_of_ble_eq_true rfl⟩ rfl hl.1 rfl (Nat.le_of_ble_eq_true rfl) dX10_bySequences_80 (fun o w' H locs hp hB => ?_)
              obtain ⟨rfl, hw9⟩ := hp
              replace hB : Bd κ A s (w) H locs := by rw [hw9] at hB; exact hB
              refine W.eq (g2 := F0 m 83 ls [.long (rec (x + 1) (y ||| (1 <<< ((nI y5_15) &&& 31)))), .long (((z0_56).toInt64) * (f (x * 5 + y5_15))), .long y3_15]) rfl ?_
              refine lv_lmul hx hb dX10_bySequences_83 ?_
              refine lv_ladd hx hb dX10_bySequences_84 ?_
              refine lv_lstore_n (lv' := [(3, .long (y3_15 + ((((z0_56).toInt64) * (f (x * 5 + y5_15))) * (rec (x + 1) (y ||| (1 <<< ((nI y5_15) &&& 31))))))), (6, .int z0_56), (5, .int (nI y5_15)), (0, .ref g), (1, .int (nI x)), (2, .int y)]) hx hb dX10_bySequences_85 rfl hl (by decide) rfl (fun ls hl => ?_)
              refine lv_iinc (v := nI (y5_15 + 1)) (lv' := [(5, .int (nI (y5_15 + 1))), (3, .long (y3_15 + ((((z0_56).toInt64) * (f (x * 5 + y5_15))) * (rec (x + 1) (y ||| (1 <<< ((nI y5_15) &&& 31))))))), (6, .int z0_56), (0, .ref g), (1, .int (nI x)), (2, .int y)]) hx hb dX10_bySequences_86 hl (k := 2) rfl (nI_add y5_15 1) (by decide) rfl (fun ls hl => ?_)
              refine lv_goto (tgt := 15) hx hb dX10_bySequences_89 (by decide) ?_
              exact ih15 (y5_15 + 1) (y3_15 + ((((z0_56).toInt64) * (f (x * 5 + y5_15))) * (rec (x + 1) (y ||| (1 <<< ((nI y5_15) &&& 31)))))) _ _ (by omega) (by omega) hR hB _ (lv_sub hl [0, 1, 3, 4, 5] rfl)
            refine lv_if_ne (tgt := 55) hx hb dX10_bySequences_48 (by decide) (fun c16 => ?_) (fun c16 => ?_)
            · replace hR := ifn c16 hR
              refine lv_iconst (v := (-1)) hx hb dX10_bySequences_55 (by decide) ?_
              exact jn56 (-1) _ _  hR hB _ hl
            · replace hR := ifp c16 hR
              refine lv_iconst (v := 1) hx hb dX10_bySequences_51 (by decide) ?_
              refine lv_goto (tgt := 56) hx hb dX10_bySequences_52 (by decide) ?_
              exact jn56 1 _ _  hR hB _ hl
          · replace hR := ifp c13 hR
            refine lv_goto (tgt := 86) hx hb dX10_bySequences_34 (by decide) ?_
            refine lv_iinc (v := nI (y5_15 + 1)) (lv' := [(5, .int (nI (y5_15 + 1))), (3, .long y3_15), (0, .ref g), (1, .int (nI x)), (2, .int y)]) hx hb dX10_bySequences_86 hl (k := 0) rfl (nI_add y5_15 1) (by decide) rfl (fun ls hl => ?_)
            refine lv_goto (tgt := 15) hx hb dX10_bySequences_89 (by decide) ?_
            exact ih15 (y5_15 + 1) y3_15 _ _ (by omega) (by omega) hR hB _ hl
    exact lp15 _ 0 0 _ _ (by omega) (Nat.lt_succ_self _) hR hB _ hl
  · rw [neqP (a := x) (b := R) (by omega) (by omega)] at c1
    replace hR := ifp c1 hR
    refine lv_lconst (v := 1) hx hb dX10_bySequences_8 (by decide) ?_
    rw [← hQ]
    exact end_l hX hB hA3 rfl (by obtain rfl := hR; exact ⟨rfl, rfl⟩) (Nat.le_of_ble_eq_true rfl) (Nat.le_of_ble_eq_true rfl) dX10_bySequences_9

noncomputable def bsv (R C : Nat) (f : Nat → Int64) (n : Nat) : Nat → Int32 → Int64 := @Nat.rec (fun _ => Nat → Int32 → Int64) (fun x y => D_bs_step0 R C f x y) (fun _ ih x y => D_bs_step R C f x y ih) n
theorem bs_all (κ : Kt) (l : Launch) (w : va_W) (k1 k2 g b R C : Nat) (f : Nat → Int64) (h1 : w[k1]? = some (gO g R C b)) (h2 : w[k2]? = some (lA κ b (R * 5) f)) (hs : shp R C) : ∀ (n x : Nat) (y : Int32), x ≤ R → R - x ≤ n → CM κ l yX10_bySequences cX10_bySequences 7 (some .long) (n + 1) (26 * (n + 1)) 0 0 [.ref g, .int (nI x), .int y] w (fun o w' => o = some (.long (bsv R C f n x y)) ∧ w' = w) := by
  intro n
  induction n with
  | zero => exact fun x y hx hn => k_bs_step0 κ l 0 w k1 k2 g b R C f _ x y h1 h2 hs rfl hx hn _ rfl
  | succ n ih => exact fun x y hx hn => k_bs_step κ l (n + 1) w k1 k2 g b R C f _ x y n (bsv R C f n) h1 h2 hs rfl hx hn hn (fun X Y hX hY => ih X Y hX hY) _ rfl
theorem k_X10_bySequences (κ : Kt) (l : Launch) (w : va_W) (k1 k2 g b R C : Nat) (f : Nat → Int64) (xx : Int32) (x : Nat) (y : Int32) (h1 : w[k1]? = some (gO g R C b)) (h2 : w[k2]? = some (lA κ b (R * 5) f)) (hs : shp R C) (hx : xx = nI x) (hR : x ≤ R) : CM κ l yX10_bySequences cX10_bySequences 7 (some .long) 5 (26 * 5) 0 0 [.ref g, .int xx, .int y] w (fun o w' => o = some (.long (bsv R C f 4 x y)) ∧ w' = w) := by
  subst hx
  exact bs_all κ l w k1 k2 g b R C f h1 h2 hs 4 x y hR (by have := hs.2.1; omega)

