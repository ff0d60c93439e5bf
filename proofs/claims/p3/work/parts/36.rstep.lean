theorem nI_m1 {m : Nat} (h : m < 2 ^ 31) : ¬ nI m = -1 := by
  intro e
  have h1 := nI_pos h
  rw [e] at h1
  exact h1 (by decide)
theorem tk_b0 {f2 : Nat → Int64} {i r c0 : Nat} {i2 : Int32} (h : lg_cmp (fdv (f2 (i * 5 + c0)) (f2 (r * 5 + c0))) 0 = 0 ∨ ¬ i2 = 0) : i2 = 0 → i2 = 0 ∧ f2 (i * 5 + c0) = rmf (f2 (i * 5 + c0)) (f2 (r * 5 + c0)) := by
  intro h0
  refine ⟨h0, ?_⟩
  have h1 := lg0.mp (h.resolve_right (fun z => z h0))
  unfold rmf
  rw [h1]
  grind
theorem tk_b1 {f2 : Nat → Int64} {i r c0 C : Nat} (hc : c0 < C) (hC : C ≤ 5) : ar C i r (-(fdv (f2 (i * 5 + c0)) (f2 (r * 5 + c0)))) f2 (i * 5 + c0) = rmf (f2 (i * 5 + c0)) (f2 (r * 5 + c0)) := by
  unfold ar rmf
  rw [if_pos (by omega), show (i * 5 + c0) % 5 = c0 by omega]

noncomputable def D_X8_takeOff (R : Nat) (C : Nat) (f1 : Nat → Int64) (f2 : Nat → Int64) (i1 : Int32) (i2 : Int32) (i : Nat) (r : Nat) (c0 : Nat) : (Nat → Int64) × (Nat → Int64) × Int32 × Int32 := (if (lg_cmp (fdv (f2 (i * 5 + c0)) (f2 (r * 5 + c0))) 0) = 0 then (f1, f2, i1, i2) else (if i2 = 0 then bnd1 (D_X7_isGreat R C (ar C i r (-(fdv (f2 (i * 5 + c0)) (f2 (r * 5 + c0)))) f2)) (fun (x4 : Int32) => (if x4 = 0 then bnd1 (D_X7_isGreat R R (ar R i r (-(fdv (f2 (i * 5 + c0)) (f2 (r * 5 + c0)))) f1)) (fun (x9 : Int32) => (if x9 = 0 then (ar R i r (-(fdv (f2 (i * 5 + c0)) (f2 (r * 5 + c0)))) f1, ar C i r (-(fdv (f2 (i * 5 + c0)) (f2 (r * 5 + c0)))) f2, i1, 0) else (ar R i r (-(fdv (f2 (i * 5 + c0)) (f2 (r * 5 + c0)))) f1, ar C i r (-(fdv (f2 (i * 5 + c0)) (f2 (r * 5 + c0)))) f2, i1, 1))) else (ar R i r (-(fdv (f2 (i * 5 + c0)) (f2 (r * 5 + c0)))) f1, ar C i r (-(fdv (f2 (i * 5 + c0)) (f2 (r * 5 + c0)))) f2, i1, 1))) else (f1, f2, i1, i2)))
theorem D_X8_takeOff_s {R : Nat} {C : Nat} {f1 : Nat → Int64} {f2 : Nat → Int64} {i1 : Int32} {i2 : Int32} {i : Nat} {r : Nat} {c0 : Nat} : D_X8_takeOff R C f1 f2 i1 i2 i r c0 = (if (lg_cmp (fdv (f2 (i * 5 + c0)) (f2 (r * 5 + c0))) 0) = 0 then (f1, f2, i1, i2) else (if i2 = 0 then bnd1 (D_X7_isGreat R C (ar C i r (-(fdv (f2 (i * 5 + c0)) (f2 (r * 5 + c0)))) f2)) (fun (x4 : Int32) => (if x4 = 0 then bnd1 (D_X7_isGreat R R (ar R i r (-(fdv (f2 (i * 5 + c0)) (f2 (r * 5 + c0)))) f1)) (fun (x9 : Int32) => (if x9 = 0 then (ar R i r (-(fdv (f2 (i * 5 + c0)) (f2 (r * 5 + c0)))) f1, ar C i r (-(fdv (f2 (i * 5 + c0)) (f2 (r * 5 + c0)))) f2, i1, 0) else (ar R i r (-(fdv (f2 (i * 5 + c0)) (f2 (r * 5 + c0)))) f1, ar C i r (-(fdv (f2 (i * 5 + c0)) (f2 (r * 5 + c0)))) f2, i1, 1))) else (ar R i r (-(fdv (f2 (i * 5 + c0)) (f2 (r * 5 + c0)))) f1, ar C i r (-(fdv (f2 (i * 5 + c0)) (f2 (r * 5 + c0)))) f2, i1, 1))) else (f1, f2, i1, i2))) := rfl
set_option maxHeartbeats 4000000 in
set_option maxRecDepth 100000 in
theorem k_X8_takeOff (κ : Kt) (l : Launch) (w : va_W) (s_0 g_c b_c g_w b_w R C : Nat) (f1 f2 : Nat → Int64) (i1 i2 : Int32) (xi : Int32) (i : Nat) (xr : Int32) (r : Nat) (xc0 : Int32) (c0 : Nat) (hs : shp R C) (hxi : xi = nI i) (hxr : xr = nI r) (hxc0 : xc0 = nI c0) (hi : i < R) (hr : r < R) (hc0 : c0 < C) (hne : i ≠ r) (hpv : f2 (r * 5 + c0) ≠ 0) (o_F1 : Nat → Int64) (o_F2 : Nat → Int64) (o_S1 : Int32) (o_G1 : Int32) (hR : D_X8_takeOff R C f1 f2 i1 i2 i r c0 = (o_F1, o_F2, o_S1, o_G1)) : CM κ l yX8_takeOff cX8_takeOff 6 (none) 2 49 0 0 [.ref s_0, .int xi, .int xr, .int xc0] (lA κ b_c (R * 5) f1 :: gO g_c R R b_c :: lA κ b_w (R * 5) f2 :: gO g_w R C b_w :: (s_0, .inr (9, [.ref g_w, .ref g_c, .int i1, .int i2])) :: w) (fun o w' => o = none ∧ (o_F2 = f2 ∨ o_F2 = ar C i r (-(fdv (f2 (i * 5 + c0)) (f2 (r * 5 + c0)))) f2) ∧ (o_G1 = 0 → i2 = 0 ∧ o_F2 (i * 5 + c0) = rmf (f2 (i * 5 + c0)) (f2 (r * 5 + c0))) ∧ (o_G1 = 0 → o_F2 = f2 ∨ ∀ k, k < R * 5 → ng (o_F2 k)) ∧ w' = lA κ b_c (R * 5) o_F1 :: gO g_c R R b_c :: lA κ b_w (R * 5) o_F2 :: gO g_w R C b_w :: (s_0, .inr (9, [.ref g_w, .ref g_c, .int o_S1, .int o_G1])) :: w) := by
  have hs0 := hs
  obtain ⟨hs1, hs2, hs3, hs4⟩ := hs0
  subst hxi
  subst hxr
  subst hxc0
  refine CM_begin (plainFor_of_name (by decide)) (Nat.le_of_ble_eq_true rfl) ?_
  intro p e s m args below meth c A Q hX hnm hA3 hQ hB ls hl
  have hx := hX.1.1
  have hb := hX.1.2.1
  have hl : lv_has ls 6 [(0, .ref s_0), (1, .int (nI i)), (2, .int (nI r)), (3, .int (nI c0))] := hl
  replace hR := (D_X8_takeOff_s).symm.trans hR
  refine lv_aload_n hx hb dX8_takeOff_0 rfl (lv_at hl 0 rfl) ?_
  refine gf (k0 := 4) hX hB rfl rfl in8 0 (by decide) wm_6_159 rfl rfl dX8_takeOff_1 ?_
  refine lv_iload_n hx hb dX8_takeOff_4 rfl (lv_at hl 1 rfl) ?_
  refine lv_iload_n hx hb dX8_takeOff_5 rfl (lv_at hl 3 rfl) ?_
  refine call_V (n := 2) (k0 := 3) (As := [.int (nI i), .int (nI c0)]) (rest := []) hX hB (k_X7_at κ l (lA κ b_c (R * 5) f1 :: gO g_c R R b_c :: lA κ b_w (R * 5) f2 :: gO g_w R C b_w :: (s_0, .inr (9, [.ref g_w, .ref g_c, .int i1, .int i2])) :: w) 3 2 g_w b_w R C f2 (nI i) i (nI c0) c0 rfl rfl hs rfl rfl (by omega)) ⟨rfl, by decide, by decide, by decide +kernel⟩ wm_6_143 wm_5_238 wm_5_239 wm_1_7 wm_6_0 ⟨Nat.le_of_ble_eq_true rfl, Nat.le_of_ble_eq_true rfl⟩ ⟨Nat.le_of_ble_eq_true rfl, Nat.le_of_ble_eq_true rfl⟩ rfl rfl rfl rfl hl.1 rfl (Nat.le_of_ble_eq_true rfl) dX8_takeOff_6 (fun o w' H locs hp hB => ?_)
  obtain ⟨rfl, hw9⟩ := hp
  replace hB : Bd κ A s (lA κ b_c (R * 5) f1 :: gO g_c R R b_c :: lA κ b_w (R * 5) f2 :: gO g_w R C b_w :: (s_0, .inr (9, [.ref g_w, .ref g_c, .int i1, .int i2])) :: w) H locs := by rw [hw9] at hB; exact hB
  refine W.eq (g2 := F0 m 9 ls [.long (f2 (i * 5 + c0))]) rfl ?_
  refine lv_aload_n hx hb dX8_takeOff_9 rfl (lv_at hl 0 rfl) ?_
  refine gf (k0 := 4) hX hB rfl rfl in8 0 (by decide) wm_6_159 rfl rfl dX8_takeOff_10 ?_
  refine lv_iload_n hx hb dX8_takeOff_13 rfl (lv_at hl 2 rfl) ?_
  refine lv_iload_n hx hb dX8_takeOff_14 rfl (lv_at hl 3 rfl) ?_
  refine call_V (n := 2) (k0 := 3) (As := [.int (nI r), .int (nI c0)]) (rest := [.long (f2 (i * 5 + c0))]) hX hB (k_X7_at κ l (lA κ b_c (R * 5) f1 :: gO g_c R R b_c :: lA κ b_w (R * 5) f2 :: gO g_w R C b_w :: (s_0, .inr (9, [.ref g_w, .ref g_c, .int i1, .int i2])) :: w) 3 2 g_w b_w R C f2 (nI r) r (nI c0) c0 rfl rfl hs rfl rfl (by omega)) ⟨rfl, by decide, by decide, by decide +kernel⟩ wm_6_143 wm_5_238 wm_5_239 wm_1_7 wm_6_0 ⟨Nat.le_of_ble_eq_true rfl, Nat.le_of_ble_eq_true rfl⟩ ⟨Nat.le_of_ble_eq_true rfl, Nat.le_of_ble_eq_true rfl⟩ rfl rfl rfl rfl hl.1 rfl (Nat.le_of_ble_eq_true rfl) dX8_takeOff_15 (fun o w' H locs hp hB => ?_)
  obtain ⟨rfl, hw9⟩ := hp
  replace hB : Bd κ A s (lA κ b_c (R * 5) f1 :: gO g_c R R b_c :: lA κ b_w (R * 5) f2 :: gO g_w R C b_w :: (s_0, .inr (9, [.ref g_w, .ref g_c, .int i1, .int i2])) :: w) H locs := by rw [hw9] at hB; exact hB
  refine W.eq (g2 := F0 m 18 ls [.long (f2 (r * 5 + c0)), .long (f2 (i * 5 + c0))]) rfl ?_
  refine call_S (n := 2) (As := [.long (f2 (i * 5 + c0)), .long (f2 (r * 5 + c0))]) (rest := []) hX hB (k_J9_floorDiv_f86c9 κ l (lA κ b_c (R * 5) f1 :: gO g_c R R b_c :: lA κ b_w (R * 5) f2 :: gO g_w R C b_w :: (s_0, .inr (9, [.ref g_w, .ref g_c, .int i1, .int i2])) :: w) (f2 (i * 5 + c0)) (f2 (r * 5 + c0)) hpv) ⟨by decide, by decide, by decide +kernel⟩ wm_6_151 wm_2_20 wm_1_14 wm_2_21 ⟨Nat.le_of_ble_eq_true rfl, Nat.le_of_ble_eq_true rfl⟩ ⟨Nat.le_of_ble_eq_true rfl, Nat.le_of_ble_eq_true rfl⟩ rfl hl.1 rfl (Nat.le_of_ble_eq_true rfl) dX8_takeOff_18 (fun o w' H locs hp hB => ?_)
  obtain ⟨x1, rfl, ex1, hw9⟩ := hp
  rw [hw9] at hB
  subst ex1
  refine W.eq (g2 := F0 m 21 ls [.long (fdv (f2 (i * 5 + c0)) (f2 (r * 5 + c0)))]) rfl ?_
  refine lv_lstore (lv' := [(4, .long (fdv (f2 (i * 5 + c0)) (f2 (r * 5 + c0)))), (0, .ref s_0), (1, .int (nI i)), (2, .int (nI r)), (3, .int (nI c0))]) hx hb dX8_takeOff_21 hl (by decide) rfl (fun ls hl => ?_)
  refine lv_lload hx hb dX8_takeOff_23 (lv_at hl 0 rfl) ?_
  refine lv_lconst (v := 0) hx hb dX8_takeOff_25 (by decide) ?_
  refine W.lcmp hx hb dX8_takeOff_26 ?_
  refine lv_if_eq (tgt := 37) hx hb dX8_takeOff_27 (by decide) (fun c2 => ?_) (fun c2 => ?_)
  · replace hR := ifp c2 hR
    rw [← hQ]
    exact end_v hX hB hA3 rfl (by obtain ⟨rfl, rfl, rfl, rfl⟩ := pr4 hR; exact ⟨rfl, Or.inl rfl, tk_b0 (by first | exact Or.inl (by assumption) | exact Or.inr (by assumption)), (fun _ => Or.inl rfl), rfl⟩) (Nat.le_of_ble_eq_true rfl) (Nat.le_of_ble_eq_true rfl) dX8_takeOff_37
  · replace hR := ifn c2 hR
    refine lv_aload_n hx hb dX8_takeOff_30 rfl (lv_at hl 1 rfl) ?_
    refine gf (k0 := 4) hX hB rfl rfl in8 3 (by decide) wm_6_165 rfl rfl dX8_takeOff_31 ?_
    refine lv_if_eq (tgt := 38) hx hb dX8_takeOff_34 (by decide) (fun c3 => ?_) (fun c3 => ?_)
    · replace hR := ifp c3 hR
      refine lv_aload_n hx hb dX8_takeOff_38 rfl (lv_at hl 1 rfl) ?_
      refine gf (k0 := 4) hX hB rfl rfl in8 0 (by decide) wm_6_159 rfl rfl dX8_takeOff_39 ?_
      refine lv_iload_n hx hb dX8_takeOff_42 rfl (lv_at hl 2 rfl) ?_
      refine lv_iload_n hx hb dX8_takeOff_43 rfl (lv_at hl 3 rfl) ?_
      refine lv_lload hx hb dX8_takeOff_44 (lv_at hl 0 rfl) ?_
      refine lv_lneg hx hb dX8_takeOff_46 ?_
      refine call_V (n := 3) (k0 := 3) (As := [.int (nI i), .int (nI r), .long (-(fdv (f2 (i * 5 + c0)) (f2 (r * 5 + c0))))]) (rest := []) hX hB (k_X7_addRow κ l (lA κ b_c (R * 5) f1 :: gO g_c R R b_c :: lA κ b_w (R * 5) f2 :: gO g_w R C b_w :: (s_0, .inr (9, [.ref g_w, .ref g_c, .int i1, .int i2])) :: w) 3 2 g_w b_w R C f2 (nI i) i (nI r) r (-(fdv (f2 (i * 5 + c0)) (f2 (r * 5 + c0)))) rfl rfl hs rfl rfl (by omega) (by omega) (by omega)) ⟨rfl, by decide, by decide, by decide +kernel⟩ wm_6_152 wm_6_80 wm_6_81 wm_1_7 wm_6_82 ⟨Nat.le_of_ble_eq_true rfl, Nat.le_of_ble_eq_true rfl⟩ ⟨Nat.le_of_ble_eq_true rfl, Nat.le_of_ble_eq_true rfl⟩ rfl rfl rfl rfl hl.1 rfl (Nat.le_of_ble_eq_true rfl) dX8_takeOff_47 (fun o w' H locs hp hB => ?_)
      obtain ⟨rfl, hw9⟩ := hp
      replace hB : Bd κ A s (lA κ b_c (R * 5) f1 :: gO g_c R R b_c :: lA κ b_w (R * 5) (ar C i r (-(fdv (f2 (i * 5 + c0)) (f2 (r * 5 + c0)))) f2) :: gO g_w R C b_w :: (s_0, .inr (9, [.ref g_w, .ref g_c, .int i1, .int i2])) :: w) H locs := by rw [hw9] at hB; exact hB
      refine W.eq (g2 := F0 m 50 ls []) rfl ?_
      refine lv_aload_n hx hb dX8_takeOff_50 rfl (lv_at hl 1 rfl) ?_
      refine gf (k0 := 4) hX hB rfl rfl in8 1 (by decide) wm_6_161 rfl rfl dX8_takeOff_51 ?_
      refine lv_iload_n hx hb dX8_takeOff_54 rfl (lv_at hl 2 rfl) ?_
      refine lv_iload_n hx hb dX8_takeOff_55 rfl (lv_at hl 3 rfl) ?_
      refine lv_lload hx hb dX8_takeOff_56 (lv_at hl 0 rfl) ?_
      refine lv_lneg hx hb dX8_takeOff_58 ?_
      refine call_V (n := 3) (k0 := 1) (As := [.int (nI i), .int (nI r), .long (-(fdv (f2 (i * 5 + c0)) (f2 (r * 5 + c0))))]) (rest := []) hX hB (k_X7_addRow κ l (lA κ b_c (R * 5) f1 :: gO g_c R R b_c :: lA κ b_w (R * 5) (ar C i r (-(fdv (f2 (i * 5 + c0)) (f2 (r * 5 + c0)))) f2) :: gO g_w R C b_w :: (s_0, .inr (9, [.ref g_w, .ref g_c, .int i1, .int i2])) :: w) 1 0 g_c b_c R R f1 (nI i) i (nI r) r (-(fdv (f2 (i * 5 + c0)) (f2 (r * 5 + c0)))) rfl rfl ⟨by omega, by omega, by omega, by omega⟩ rfl rfl (by omega) (by omega) (by omega)) ⟨rfl, by decide, by decide, by decide +kernel⟩ wm_6_152 wm_6_80 wm_6_81 wm_1_7 wm_6_82 ⟨Nat.le_of_ble_eq_true rfl, Nat.le_of_ble_eq_true rfl⟩ ⟨Nat.le_of_ble_eq_true rfl, Nat.le_of_ble_eq_true rfl⟩ rfl rfl rfl rfl hl.1 rfl (Nat.le_of_ble_eq_true rfl) dX8_takeOff_59 (fun o w' H locs hp hB => ?_)
      obtain ⟨rfl, hw9⟩ := hp
      replace hB : Bd κ A s (lA κ b_c (R * 5) (ar R i r (-(fdv (f2 (i * 5 + c0)) (f2 (r * 5 + c0)))) f1) :: gO g_c R R b_c :: lA κ b_w (R * 5) (ar C i r (-(fdv (f2 (i * 5 + c0)) (f2 (r * 5 + c0)))) f2) :: gO g_w R C b_w :: (s_0, .inr (9, [.ref g_w, .ref g_c, .int i1, .int i2])) :: w) H locs := by rw [hw9] at hB; exact hB
      refine W.eq (g2 := F0 m 62 ls []) rfl ?_
      refine lv_aload_n hx hb dX8_takeOff_62 rfl (lv_at hl 1 rfl) ?_
      refine lv_aload_n hx hb dX8_takeOff_63 rfl (lv_at hl 1 rfl) ?_
      refine gf (k0 := 4) hX hB rfl rfl in8 0 (by decide) wm_6_159 rfl rfl dX8_takeOff_64 ?_
      obtain ⟨x4, hd5⟩ := ex1 (D_X7_isGreat R C (ar C i r (-(fdv (f2 (i * 5 + c0)) (f2 (r * 5 + c0)))) f2))
      replace hR := bnd1_use hd5 hR
      refine call_V (n := 0) (k0 := 3) (As := []) (rest := [.ref s_0]) hX hB (k_X7_isGreat κ l (lA κ b_c (R * 5) (ar R i r (-(fdv (f2 (i * 5 + c0)) (f2 (r * 5 + c0)))) f1) :: gO g_c R R b_c :: lA κ b_w (R * 5) (ar C i r (-(fdv (f2 (i * 5 + c0)) (f2 (r * 5 + c0)))) f2) :: gO g_w R C b_w :: (s_0, .inr (9, [.ref g_w, .ref g_c, .int i1, .int i2])) :: w) 3 2 g_w b_w R C (ar C i r (-(fdv (f2 (i * 5 + c0)) (f2 (r * 5 + c0)))) f2) rfl rfl hs x4 hd5) ⟨rfl, by decide, by decide, by decide +kernel⟩ wm_6_153 wm_6_154 wm_6_155 wm_1_7 wm_6_156 ⟨Nat.le_of_ble_eq_true rfl, Nat.le_of_ble_eq_true rfl⟩ ⟨Nat.le_of_ble_eq_true rfl, Nat.le_of_ble_eq_true rfl⟩ rfl rfl rfl rfl hl.1 rfl (Nat.le_of_ble_eq_true rfl) dX8_takeOff_67 (fun o w' H locs hp hB => ?_)
      obtain ⟨rfl, hf6, hf7, hw9⟩ := hp
      replace hB : Bd κ A s (lA κ b_c (R * 5) (ar R i r (-(fdv (f2 (i * 5 + c0)) (f2 (r * 5 + c0)))) f1) :: gO g_c R R b_c :: lA κ b_w (R * 5) (ar C i r (-(fdv (f2 (i * 5 + c0)) (f2 (r * 5 + c0)))) f2) :: gO g_w R C b_w :: (s_0, .inr (9, [.ref g_w, .ref g_c, .int i1, .int i2])) :: w) H locs := by rw [hw9] at hB; exact hB
      rcases hf6 with rfl | rfl
      · replace hR := ifp rfl hR
        refine W.eq (g2 := F0 m 70 ls [.int 0, .ref s_0]) rfl ?_
        refine lv_if_ne (tgt := 83) hx hb dX8_takeOff_70 (by decide) (fun c8 => False.elim (by revert c8; decide)) (fun _ => ?_)
        refine lv_aload_n hx hb dX8_takeOff_73 rfl (lv_at hl 1 rfl) ?_
        refine gf (k0 := 4) hX hB rfl rfl in8 1 (by decide) wm_6_161 rfl rfl dX8_takeOff_74 ?_
        obtain ⟨x9, hd10⟩ := ex1 (D_X7_isGreat R R (ar R i r (-(fdv (f2 (i * 5 + c0)) (f2 (r * 5 + c0)))) f1))
        replace hR := bnd1_use hd10 hR
        refine call_V (n := 0) (k0 := 1) (As := []) (rest := [.ref s_0]) hX hB (k_X7_isGreat κ l (lA κ b_c (R * 5) (ar R i r (-(fdv (f2 (i * 5 + c0)) (f2 (r * 5 + c0)))) f1) :: gO g_c R R b_c :: lA κ b_w (R * 5) (ar C i r (-(fdv (f2 (i * 5 + c0)) (f2 (r * 5 + c0)))) f2) :: gO g_w R C b_w :: (s_0, .inr (9, [.ref g_w, .ref g_c, .int i1, .int i2])) :: w) 1 0 g_c b_c R R (ar R i r (-(fdv (f2 (i * 5 + c0)) (f2 (r * 5 + c0)))) f1) rfl rfl ⟨by omega, by omega, by omega, by omega⟩ x9 hd10) ⟨rfl, by decide, by decide, by decide +kernel⟩ wm_6_153 wm_6_154 wm_6_155 wm_1_7 wm_6_156 ⟨Nat.le_of_ble_eq_true rfl, Nat.le_of_ble_eq_true rfl⟩ ⟨Nat.le_of_ble_eq_true rfl, Nat.le_of_ble_eq_true rfl⟩ rfl rfl rfl rfl hl.1 rfl (Nat.le_of_ble_eq_true rfl) dX8_takeOff_77 (fun o w' H locs hp hB => ?_)
        obtain ⟨rfl, hf11, hf12, hw9⟩ := hp
        replace hB : Bd κ A s (lA κ b_c (R * 5) (ar R i r (-(fdv (f2 (i * 5 + c0)) (f2 (r * 5 + c0)))) f1) :: gO g_c R R b_c :: lA κ b_w (R * 5) (ar C i r (-(fdv (f2 (i * 5 + c0)) (f2 (r * 5 + c0)))) f2) :: gO g_w R C b_w :: (s_0, .inr (9, [.ref g_w, .ref g_c, .int i1, .int i2])) :: w) H locs := by rw [hw9] at hB; exact hB
        rcases hf11 with rfl | rfl
        · replace hR := ifp rfl hR
          refine W.eq (g2 := F0 m 80 ls [.int 0, .ref s_0]) rfl ?_
          refine lv_if_eq (tgt := 87) hx hb dX8_takeOff_80 (by decide) (fun _ => ?_) (fun c13 => False.elim (by revert c13; decide))
          refine lv_iconst (v := 0) hx hb dX8_takeOff_87 (by decide) ?_
          refine pf (ty := .boolean) (k0 := 4) hX hB rfl rfl in8 tyX8_ok nmX8 3 (by decide) wm_6_165 rfl rfl rfl rfl rfl (Nat.le_of_ble_eq_true rfl) (w1 := lA κ b_c (R * 5) (ar R i r (-(fdv (f2 (i * 5 + c0)) (f2 (r * 5 + c0)))) f1) :: gO g_c R R b_c :: lA κ b_w (R * 5) (ar C i r (-(fdv (f2 (i * 5 + c0)) (f2 (r * 5 + c0)))) f2) :: gO g_w R C b_w :: (s_0, .inr (9, [.ref g_w, .ref g_c, .int i1, .int 0])) :: w) rfl dX8_takeOff_88 (fun H locs hB => ?_)
          rw [← hQ]
          exact end_v hX hB hA3 rfl (by obtain ⟨rfl, rfl, rfl, rfl⟩ := pr4 hR; exact ⟨rfl, Or.inr rfl, fun _ => ⟨by assumption, tk_b1 (by omega) (by omega)⟩, (fun _ => Or.inr (hf7 rfl)), rfl⟩) (Nat.le_of_ble_eq_true rfl) (Nat.le_of_ble_eq_true rfl) dX8_takeOff_91
        · replace hR := ifn (by decide) hR
          refine W.eq (g2 := F0 m 80 ls [.int 1, .ref s_0]) rfl ?_
          refine lv_if_eq (tgt := 87) hx hb dX8_takeOff_80 (by decide) (fun c14 => False.elim (by revert c14; decide)) (fun _ => ?_)
          refine lv_iconst (v := 1) hx hb dX8_takeOff_83 (by decide) ?_
          refine lv_goto (tgt := 88) hx hb dX8_takeOff_84 (by decide) ?_
          refine pf (ty := .boolean) (k0 := 4) hX hB rfl rfl in8 tyX8_ok nmX8 3 (by decide) wm_6_165 rfl rfl rfl rfl rfl (Nat.le_of_ble_eq_true rfl) (w1 := lA κ b_c (R * 5) (ar R i r (-(fdv (f2 (i * 5 + c0)) (f2 (r * 5 + c0)))) f1) :: gO g_c R R b_c :: lA κ b_w (R * 5) (ar C i r (-(fdv (f2 (i * 5 + c0)) (f2 (r * 5 + c0)))) f2) :: gO g_w R C b_w :: (s_0, .inr (9, [.ref g_w, .ref g_c, .int i1, .int 1])) :: w) rfl dX8_takeOff_88 (fun H locs hB => ?_)
          rw [← hQ]
          exact end_v hX hB hA3 rfl (by obtain ⟨rfl, rfl, rfl, rfl⟩ := pr4 hR; exact ⟨rfl, Or.inr rfl, fun h => absurd h (by decide), (fun h => absurd h (by decide)), rfl⟩) (Nat.le_of_ble_eq_true rfl) (Nat.le_of_ble_eq_true rfl) dX8_takeOff_91
      · replace hR := ifn (by decide) hR
        refine W.eq (g2 := F0 m 70 ls [.int 1, .ref s_0]) rfl ?_
        refine lv_if_ne (tgt := 83) hx hb dX8_takeOff_70 (by decide) (fun _ => ?_) (fun c15 => False.elim (by revert c15; decide))
        refine lv_iconst (v := 1) hx hb dX8_takeOff_83 (by decide) ?_
        refine lv_goto (tgt := 88) hx hb dX8_takeOff_84 (by decide) ?_
        refine pf (ty := .boolean) (k0 := 4) hX hB rfl rfl in8 tyX8_ok nmX8 3 (by decide) wm_6_165 rfl rfl rfl rfl rfl (Nat.le_of_ble_eq_true rfl) (w1 := lA κ b_c (R * 5) (ar R i r (-(fdv (f2 (i * 5 + c0)) (f2 (r * 5 + c0)))) f1) :: gO g_c R R b_c :: lA κ b_w (R * 5) (ar C i r (-(fdv (f2 (i * 5 + c0)) (f2 (r * 5 + c0)))) f2) :: gO g_w R C b_w :: (s_0, .inr (9, [.ref g_w, .ref g_c, .int i1, .int 1])) :: w) rfl dX8_takeOff_88 (fun H locs hB => ?_)
        rw [← hQ]
        exact end_v hX hB hA3 rfl (by obtain ⟨rfl, rfl, rfl, rfl⟩ := pr4 hR; exact ⟨rfl, Or.inr rfl, fun h => absurd h (by decide), (fun h => absurd h (by decide)), rfl⟩) (Nat.le_of_ble_eq_true rfl) (Nat.le_of_ble_eq_true rfl) dX8_takeOff_91
    · replace hR := ifn c3 hR
      rw [← hQ]
      exact end_v hX hB hA3 rfl (by obtain ⟨rfl, rfl, rfl, rfl⟩ := pr4 hR; exact ⟨rfl, Or.inl rfl, tk_b0 (by first | exact Or.inl (by assumption) | exact Or.inr (by assumption)), (fun _ => Or.inl rfl), rfl⟩) (Nat.le_of_ble_eq_true rfl) (Nat.le_of_ble_eq_true rfl) dX8_takeOff_37

def PM (R r c0 N : Nat) (F : Nat → Int64) : Prop := (∀ i, r ≤ i → i < R → F (i * 5 + c0) = 0) ∨ ∃ i, r ≤ i ∧ i < R ∧ F (i * 5 + c0) ≠ 0 ∧ na (F (i * 5 + c0)) ≤ N
theorem PM_ex (R r c0 : Nat) (F : Nat → Int64) (hc : c0 < 5) (hng : ∀ k, k < R * 5 → ng (F k)) : ∃ N, N ≤ 1000000000 ∧ PM R r c0 N F := by
  by_cases h : ∀ i, r ≤ i → i < R → F (i * 5 + c0) = 0
  · exact ⟨0, Nat.zero_le _, Or.inl h⟩
  · have ⟨i, hi⟩ := Classical.not_forall.mp h
    have ⟨h1, h2⟩ := Classical.not_imp.mp hi
    have ⟨h3, h4⟩ := Classical.not_imp.mp h2
    have h5 := ng_int (hng (i * 5 + c0) (by omega))
    exact ⟨na (F (i * 5 + c0)), by unfold na; omega, Or.inr ⟨i, h1, h3, h4, Nat.le_refl _⟩⟩
/-- the least so far in a column, from row r to row y -/
def LPr (R r c0 : Nat) (F : Nat → Int64) (y : Nat) (x : Int32) : Prop := (x = -1 ∧ ∀ i, r ≤ i → i < y → F (i * 5 + c0) = 0) ∨ ∃ m, x = nI m ∧ r ≤ m ∧ m < R ∧ F (m * 5 + c0) ≠ 0 ∧ ∀ i, r ≤ i → i < y → F (i * 5 + c0) ≠ 0 → na (F (m * 5 + c0)) ≤ na (F (i * 5 + c0))
section LPS
variable {R r c0 y : Nat} {F : Nat → Int64} {x : Int32} {t1 t2 : Int64}
theorem LPr_0 : LPr R r c0 F r (-1) := Or.inl ⟨rfl, fun i h1 h2 => absurd h2 (by omega)⟩
theorem LPr_m (h : LPr R r c0 F y x) (hR : R ≤ 4) (hx : ¬ x < 0) : 0 ≤ x ∧ x.toNatClampNeg < R := by
  rcases h with ⟨rfl, _⟩ | ⟨m, rfl, _, h2, _⟩
  · exact absurd (by decide) hx
  · exact ⟨nI_pos' (by omega), by rw [nI_clamp (by omega)]; exact h2⟩
theorem LPr_z (h : LPr R r c0 F y x) (c : lg_cmp (F (y * 5 + c0)) 0 = 0) : LPr R r c0 F (y + 1) x := by
  have c := lg0.mp c
  rcases h with ⟨rfl, h⟩ | ⟨m, rfl, h1, h2, h3, h4⟩
  · refine Or.inl ⟨rfl, fun i a b => ?_⟩
    by_cases e : i = y
    · rw [e]; exact c
    · exact h i a (by omega)
  · refine Or.inr ⟨m, rfl, h1, h2, h3, fun i a b hn => ?_⟩
    by_cases e : i = y
    · rw [e] at hn; exact absurd c hn
    · exact h4 i a (by omega) hn
theorem LPr_n1 (h : LPr R r c0 F y x) (hR : R ≤ 4) (hy : r ≤ y) (hyR : y < R) (c : ¬ lg_cmp (F (y * 5 + c0)) 0 = 0) (hx : x < 0) : LPr R r c0 F (y + 1) (nI y) := by
  have c : ¬ F (y * 5 + c0) = 0 := fun e => c (lg0.mpr e)
  rcases h with ⟨rfl, h⟩ | ⟨m, rfl, h1, h2, h3, h4⟩
  · refine Or.inr ⟨y, rfl, hy, hyR, c, fun i a b hn => ?_⟩
    by_cases e : i = y
    · rw [e]; exact Nat.le_refl _
    · exact absurd (h i a (by omega)) hn
  · exact absurd hx (nI_pos (by omega))
theorem LPr_n2 (h : LPr R r c0 F y x) (hc : c0 < 5) (hng : ∀ k, k < R * 5 → ng (F k)) (hR : R ≤ 4) (hy : r ≤ y) (hyR : y < R) (c : ¬ lg_cmp (F (y * 5 + c0)) 0 = 0) (hx : ¬ x < 0) (e1 : t1 = ab (F (y * 5 + c0))) (e2 : t2 = ab (F (x.toNatClampNeg * 5 + c0))) (d : ¬ 0 ≤ lg_cmp t1 t2) : LPr R r c0 F (y + 1) (nI y) := by
  have c : ¬ F (y * 5 + c0) = 0 := fun e => c (lg0.mpr e)
  rcases h with ⟨rfl, h⟩ | ⟨m, rfl, h1, h2, h3, h4⟩
  · exact absurd (by decide) hx
  · rw [nI_clamp (by omega)] at e2
    subst e1; subst e2
    have d := (ab_lt (hng _ (by omega)) (hng _ (by omega))).mp (Int32.not_le.mp d)
    refine Or.inr ⟨y, rfl, hy, hyR, c, fun i a b hn => ?_⟩
    by_cases e : i = y
    · rw [e]; exact Nat.le_refl _
    · exact Nat.le_trans (Nat.le_of_lt d) (h4 i a (by omega) hn)
theorem LPr_k (h : LPr R r c0 F y x) (hc : c0 < 5) (hng : ∀ k, k < R * 5 → ng (F k)) (hR : R ≤ 4) (hyR : y < R) (hx : ¬ x < 0) (e1 : t1 = ab (F (y * 5 + c0))) (e2 : t2 = ab (F (x.toNatClampNeg * 5 + c0))) (d : 0 ≤ lg_cmp t1 t2) : LPr R r c0 F (y + 1) x := by
  rcases h with ⟨rfl, h⟩ | ⟨m, rfl, h1, h2, h3, h4⟩
  · exact absurd (by decide) hx
  · rw [nI_clamp (by omega)] at e2
    subst e1; subst e2
    have d : ¬ na (F (y * 5 + c0)) < na (F (m * 5 + c0)) := fun z => Int32.not_lt.mpr d ((ab_lt (hng _ (by omega)) (hng _ (by omega))).mpr z)
    refine Or.inr ⟨m, rfl, h1, h2, h3, fun i a b hn => ?_⟩
    by_cases e : i = y
    · rw [e]; omega
    · exact h4 i a (by omega) hn
theorem PM_m {N m : Nat} (h : PM R r c0 N F) (h2 : r ≤ m ∧ m < R) (h3 : F (m * 5 + c0) ≠ 0) (h4 : ∀ i, r ≤ i → i < R → F (i * 5 + c0) ≠ 0 → na (F (m * 5 + c0)) ≤ na (F (i * 5 + c0))) : na (F (m * 5 + c0)) ≤ N := by
  rcases h with h | ⟨i, a1, a2, a3, a4⟩
  · exact absurd (h m h2.1 h2.2) h3
  · exact Nat.le_trans (h4 i a1 a2 a3) a4
end LPS
theorem ng_neg {x : Int64} (h : ng x) : ng (-x) := by
  have h1 := ng_int h
  have h2 := neg_int h
  refine ⟨Int64.le_iff_toInt_le.mpr ?_, Int64.le_iff_toInt_le.mpr ?_⟩
  · show (-1000000000 : Int) ≤ _
    omega
  · show _ ≤ (1000000000 : Int)
    omega
theorem ng_xr {R C i j : Nat} {f : Nat → Int64} (hi : i < R) (hj : j < R) (h : ∀ k, k < R * 5 → ng (f k)) : ∀ k, k < R * 5 → ng (xr C i j f k) := by
  intro k hk
  unfold xr
  split
  · exact h _ (by omega)
  · split
    · exact h _ (by omega)
    · exact h k hk
theorem ng_tr {R C i : Nat} {f : Nat → Int64} (h : ∀ k, k < R * 5 → ng (f k)) : ∀ k, k < R * 5 → ng (tr C i f k) := by
  intro k hk
  unfold tr
  split
  · exact ng_neg (h _ hk)
  · exact h k hk
/-- the loop over passes -/
def HI (R C r c0 : Nat) (f2 : Nat → Int64) (N : Nat) (M : Int32) (F : Nat → Int64) (G : Int32) : Prop := RS R C r f2 F ∧ (G = 0 → ∀ k, k < R * 5 → ng (F k)) ∧ (¬ M = 0 → G = 0 → PM R r c0 N F) ∧ (M = 0 ∨ ¬ G = 0 → F (r * 5 + c0) ≠ 0) ∧ (M = 0 → G = 0 → ∀ i, r < i → i < R → F (i * 5 + c0) = 0)
/-- the loop over the rows below -/
def KI (R C r c0 : Nat) (F0 : Nat → Int64) (i : Nat) (M : Int32) (F : Nat → Int64) (G : Int32) : Prop := RS R C r F0 F ∧ (G = 0 → ∀ k, k < R * 5 → ng (F k)) ∧ F (r * 5 + c0) = F0 (r * 5 + c0) ∧ (G = 0 → ∀ a, r < a → a < i → 0 ≤ (F (a * 5 + c0)).toInt ∧ (F (a * 5 + c0)).toInt < (F0 (r * 5 + c0)).toInt) ∧ (M = 0 → G = 0 → ∀ a, r < a → a < i → F (a * 5 + c0) = 0) ∧ (¬ M = 0 → G = 0 → ∃ a, r < a ∧ a < i ∧ F (a * 5 + c0) ≠ 0)
/-- the loop over the rows above -/
def LI (R C r c0 : Nat) (F0 : Nat → Int64) (G0 : Int32) (F : Nat → Int64) (G : Int32) : Prop := RS R C r F0 F ∧ (G = 0 → ∀ k, k < R * 5 → ng (F k)) ∧ (∀ a, r ≤ a → F (a * 5 + c0) = F0 (a * 5 + c0)) ∧ (G = 0 → G0 = 0)
/-- what isCleared says -/
def CI (R C r c0 : Nat) (f2 F : Nat → Int64) (G x : Int32) : Prop := RS R C r f2 F ∧ (G = 0 → ∀ k, k < R * 5 → ng (F k)) ∧ (x = 1 → F (r * 5 + c0) ≠ 0 ∧ (G = 0 → ∀ i, r < i → i < R → F (i * 5 + c0) = 0)) ∧ (x = 0 → ∀ i, r ≤ i → i < R → F (i * 5 + c0) = 0)
section CIS
variable {R C r c0 N i m : Nat} {f2 F0 F F1 : Nat → Int64} {M G G0 G1 : Int32}
theorem HI_0 (hG : G = 0) (hng : ∀ k, k < R * 5 → ng (f2 k)) (h : PM R r c0 N f2) : HI R C r c0 f2 N 1 f2 G := ⟨RS.rf, fun _ => hng, fun _ _ => h, fun z => z.elim (fun z => absurd z (by decide)) (fun z => absurd hG z), fun z => absurd z (by decide)⟩
theorem HI_e0 (h : HI R C r c0 f2 N M F G) (hM : M = 0) : RS R C r f2 F ∧ (G = 0 → ∀ k, k < R * 5 → ng (F k)) ∧ F (r * 5 + c0) ≠ 0 ∧ (G = 0 → ∀ i, r < i → i < R → F (i * 5 + c0) = 0) := ⟨h.1, h.2.1, h.2.2.2.1 (Or.inl hM), h.2.2.2.2 hM⟩
theorem HI_e1 (h : HI R C r c0 f2 N M F G) (hG : ¬ G = 0) : RS R C r f2 F ∧ (G = 0 → ∀ k, k < R * 5 → ng (F k)) ∧ F (r * 5 + c0) ≠ 0 ∧ (G = 0 → ∀ i, r < i → i < R → F (i * 5 + c0) = 0) := ⟨h.1, h.2.1, h.2.2.2.1 (Or.inr hG), fun z => absurd z hG⟩
theorem KI_0 (hG : G = 0) (hng : ∀ k, k < R * 5 → ng (F0 k)) : KI R C r c0 F0 (r + 1) 0 F0 G := ⟨RS.rf, fun _ => hng, rfl, fun _ a h1 h2 => absurd h2 (by omega), fun _ _ a h1 h2 => absurd h2 (by omega), fun z => absurd rfl z⟩
theorem KI_pv (h : KI R C r c0 F0 i M F G) (hp : 0 < (F0 (r * 5 + c0)).toInt) : F (r * 5 + c0) ≠ 0 := by
  rw [h.2.2.1]
  intro e
  rw [e] at hp
  exact absurd hp (by decide)
theorem or1 (x : Int32) : ¬ x ||| 1 = 0 := by
  intro h
  have h1 := congrArg (fun z => z.toBitVec.getLsbD 0) h
  simp [Int32.toBitVec_or] at h1
theorem KI_s (hC : C ≤ 5) (hc : c0 < C) (hR : 1 ≤ R ∧ R ≤ 4) (hrC : r ≤ C) (hr : r < R) (hi : r + 1 ≤ i) (hiR : i < R) (hp : 0 < (F0 (r * 5 + c0)).toInt) (h : KI R C r c0 F0 i M F G)
    (hA : F1 = F ∨ F1 = ar C i r (-(fdv (F (i * 5 + c0)) (F (r * 5 + c0)))) F) (hB : G1 = 0 → G = 0 ∧ F1 (i * 5 + c0) = rmf (F (i * 5 + c0)) (F (r * 5 + c0))) (hCn : G1 = 0 → F1 = F ∨ ∀ k, k < R * 5 → ng (F1 k)) {M1 : Int32} (hM : (F1 (i * 5 + c0) = 0 ∧ M1 = M) ∨ (F1 (i * 5 + c0) ≠ 0 ∧ ¬ M1 = 0)) : KI R C r c0 F0 (i + 1) M1 F1 G1 := by
  obtain ⟨h1, h2, h3, h4, h5, h6⟩ := h
  have ho : ∀ a, a ≠ i → F1 (a * 5 + c0) = F (a * 5 + c0) := fun a ha => by
    rcases hA with rfl | rfl
    · rfl
    · unfold ar
      rw [if_neg (by omega)]
  refine ⟨h1.trans ?_, fun hg => ?_, ?_, fun hg a a1 a2 => ?_, fun hm hg a a1 a2 => ?_, fun hm hg => ?_⟩
  · rcases hA with rfl | rfl
    · exact RS.rf
    · exact RS_ar hR hrC hC hiR ⟨Nat.le_refl _, hr⟩ (by omega)
  · rcases hCn hg with e | e
    · rw [e]; exact h2 (hB hg).1
    · exact e
  · rw [ho r (by omega)]; exact h3
  · by_cases e : a = i
    · subst e
      rw [(hB hg).2, h3]
      exact rmf_int hp
    · rw [ho a e]
      exact h4 (hB hg).1 a a1 (by omega)
  · rcases hM with ⟨hz, rfl⟩ | ⟨_, hm1⟩
    · by_cases e : a = i
      · rw [e]; exact hz
      · rw [ho a e]
        exact h5 hm (hB hg).1 a a1 (by omega)
    · exact absurd hm hm1
  · by_cases e : F1 (i * 5 + c0) = 0
    · rcases hM with ⟨_, rfl⟩ | ⟨hz, _⟩
      · obtain ⟨a, a1, a2, a3⟩ := h6 hm (hB hg).1
        exact ⟨a, a1, by omega, by rw [ho a (by omega)]; exact a3⟩
      · exact absurd e hz
    · exact ⟨i, by omega, by omega, e⟩
theorem KI_s0 (hC : C ≤ 5) (hc : c0 < C) (hR : 1 ≤ R ∧ R ≤ 4) (hrC : r ≤ C) (hr : r < R) (hi : r + 1 ≤ i) (hiR : i < R) (hp : 0 < (F0 (r * 5 + c0)).toInt) (h : KI R C r c0 F0 i M F G)
    (hA : F1 = F ∨ F1 = ar C i r (-(fdv (F (i * 5 + c0)) (F (r * 5 + c0)))) F) (hB : G1 = 0 → G = 0 ∧ F1 (i * 5 + c0) = rmf (F (i * 5 + c0)) (F (r * 5 + c0))) (hCn : G1 = 0 → F1 = F ∨ ∀ k, k < R * 5 → ng (F1 k)) (c : lg_cmp (F1 (i * 5 + c0)) 0 = 0) : KI R C r c0 F0 (i + 1) (M ||| 0) F1 G1 :=
  KI_s hC hc hR hrC hr hi hiR hp h hA hB hCn (Or.inl ⟨lg0.mp c, Int32.or_zero⟩)
theorem KI_s1 (hC : C ≤ 5) (hc : c0 < C) (hR : 1 ≤ R ∧ R ≤ 4) (hrC : r ≤ C) (hr : r < R) (hi : r + 1 ≤ i) (hiR : i < R) (hp : 0 < (F0 (r * 5 + c0)).toInt) (h : KI R C r c0 F0 i M F G)
    (hA : F1 = F ∨ F1 = ar C i r (-(fdv (F (i * 5 + c0)) (F (r * 5 + c0)))) F) (hB : G1 = 0 → G = 0 ∧ F1 (i * 5 + c0) = rmf (F (i * 5 + c0)) (F (r * 5 + c0))) (hCn : G1 = 0 → F1 = F ∨ ∀ k, k < R * 5 → ng (F1 k)) (c : ¬ lg_cmp (F1 (i * 5 + c0)) 0 = 0) : KI R C r c0 F0 (i + 1) (M ||| 1) F1 G1 :=
  KI_s hC hc hR hrC hr hi hiR hp h hA hB hCn (Or.inr ⟨fun e => c (lg0.mpr e), or1 M⟩)
theorem KI_H (h1 : RS R C r f2 F0) (hp : 0 < (F0 (r * 5 + c0)).toInt) (hN : na (F0 (r * 5 + c0)) ≤ N) (h : KI R C r c0 F0 i M F G) (hi : i = R) : HI R C r c0 f2 (N - 1) M F G := by
  obtain ⟨k1, k2, k3, k4, k5, k6⟩ := h
  refine ⟨h1.trans k1, k2, fun hM hG => ?_, fun _ => ?_, fun hM hG a a1 a2 => k5 hM hG a a1 (by omega)⟩
  · obtain ⟨a, a1, a2, a3⟩ := k6 hM hG
    refine Or.inr ⟨a, by omega, by omega, a3, ?_⟩
    have h5 := k4 hG a a1 a2
    unfold na at hN ⊢
    omega
  · rw [k3]
    intro e
    rw [e] at hp
    exact absurd hp (by decide)
theorem LI_0 (h : G0 = 0 → ∀ k, k < R * 5 → ng (F0 k)) : LI R C r c0 F0 G0 F0 G0 := ⟨RS.rf, h, fun _ _ => rfl, fun h => h⟩
theorem LI_s (hC : C ≤ 5) (hR : 1 ≤ R ∧ R ≤ 4) (hc : c0 < C) (hrC : r ≤ C) (hr : r < R) (hi : i < r) (h : LI R C r c0 F0 G0 F G)
    (hA : F1 = F ∨ F1 = ar C i r (-(fdv (F (i * 5 + c0)) (F (r * 5 + c0)))) F) (hB : G1 = 0 → G = 0 ∧ F1 (i * 5 + c0) = rmf (F (i * 5 + c0)) (F (r * 5 + c0))) (hCn : G1 = 0 → F1 = F ∨ ∀ k, k < R * 5 → ng (F1 k)) : LI R C r c0 F0 G0 F1 G1 := by
  obtain ⟨h1, h2, h3, h4⟩ := h
  refine ⟨h1.trans ?_, fun hg => ?_, fun a ha => ?_, fun hg => h4 (hB hg).1⟩
  · rcases hA with rfl | rfl
    · exact RS.rf
    · exact RS_ar hR hrC hC (by omega) ⟨Nat.le_refl _, hr⟩ (by omega)
  · rcases hCn hg with e | e
    · rw [e]; exact h2 (hB hg).1
    · exact e
  · rw [← h3 a ha]
    rcases hA with rfl | rfl
    · rfl
    · unfold ar
      rw [if_neg (by omega)]
theorem LI_C (hE : RS R C r f2 F0 ∧ (G0 = 0 → ∀ k, k < R * 5 → ng (F0 k)) ∧ F0 (r * 5 + c0) ≠ 0 ∧ (G0 = 0 → ∀ i, r < i → i < R → F0 (i * 5 + c0) = 0)) (h : LI R C r c0 F0 G0 F G) : CI R C r c0 f2 F G 1 :=
  ⟨hE.1.trans h.1, h.2.1, fun _ => ⟨by rw [h.2.2.1 r (Nat.le_refl _)]; exact hE.2.2.1, fun hg a a1 a2 => by rw [h.2.2.1 a (by omega)]; exact hE.2.2.2 (h.2.2.2 hg) a a1 a2⟩, fun z => absurd z (by decide)⟩
theorem pos_of {x : Int64} (h : 0 ≤ lg_cmp x 0) (hn : x ≠ 0) : 0 < x.toInt := by
  have h1 := Int64.le_iff_toInt_le.mp ((lg_cmp_ge _ _).mp h)
  have h2 : x.toInt ≠ 0 := fun e => hn (Int64.toInt_inj.mp e)
  rw [show (0 : Int64).toInt = 0 from rfl] at h1
  omega
theorem pos_neg {x : Int64} (hg : ng x) (h : ¬ 0 ≤ lg_cmp x 0) : 0 < (-x).toInt := by
  have h1 : ¬ 0 ≤ x.toInt := fun z => h ((lg_cmp_ge _ _).mpr (Int64.le_iff_toInt_le.mpr z))
  rw [neg_int hg]
  omega
theorem na_neg {x : Int64} (hg : ng x) : na (-x) = na x := by
  unfold na
  rw [neg_int hg]
  omega
theorem tr_r (hc : c0 < C) (hC : C ≤ 5) : tr C r F (r * 5 + c0) = -F (r * 5 + c0) := by
  unfold tr
  rw [if_pos (by omega)]
theorem xr_r (hc : c0 < C) (hC : C ≤ 5) : xr C m r F (r * 5 + c0) = F (m * 5 + c0) := by
  unfold xr
  by_cases e : (r * 5 + c0) % 5 < C ∧ (r * 5 + c0) / 5 = m
  · rw [if_pos e]
    congr 1
    omega
  · rw [if_neg e, if_pos (by omega), show (r * 5 + c0) % 5 = c0 by omega]
end CIS

noncomputable def D_X8_least_5 (R : Nat) (f2 : Nat → Int64) (c0 : Nat) (nn : Nat) : Nat → Int32 → Int32 := @Nat.rec (fun _ => Nat → Int32 → Int32) (fun _ _ => default) (fun _ lb5 (y4_5 : Nat) (y3_5 : Int32) => (if R ≤ y4_5 then y3_5 else (if (lg_cmp (f2 (y4_5 * 5 + c0)) 0) = 0 then (lb5 (y4_5 + 1) y3_5) else (if y3_5 < 0 then (lb5 (y4_5 + 1) (nI y4_5)) else nm ((if 0 < (f2 (y4_5 * 5 + c0)) then (f2 (y4_5 * 5 + c0)) else -(f2 (y4_5 * 5 + c0))) : Int64) (fun (t13 : Int64) => nm ((if 0 < (f2 (((y3_5).toNatClampNeg) * 5 + c0)) then (f2 (((y3_5).toNatClampNeg) * 5 + c0)) else -(f2 (((y3_5).toNatClampNeg) * 5 + c0))) : Int64) (fun (t14 : Int64) => (if 0 ≤ (lg_cmp t13 t14) then (lb5 (y4_5 + 1) y3_5) else (lb5 (y4_5 + 1) (nI y4_5))))))))) nn
theorem D_X8_least_5_s {R : Nat} {f2 : Nat → Int64} {c0 : Nat} {nn : Nat} {y4_5 : Nat} {y3_5 : Int32} : D_X8_least_5 R f2 c0 (nn + 1) y4_5 y3_5 = (if R ≤ y4_5 then y3_5 else (if (lg_cmp (f2 (y4_5 * 5 + c0)) 0) = 0 then ((D_X8_least_5 R f2 c0 nn) (y4_5 + 1) y3_5) else (if y3_5 < 0 then ((D_X8_least_5 R f2 c0 nn) (y4_5 + 1) (nI y4_5)) else nm ((if 0 < (f2 (y4_5 * 5 + c0)) then (f2 (y4_5 * 5 + c0)) else -(f2 (y4_5 * 5 + c0))) : Int64) (fun (t13 : Int64) => nm ((if 0 < (f2 (((y3_5).toNatClampNeg) * 5 + c0)) then (f2 (((y3_5).toNatClampNeg) * 5 + c0)) else -(f2 (((y3_5).toNatClampNeg) * 5 + c0))) : Int64) (fun (t14 : Int64) => (if 0 ≤ (lg_cmp t13 t14) then ((D_X8_least_5 R f2 c0 nn) (y4_5 + 1) y3_5) else ((D_X8_least_5 R f2 c0 nn) (y4_5 + 1) (nI y4_5)))))))) := rfl
noncomputable def D_X8_least (R : Nat) (C : Nat) (f1 : Nat → Int64) (f2 : Nat → Int64) (i1 : Int32) (i2 : Int32) (r : Nat) (c0 : Nat) : Int32 := (D_X8_least_5 R f2 c0 (R + 1 - r + 1) r (-1))
theorem D_X8_least_s {R : Nat} {C : Nat} {f1 : Nat → Int64} {f2 : Nat → Int64} {i1 : Int32} {i2 : Int32} {r : Nat} {c0 : Nat} : D_X8_least R C f1 f2 i1 i2 r c0 = (D_X8_least_5 R f2 c0 (R + 1 - r + 1) r (-1)) := rfl
set_option maxHeartbeats 4000000 in
set_option maxRecDepth 100000 in
theorem k_X8_least (κ : Kt) (l : Launch) (w : va_W) (s_0 g_c b_c g_w b_w R C : Nat) (f1 f2 : Nat → Int64) (i1 i2 : Int32) (xr : Int32) (r : Nat) (xc0 : Int32) (c0 : Nat) (hs : shp R C) (hxr : xr = nI r) (hxc0 : xc0 = nI c0) (hr : r < R) (hc0 : c0 < C) (hng : ∀ k, k < R * 5 → ng (f2 k)) (o_x : Int32) (hR : D_X8_least R C f1 f2 i1 i2 r c0 = o_x) : CM κ l yX8_least cX8_least 5 (some .int) 1 22 0 0 [.ref s_0, .int xr, .int xc0] (lA κ b_c (R * 5) f1 :: gO g_c R R b_c :: lA κ b_w (R * 5) f2 :: gO g_w R C b_w :: (s_0, .inr (9, [.ref g_w, .ref g_c, .int i1, .int i2])) :: w) (fun o w' => o = some (.int o_x) ∧ (LPr R r c0 f2 R o_x) ∧ w' = lA κ b_c (R * 5) f1 :: gO g_c R R b_c :: lA κ b_w (R * 5) f2 :: gO g_w R C b_w :: (s_0, .inr (9, [.ref g_w, .ref g_c, .int i1, .int i2])) :: w) := by
  have hs0 := hs
  obtain ⟨hs1, hs2, hs3, hs4⟩ := hs0
  subst hxr
  subst hxc0
  refine CM_begin (plainFor_of_name (by decide)) (Nat.le_of_ble_eq_true rfl) ?_
  intro p e s m args below meth c A Q hX hnm hA3 hQ hB ls hl
  have hx := hX.1.1
  have hb := hX.1.2.1
  have hl : lv_has ls 5 [(0, .ref s_0), (1, .int (nI r)), (2, .int (nI c0))] := hl
  replace hR := (D_X8_least_s).symm.trans hR
  refine lv_iconst (v := (-1)) hx hb dX8_least_0 (by decide) ?_
  refine lv_istore_n (lv' := [(3, .int (-1)), (0, .ref s_0), (1, .int (nI r)), (2, .int (nI c0))]) hx hb dX8_least_1 rfl hl (by decide) rfl (fun ls hl => ?_)
  refine lv_iload_n hx hb dX8_least_2 rfl (lv_at hl 2 rfl) ?_
  refine lv_istore (lv' := [(4, .int (nI r)), (3, .int (-1)), (0, .ref s_0), (1, .int (nI r)), (2, .int (nI c0))]) hx hb dX8_least_3 hl (by decide) rfl (fun ls hl => ?_)
  have lp5 : ∀ (nn5 : Nat) (y4_5 : Nat) (y3_5 : Int32) (H : Heap) (locs : List Loc), (y4_5 ≤ R) → (r ≤ y4_5) → (LPr R r c0 f2 y4_5 y3_5) → R + 1 - y4_5 < nn5 → D_X8_least_5 R f2 c0 nn5 y4_5 y3_5 = o_x → Bd κ A s (lA κ b_c (R * 5) f1 :: gO g_c R R b_c :: lA κ b_w (R * 5) f2 :: gO g_w R C b_w :: (s_0, .inr (9, [.ref g_w, .ref g_c, .int i1, .int i2])) :: w) H locs → ∀ ls : Array Slot, lv_has ls 5 [(4, .int (nI y4_5)), (3, .int y3_5), (0, .ref s_0), (1, .int (nI r)), (2, .int (nI c0))] → W p l e (Rm 1 22 0 0) s m args below meth c H locs (0) (0) Q (F0 m 5 ls []) := by
    intro nn5
    induction nn5 with
    | zero => intro y4_5 y3_5 H locs hn4_5 hlo_5 hv_5 hμ; exact absurd hμ (Nat.not_lt_zero _)
    | succ nn5 ih5 =>
      intro y4_5 y3_5 H locs hn4_5 hlo_5 hv_5 hμ5 hR hB ls hl
      replace hR := (D_X8_least_5_s).symm.trans hR
      refine lv_iload hx hb dX8_least_5 (lv_at hl 0 rfl) ?_
      refine lv_aload_n hx hb dX8_least_7 rfl (lv_at hl 2 rfl) ?_
      refine gf (k0 := 4) hX hB rfl rfl in8 0 (by decide) wm_6_159 rfl rfl dX8_least_8 ?_
      refine gf (k0 := 3) hX hB rfl rfl in7 0 (by decide) wm_5_146 rfl rfl dX8_least_11 ?_
      refine lv_icmp_ge (tgt := 74) hx hb dX8_least_14 (by decide) (fun c10 => ?_) (fun c10 => ?_)
      · rw [nleP (a := R) (b := y4_5) (by omega) (by omega)] at c10
        replace hR := ifp c10 hR
        refine lv_iload_n hx hb dX8_least_74 rfl (lv_at hl 1 rfl) ?_
        rw [← hQ]
        exact end_i hX hB hA3 rfl rfl (by obtain rfl := hR; exact ⟨rfl, (show LPr R r c0 f2 R y3_5 from (show y4_5 = R by omega) ▸ hv_5), rfl⟩) (Nat.le_of_ble_eq_true rfl) (Nat.le_of_ble_eq_true rfl) dX8_least_75
      · rw [nleP (a := R) (b := y4_5) (by omega) (by omega)] at c10
        replace hR := ifn c10 hR
        refine lv_aload_n hx hb dX8_least_17 rfl (lv_at hl 2 rfl) ?_
        refine gf (k0 := 4) hX hB rfl rfl in8 0 (by decide) wm_6_159 rfl rfl dX8_least_18 ?_
        refine lv_iload hx hb dX8_least_21 (lv_at hl 0 rfl) ?_
        refine lv_iload_n hx hb dX8_least_23 rfl (lv_at hl 4 rfl) ?_
        refine call_V (n := 2) (k0 := 3) (As := [.int (nI y4_5), .int (nI c0)]) (rest := []) hX hB (k_X7_at κ l (lA κ b_c (R * 5) f1 :: gO g_c R R b_c :: lA κ b_w (R * 5) f2 :: gO g_w R C b_w :: (s_0, .inr (9, [.ref g_w, .ref g_c, .int i1, .int i2])) :: w) 3 2 g_w b_w R C f2 (nI y4_5) y4_5 (nI c0) c0 rfl rfl hs rfl rfl (by omega)) ⟨rfl, by decide, by decide, by decide +kernel⟩ wm_6_143 wm_5_238 wm_5_239 wm_1_7 wm_6_0 ⟨Nat.le_of_ble_eq_true rfl, Nat.le_of_ble_eq_true rfl⟩ ⟨Nat.le_of_ble_eq_true rfl, Nat.le_of_ble_eq_true rfl⟩ rfl rfl rfl rfl hl.1 rfl (Nat.le_of_ble_eq_true rfl) dX8_least_24 (fun o w' H locs hp hB => ?_)
        obtain ⟨rfl, hw9⟩ := hp
        replace hB : Bd κ A s (lA κ b_c (R * 5) f1 :: gO g_c R R b_c :: lA κ b_w (R * 5) f2 :: gO g_w R C b_w :: (s_0, .inr (9, [.ref g_w, .ref g_c, .int i1, .int i2])) :: w) H locs := by rw [hw9] at hB; exact hB
        refine W.eq (g2 := F0 m 27 ls [.long (f2 (y4_5 * 5 + c0))]) rfl ?_
        refine lv_lconst (v := 0) hx hb dX8_least_27 (by decide) ?_
        refine W.lcmp hx hb dX8_least_28 ?_
        refine lv_if_eq (tgt := 68) hx hb dX8_least_29 (by decide) (fun c11 => ?_) (fun c11 => ?_)
        · replace hR := ifp c11 hR
          refine lv_iinc (v := nI (y4_5 + 1)) (lv' := [(4, .int (nI (y4_5 + 1))), (3, .int y3_5), (0, .ref s_0), (1, .int (nI r)), (2, .int (nI c0))]) hx hb dX8_least_68 hl (k := 0) rfl (nI_add y4_5 1) (by decide) rfl (fun ls hl => ?_)
          refine lv_goto (tgt := 5) hx hb dX8_least_71 (by decide) ?_
          exact ih5 (y4_5 + 1) y3_5 _ _ (by omega) (by omega) (by first | exact LPr_z hv_5 (by assumption) | exact LPr_n1 hv_5 hs2 (by omega) (by omega) (by assumption) (by assumption) | exact LPr_n2 hv_5 (by omega) hng hs2 (by omega) (by omega) (by assumption) (by assumption) (by assumption) (by assumption) (by assumption) | exact LPr_k hv_5 (by omega) hng hs2 (by omega) (by assumption) (by assumption) (by assumption) (by assumption)) (by omega) hR hB _ hl
        · replace hR := ifn c11 hR
          refine lv_iload_n hx hb dX8_least_32 rfl (lv_at hl 1 rfl) ?_
          refine lv_if_lt (tgt := 65) hx hb dX8_least_33 (by decide) (fun c12 => ?_) (fun c12 => ?_)
          · replace hR := ifp c12 hR
            refine lv_iload hx hb dX8_least_65 (lv_at hl 0 rfl) ?_
            refine lv_istore_n (lv' := [(3, .int (nI y4_5)), (4, .int (nI y4_5)), (0, .ref s_0), (1, .int (nI r)), (2, .int (nI c0))]) hx hb dX8_least_67 rfl hl (by decide) rfl (fun ls hl => ?_)
            refine lv_iinc (v := nI (y4_5 + 1)) (lv' := [(4, .int (nI (y4_5 + 1))), (3, .int (nI y4_5)), (0, .ref s_0), (1, .int (nI r)), (2, .int (nI c0))]) hx hb dX8_least_68 hl (k := 1) rfl (nI_add y4_5 1) (by decide) rfl (fun ls hl => ?_)
            refine lv_goto (tgt := 5) hx hb dX8_least_71 (by decide) ?_
            exact ih5 (y4_5 + 1) (nI y4_5) _ _ (by omega) (by omega) (by first | exact LPr_z hv_5 (by assumption) | exact LPr_n1 hv_5 hs2 (by omega) (by omega) (by assumption) (by assumption) | exact LPr_n2 hv_5 (by omega) hng hs2 (by omega) (by omega) (by assumption) (by assumption) (by assumption) (by assumption) (by assumption) | exact LPr_k hv_5 (by omega) hng hs2 (by omega) (by assumption) (by assumption) (by assumption) (by assumption)) (by omega) hR hB _ hl
          · replace hR := ifn c12 hR
            obtain ⟨hmk0, hmk⟩ := LPr_m hv_5 hs2 c12
            refine lv_aload_n hx hb dX8_least_36 rfl (lv_at hl 2 rfl) ?_
            refine gf (k0 := 4) hX hB rfl rfl in8 0 (by decide) wm_6_159 rfl rfl dX8_least_37 ?_
            refine lv_iload hx hb dX8_least_40 (lv_at hl 0 rfl) ?_
            refine lv_iload_n hx hb dX8_least_42 rfl (lv_at hl 4 rfl) ?_
            refine call_V (n := 2) (k0 := 3) (As := [.int (nI y4_5), .int (nI c0)]) (rest := []) hX hB (k_X7_at κ l (lA κ b_c (R * 5) f1 :: gO g_c R R b_c :: lA κ b_w (R * 5) f2 :: gO g_w R C b_w :: (s_0, .inr (9, [.ref g_w, .ref g_c, .int i1, .int i2])) :: w) 3 2 g_w b_w R C f2 (nI y4_5) y4_5 (nI c0) c0 rfl rfl hs rfl rfl (by omega)) ⟨rfl, by decide, by decide, by decide +kernel⟩ wm_6_143 wm_5_238 wm_5_239 wm_1_7 wm_6_0 ⟨Nat.le_of_ble_eq_true rfl, Nat.le_of_ble_eq_true rfl⟩ ⟨Nat.le_of_ble_eq_true rfl, Nat.le_of_ble_eq_true rfl⟩ rfl rfl rfl rfl hl.1 rfl (Nat.le_of_ble_eq_true rfl) dX8_least_43 (fun o w' H locs hp hB => ?_)
            obtain ⟨rfl, hw9⟩ := hp
            replace hB : Bd κ A s (lA κ b_c (R * 5) f1 :: gO g_c R R b_c :: lA κ b_w (R * 5) f2 :: gO g_w R C b_w :: (s_0, .inr (9, [.ref g_w, .ref g_c, .int i1, .int i2])) :: w) H locs := by rw [hw9] at hB; exact hB
            refine W.eq (g2 := F0 m 46 ls [.long (f2 (y4_5 * 5 + c0))]) rfl ?_
            refine va_mabs_long hx hb (by rw [hX.1.2.2.1]; exact hl.1.symm) hX.1.2.2.2.1 (hX.1.2.2.2.2 _ wm_6_144) (hX.1.2.2.2.2 _ wm_1_237) (hX.1.2.2.2.2 _ wm_1_14) (hX.1.2.2.2.2 _ wm_1_238) (Nat.le_of_ble_eq_true rfl) (Nat.le_of_ble_eq_true rfl) (Nat.le_of_ble_eq_true rfl) (Nat.le_of_ble_eq_true rfl) dX8_least_46 ?_
            refine lv_topl (fun t13 et13 => ?_)
            replace hR := nm_use et13 hR
            refine lv_aload_n hx hb dX8_least_49 rfl (lv_at hl 2 rfl) ?_
            refine gf (k0 := 4) hX hB rfl rfl in8 0 (by decide) wm_6_159 rfl rfl dX8_least_50 ?_
            refine lv_iload_n hx hb dX8_least_53 rfl (lv_at hl 1 rfl) ?_
            refine lv_iload_n hx hb dX8_least_54 rfl (lv_at hl 4 rfl) ?_
            refine call_V (n := 2) (k0 := 3) (As := [.int y3_5, .int (nI c0)]) (rest := [.long t13]) hX hB (k_X7_at κ l (lA κ b_c (R * 5) f1 :: gO g_c R R b_c :: lA κ b_w (R * 5) f2 :: gO g_w R C b_w :: (s_0, .inr (9, [.ref g_w, .ref g_c, .int i1, .int i2])) :: w) 3 2 g_w b_w R C f2 y3_5 ((y3_5).toNatClampNeg) (nI c0) c0 rfl rfl hs (nI_rep (by assumption)) rfl (by omega)) ⟨rfl, by decide, by decide, by decide +kernel⟩ wm_6_143 wm_5_238 wm_5_239 wm_1_7 wm_6_0 ⟨Nat.le_of_ble_eq_true rfl, Nat.le_of_ble_eq_true rfl⟩ ⟨Nat.le_of_ble_eq_true rfl, Nat.le_of_ble_eq_true rfl⟩ rfl rfl rfl rfl hl.1 rfl (Nat.le_of_ble_eq_true rfl) dX8_least_55 (fun o w' H locs hp hB => ?_)
            obtain ⟨rfl, hw9⟩ := hp
            replace hB : Bd κ A s (lA κ b_c (R * 5) f1 :: gO g_c R R b_c :: lA κ b_w (R * 5) f2 :: gO g_w R C b_w :: (s_0, .inr (9, [.ref g_w, .ref g_c, .int i1, .int i2])) :: w) H locs := by rw [hw9] at hB; exact hB
            refine W.eq (g2 := F0 m 58 ls [.long (f2 (((y3_5).toNatClampNeg) * 5 + c0)), .long t13]) rfl ?_
            refine va_mabs_long hx hb (by rw [hX.1.2.2.1]; exact hl.1.symm) hX.1.2.2.2.1 (hX.1.2.2.2.2 _ wm_6_144) (hX.1.2.2.2.2 _ wm_1_237) (hX.1.2.2.2.2 _ wm_1_14) (hX.1.2.2.2.2 _ wm_1_238) (Nat.le_of_ble_eq_true rfl) (Nat.le_of_ble_eq_true rfl) (Nat.le_of_ble_eq_true rfl) (Nat.le_of_ble_eq_true rfl) dX8_least_58 ?_
            refine lv_topl (fun t14 et14 => ?_)
            replace hR := nm_use et14 hR
            refine W.lcmp hx hb dX8_least_61 ?_
            refine lv_if_ge (tgt := 68) hx hb dX8_least_62 (by decide) (fun c15 => ?_) (fun c15 => ?_)
            · replace hR := ifp c15 hR
              refine lv_iinc (v := nI (y4_5 + 1)) (lv' := [(4, .int (nI (y4_5 + 1))), (3, .int y3_5), (0, .ref s_0), (1, .int (nI r)), (2, .int (nI c0))]) hx hb dX8_least_68 hl (k := 0) rfl (nI_add y4_5 1) (by decide) rfl (fun ls hl => ?_)
              refine lv_goto (tgt := 5) hx hb dX8_least_71 (by decide) ?_
              exact ih5 (y4_5 + 1) y3_5 _ _ (by omega) (by omega) (by first | exact LPr_z hv_5 (by assumption) | exact LPr_n1 hv_5 hs2 (by omega) (by omega) (by assumption) (by assumption) | exact LPr_n2 hv_5 (by omega) hng hs2 (by omega) (by omega) (by assumption) (by assumption) (by assumption) (by assumption) (by assumption) | exact LPr_k hv_5 (by omega) hng hs2 (by omega) (by assumption) (by assumption) (by assumption) (by assumption)) (by omega) hR hB _ hl
            · replace hR := ifn c15 hR
              refine lv_iload hx hb dX8_least_65 (lv_at hl 0 rfl) ?_
              refine lv_istore_n (lv' := [(3, .int (nI y4_5)), (4, .int (nI y4_5)), (0, .ref s_0), (1, .int (nI r)), (2, .int (nI c0))]) hx hb dX8_least_67 rfl hl (by decide) rfl (fun ls hl => ?_)
              refine lv_iinc (v := nI (y4_5 + 1)) (lv' := [(4, .int (nI (y4_5 + 1))), (3, .int (nI y4_5)), (0, .ref s_0), (1, .int (nI r)), (2, .int (nI c0))]) hx hb dX8_least_68 hl (k := 1) rfl (nI_add y4_5 1) (by decide) rfl (fun ls hl => ?_)
              refine lv_goto (tgt := 5) hx hb dX8_least_71 (by decide) ?_
              exact ih5 (y4_5 + 1) (nI y4_5) _ _ (by omega) (by omega) (by first | exact LPr_z hv_5 (by assumption) | exact LPr_n1 hv_5 hs2 (by omega) (by omega) (by assumption) (by assumption) | exact LPr_n2 hv_5 (by omega) hng hs2 (by omega) (by omega) (by assumption) (by assumption) (by assumption) (by assumption) (by assumption) | exact LPr_k hv_5 (by omega) hng hs2 (by omega) (by assumption) (by assumption) (by assumption) (by assumption)) (by omega) hR hB _ hl
  exact lp5 _ r (-1) _ _ (by omega) (by omega) LPr_0 (Nat.lt_succ_self _) hR hB _ hl
noncomputable def D_X8_isCleared_164 (R : Nat) (C : Nat) (r : Nat) (c0 : Nat) (nn : Nat) : Nat → (Nat → Int64) → (Nat → Int64) → Int32 → Int32 → Int32 × (Nat → Int64) × (Nat → Int64) × Int32 × Int32 := @Nat.rec (fun _ => Nat → (Nat → Int64) → (Nat → Int64) → Int32 → Int32 → Int32 × (Nat → Int64) × (Nat → Int64) × Int32 × Int32) (fun _ _ _ _ _ => default) (fun _ lb164 (y4_164 : Nat) (f1_164 : Nat → Int64) (f2_164 : Nat → Int64) (i1_164 : Int32) (i2_164 : Int32) => (if r ≤ y4_164 then (1, f1_164, f2_164, i1_164, i2_164) else bnd4 (D_X8_takeOff R C f1_164 f2_164 i1_164 i2_164 y4_164 r c0) (fun (F184 : Nat → Int64) (F185 : Nat → Int64) (S186 : Int32) (G187 : Int32) => (lb164 (y4_164 + 1) F184 F185 S186 G187)))) nn
theorem D_X8_isCleared_164_s {R : Nat} {C : Nat} {r : Nat} {c0 : Nat} {nn : Nat} {y4_164 : Nat} {f1_164 : Nat → Int64} {f2_164 : Nat → Int64} {i1_164 : Int32} {i2_164 : Int32} : D_X8_isCleared_164 R C r c0 (nn + 1) y4_164 f1_164 f2_164 i1_164 i2_164 = (if r ≤ y4_164 then (1, f1_164, f2_164, i1_164, i2_164) else bnd4 (D_X8_takeOff R C f1_164 f2_164 i1_164 i2_164 y4_164 r c0) (fun (F184 : Nat → Int64) (F185 : Nat → Int64) (S186 : Int32) (G187 : Int32) => ((D_X8_isCleared_164 R C r c0 nn) (y4_164 + 1) F184 F185 S186 G187))) := rfl
noncomputable def D_X8_isCleared_164_1 (R : Nat) (C : Nat) (r : Nat) (c0 : Nat) (nn : Nat) : Nat → (Nat → Int64) → (Nat → Int64) → Int32 → Int32 → Int32 × (Nat → Int64) × (Nat → Int64) × Int32 × Int32 := @Nat.rec (fun _ => Nat → (Nat → Int64) → (Nat → Int64) → Int32 → Int32 → Int32 × (Nat → Int64) × (Nat → Int64) × Int32 × Int32) (fun _ _ _ _ _ => default) (fun _ lb164 (y4_164 : Nat) (f1_164 : Nat → Int64) (f2_164 : Nat → Int64) (i1_164 : Int32) (i2_164 : Int32) => (if r ≤ y4_164 then (1, f1_164, f2_164, i1_164, i2_164) else bnd4 (D_X8_takeOff R C f1_164 f2_164 i1_164 i2_164 y4_164 r c0) (fun (F212 : Nat → Int64) (F213 : Nat → Int64) (S214 : Int32) (G215 : Int32) => (lb164 (y4_164 + 1) F212 F213 S214 G215)))) nn
theorem D_X8_isCleared_164_1_s {R : Nat} {C : Nat} {r : Nat} {c0 : Nat} {nn : Nat} {y4_164 : Nat} {f1_164 : Nat → Int64} {f2_164 : Nat → Int64} {i1_164 : Int32} {i2_164 : Int32} : D_X8_isCleared_164_1 R C r c0 (nn + 1) y4_164 f1_164 f2_164 i1_164 i2_164 = (if r ≤ y4_164 then (1, f1_164, f2_164, i1_164, i2_164) else bnd4 (D_X8_takeOff R C f1_164 f2_164 i1_164 i2_164 y4_164 r c0) (fun (F212 : Nat → Int64) (F213 : Nat → Int64) (S214 : Int32) (G215 : Int32) => ((D_X8_isCleared_164_1 R C r c0 nn) (y4_164 + 1) F212 F213 S214 G215))) := rfl
noncomputable def D_X8_isCleared_109 (R : Nat) (C : Nat) (r : Nat) (c0 : Nat) (lb2 : Int32 → (Nat → Int64) → (Nat → Int64) → Int32 → Int32 → Int32 × (Nat → Int64) × (Nat → Int64) × Int32 × Int32) (nn : Nat) : Nat → Int32 → (Nat → Int64) → (Nat → Int64) → Int32 → Int32 → Int32 × (Nat → Int64) × (Nat → Int64) × Int32 × Int32 := @Nat.rec (fun _ => Nat → Int32 → (Nat → Int64) → (Nat → Int64) → Int32 → Int32 → Int32 × (Nat → Int64) × (Nat → Int64) × Int32 × Int32) (fun _ _ _ _ _ _ => default) (fun _ lb109 (y5_109 : Nat) (y3_109 : Int32) (f1_109 : Nat → Int64) (f2_109 : Nat → Int64) (i1_109 : Int32) (i2_109 : Int32) => (if R ≤ y5_109 then (lb2 y3_109 f1_109 f2_109 i1_109 i2_109) else bnd4 (D_X8_takeOff R C f1_109 f2_109 i1_109 i2_109 y5_109 r c0) (fun (F248 : Nat → Int64) (F249 : Nat → Int64) (S250 : Int32) (G251 : Int32) => (if (lg_cmp (F249 (y5_109 * 5 + c0)) 0) = 0 then (lb109 (y5_109 + 1) (y3_109 ||| 0) F248 F249 S250 G251) else (lb109 (y5_109 + 1) (y3_109 ||| 1) F248 F249 S250 G251))))) nn
theorem D_X8_isCleared_109_s {R : Nat} {C : Nat} {r : Nat} {c0 : Nat} {lb2 : Int32 → (Nat → Int64) → (Nat → Int64) → Int32 → Int32 → Int32 × (Nat → Int64) × (Nat → Int64) × Int32 × Int32} {nn : Nat} {y5_109 : Nat} {y3_109 : Int32} {f1_109 : Nat → Int64} {f2_109 : Nat → Int64} {i1_109 : Int32} {i2_109 : Int32} : D_X8_isCleared_109 R C r c0 lb2 (nn + 1) y5_109 y3_109 f1_109 f2_109 i1_109 i2_109 = (if R ≤ y5_109 then (lb2 y3_109 f1_109 f2_109 i1_109 i2_109) else bnd4 (D_X8_takeOff R C f1_109 f2_109 i1_109 i2_109 y5_109 r c0) (fun (F248 : Nat → Int64) (F249 : Nat → Int64) (S250 : Int32) (G251 : Int32) => (if (lg_cmp (F249 (y5_109 * 5 + c0)) 0) = 0 then ((D_X8_isCleared_109 R C r c0 lb2 nn) (y5_109 + 1) (y3_109 ||| 0) F248 F249 S250 G251) else ((D_X8_isCleared_109 R C r c0 lb2 nn) (y5_109 + 1) (y3_109 ||| 1) F248 F249 S250 G251)))) := rfl
noncomputable def D_X8_isCleared_j102 (R : Nat) (C : Nat) (r : Nat) (c0 : Nat) (lb2 : Int32 → (Nat → Int64) → (Nat → Int64) → Int32 → Int32 → Int32 × (Nat → Int64) × (Nat → Int64) × Int32 × Int32) (i2_2 : Int32) (f1_102 : Nat → Int64) (f2_102 : Nat → Int64) (i1_102 : Int32) : Int32 × (Nat → Int64) × (Nat → Int64) × Int32 × Int32 := (D_X8_isCleared_109 R C r c0 lb2 (R + 1 - (r + 1) + 1) (r + 1) 0 f1_102 f2_102 i1_102 i2_2)
theorem D_X8_isCleared_j102_s {R : Nat} {C : Nat} {r : Nat} {c0 : Nat} {lb2 : Int32 → (Nat → Int64) → (Nat → Int64) → Int32 → Int32 → Int32 × (Nat → Int64) × (Nat → Int64) × Int32 × Int32} {i2_2 : Int32} {f1_102 : Nat → Int64} {f2_102 : Nat → Int64} {i1_102 : Int32} : D_X8_isCleared_j102 R C r c0 lb2 i2_2 f1_102 f2_102 i1_102 = (D_X8_isCleared_109 R C r c0 lb2 (R + 1 - (r + 1) + 1) (r + 1) 0 f1_102 f2_102 i1_102 i2_2) := rfl
noncomputable def D_X8_isCleared_j63 (R : Nat) (C : Nat) (r : Nat) (c0 : Nat) (lb2 : Int32 → (Nat → Int64) → (Nat → Int64) → Int32 → Int32 → Int32 × (Nat → Int64) × (Nat → Int64) × Int32 × Int32) (i2_2 : Int32) (f1_63 : Nat → Int64) (f2_63 : Nat → Int64) (i1_63 : Int32) : Int32 × (Nat → Int64) × (Nat → Int64) × Int32 × Int32 := (if 0 ≤ (lg_cmp (f2_63 (r * 5 + c0)) 0) then (D_X8_isCleared_j102 R C r c0 lb2 i2_2 f1_63 f2_63 i1_63) else (D_X8_isCleared_j102 R C r c0 lb2 i2_2 (tr R r f1_63) (tr C r f2_63) (-i1_63)))
theorem D_X8_isCleared_j63_s {R : Nat} {C : Nat} {r : Nat} {c0 : Nat} {lb2 : Int32 → (Nat → Int64) → (Nat → Int64) → Int32 → Int32 → Int32 × (Nat → Int64) × (Nat → Int64) × Int32 × Int32} {i2_2 : Int32} {f1_63 : Nat → Int64} {f2_63 : Nat → Int64} {i1_63 : Int32} : D_X8_isCleared_j63 R C r c0 lb2 i2_2 f1_63 f2_63 i1_63 = (if 0 ≤ (lg_cmp (f2_63 (r * 5 + c0)) 0) then (D_X8_isCleared_j102 R C r c0 lb2 i2_2 f1_63 f2_63 i1_63) else (D_X8_isCleared_j102 R C r c0 lb2 i2_2 (tr R r f1_63) (tr C r f2_63) (-i1_63))) := rfl
noncomputable def D_X8_isCleared_2 (R : Nat) (C : Nat) (r : Nat) (c0 : Nat) (nn : Nat) : Int32 → (Nat → Int64) → (Nat → Int64) → Int32 → Int32 → Int32 × (Nat → Int64) × (Nat → Int64) × Int32 × Int32 := @Nat.rec (fun _ => Int32 → (Nat → Int64) → (Nat → Int64) → Int32 → Int32 → Int32 × (Nat → Int64) × (Nat → Int64) × Int32 × Int32) (fun _ _ _ _ _ => default) (fun _ lb2 (y3_2 : Int32) (f1_2 : Nat → Int64) (f2_2 : Nat → Int64) (i1_2 : Int32) (i2_2 : Int32) => (if y3_2 = 0 then (D_X8_isCleared_164 R C r c0 (r + 1 - 0 + 1) 0 f1_2 f2_2 i1_2 i2_2) else (if i2_2 = 0 then bnd1 (D_X8_least R C f1_2 f2_2 i1_2 i2_2 r c0) (fun (x220 : Int32) => (if x220 = -1 then (0, f1_2, f2_2, i1_2, i2_2) else nm ((x220).toNatClampNeg) (fun (ml : Nat) => (if ml = r then (D_X8_isCleared_j63 R C r c0 lb2 i2_2 f1_2 f2_2 i1_2) else (D_X8_isCleared_j63 R C r c0 lb2 i2_2 (xr R ml r f1_2) (xr C ml r f2_2) (-i1_2)))))) else (D_X8_isCleared_164_1 R C r c0 (r + 1 - 0 + 1) 0 f1_2 f2_2 i1_2 i2_2)))) nn
theorem D_X8_isCleared_2_s {R : Nat} {C : Nat} {r : Nat} {c0 : Nat} {nn : Nat} {y3_2 : Int32} {f1_2 : Nat → Int64} {f2_2 : Nat → Int64} {i1_2 : Int32} {i2_2 : Int32} : D_X8_isCleared_2 R C r c0 (nn + 1) y3_2 f1_2 f2_2 i1_2 i2_2 = (if y3_2 = 0 then (D_X8_isCleared_164 R C r c0 (r + 1 - 0 + 1) 0 f1_2 f2_2 i1_2 i2_2) else (if i2_2 = 0 then bnd1 (D_X8_least R C f1_2 f2_2 i1_2 i2_2 r c0) (fun (x220 : Int32) => (if x220 = -1 then (0, f1_2, f2_2, i1_2, i2_2) else nm ((x220).toNatClampNeg) (fun (ml : Nat) => (if ml = r then (D_X8_isCleared_j63 R C r c0 (D_X8_isCleared_2 R C r c0 nn) i2_2 f1_2 f2_2 i1_2) else (D_X8_isCleared_j63 R C r c0 (D_X8_isCleared_2 R C r c0 nn) i2_2 (xr R ml r f1_2) (xr C ml r f2_2) (-i1_2)))))) else (D_X8_isCleared_164_1 R C r c0 (r + 1 - 0 + 1) 0 f1_2 f2_2 i1_2 i2_2))) := rfl
noncomputable def D_X8_isCleared (R : Nat) (C : Nat) (f1 : Nat → Int64) (f2 : Nat → Int64) (i1 : Int32) (i2 : Int32) (r : Nat) (c0 : Nat) : Int32 × (Nat → Int64) × (Nat → Int64) × Int32 × Int32 := (D_X8_isCleared_2 R C r c0 (1000000000 + 1) 1 f1 f2 i1 i2)
theorem D_X8_isCleared_s {R : Nat} {C : Nat} {f1 : Nat → Int64} {f2 : Nat → Int64} {i1 : Int32} {i2 : Int32} {r : Nat} {c0 : Nat} : D_X8_isCleared R C f1 f2 i1 i2 r c0 = (D_X8_isCleared_2 R C r c0 (1000000000 + 1) 1 f1 f2 i1 i2) := rfl
set_option maxHeartbeats 4000000 in
set_option maxRecDepth 100000 in
theorem k_X8_isCleared (κ : Kt) (l : Launch) (w : va_W) (s_0 g_c b_c g_w b_w R C : Nat) (f1 f2 : Nat → Int64) (i1 i2 : Int32) (xr : Int32) (r : Nat) (xc0 : Int32) (c0 : Nat) (hs : shp R C) (hxr : xr = nI r) (hxc0 : xc0 = nI c0) (hr : r < R) (hc0 : c0 < C) (hrC : r ≤ c0) (hgr : i2 = 0) (hng : ∀ k, k < R * 5 → ng (f2 k)) (o_x : Int32) (o_F1 : Nat → Int64) (o_F2 : Nat → Int64) (o_S1 : Int32) (o_G1 : Int32) (hR : D_X8_isCleared R C f1 f2 i1 i2 r c0 = (o_x, o_F1, o_F2, o_S1, o_G1)) : CM κ l yX8_isCleared cX8_isCleared 6 (some .boolean) 3 74 0 0 [.ref s_0, .int xr, .int xc0] (lA κ b_c (R * 5) f1 :: gO g_c R R b_c :: lA κ b_w (R * 5) f2 :: gO g_w R C b_w :: (s_0, .inr (9, [.ref g_w, .ref g_c, .int i1, .int i2])) :: w) (fun o w' => o = some (.int o_x) ∧ (o_x = 0 ∨ o_x = 1) ∧ (CI R C r c0 f2 o_F2 o_G1 o_x) ∧ w' = lA κ b_c (R * 5) o_F1 :: gO g_c R R b_c :: lA κ b_w (R * 5) o_F2 :: gO g_w R C b_w :: (s_0, .inr (9, [.ref g_w, .ref g_c, .int o_S1, .int o_G1])) :: w) := by
  have hs0 := hs
  obtain ⟨hs1, hs2, hs3, hs4⟩ := hs0
  subst hxr
  subst hxc0
  refine CM_begin (plainFor_of_name (by decide)) (Nat.le_of_ble_eq_true rfl) ?_
  intro p e s m args below meth c A Q hX hnm hA3 hQ hB ls hl
  have hx := hX.1.1
  have hb := hX.1.2.1
  have hl : lv_has ls 6 [(0, .ref s_0), (1, .int (nI r)), (2, .int (nI c0))] := hl
  obtain ⟨N0, hNb, hN0⟩ := PM_ex R r c0 f2 (by omega) hng
  have hrC : r ≤ C := by omega
  replace hR := (D_X8_isCleared_s).symm.trans hR
  refine lv_iconst (v := 1) hx hb dX8_isCleared_0 (by decide) ?_
  refine lv_istore_n (lv' := [(3, .int 1), (0, .ref s_0), (1, .int (nI r)), (2, .int (nI c0))]) hx hb dX8_isCleared_1 rfl hl (by decide) rfl (fun ls hl => ?_)
  have lp2 : ∀ (nn2 : Nat) (y3_2 : Int32) (f1_2 : Nat → Int64) (f2_2 : Nat → Int64) (i1_2 : Int32) (i2_2 : Int32) (N_2 : Nat) (H : Heap) (locs : List Loc), (HI R C r c0 f2 N_2 y3_2 f2_2 i2_2) → N_2 < nn2 → D_X8_isCleared_2 R C r c0 nn2 y3_2 f1_2 f2_2 i1_2 i2_2 = (o_x, o_F1, o_F2, o_S1, o_G1) → Bd κ A s (lA κ b_c (R * 5) f1_2 :: gO g_c R R b_c :: lA κ b_w (R * 5) f2_2 :: gO g_w R C b_w :: (s_0, .inr (9, [.ref g_w, .ref g_c, .int i1_2, .int i2_2])) :: w) H locs → ∀ ls : Array Slot, lv_has ls 6 [(3, .int y3_2), (0, .ref s_0), (1, .int (nI r)), (2, .int (nI c0))] → W p l e (Rm 3 74 0 0) s m args below meth c H locs (0) (0) Q (F0 m 2 ls []) := by
    intro nn2
    induction nn2 with
    | zero => intro y3_2 f1_2 f2_2 i1_2 i2_2 N_2 H locs hH_2 hμ; exact absurd hμ (Nat.not_lt_zero _)
    | succ nn2 ih2 =>
      intro y3_2 f1_2 f2_2 i1_2 i2_2 N_2 H locs hH_2 hμ2 hR hB ls hl
      replace hR := (D_X8_isCleared_2_s).symm.trans hR
      refine lv_iload_n hx hb dX8_isCleared_2 rfl (lv_at hl 0 rfl) ?_
      refine lv_if_eq (tgt := 161) hx hb dX8_isCleared_3 (by decide) (fun c164 => ?_) (fun c164 => ?_)
      · replace hR := ifp c164 hR
        have hE := HI_e0 hH_2 c164
        refine lv_iconst (v := 0) hx hb dX8_isCleared_161 (by decide) ?_
        refine lv_istore (lv' := [(4, .int 0), (3, .int y3_2), (0, .ref s_0), (1, .int (nI r)), (2, .int (nI c0))]) hx hb dX8_isCleared_162 hl (by decide) rfl (fun ls hl => ?_)
        have lp164 : ∀ (nn164 : Nat) (y4_164 : Nat) (f1_164 : Nat → Int64) (f2_164 : Nat → Int64) (i1_164 : Int32) (i2_164 : Int32) (H : Heap) (locs : List Loc), (y4_164 ≤ r) → (LI R C r c0 f2_2 i2_2 f2_164 i2_164) → r + 1 - y4_164 < nn164 → D_X8_isCleared_164 R C r c0 nn164 y4_164 f1_164 f2_164 i1_164 i2_164 = (o_x, o_F1, o_F2, o_S1, o_G1) → Bd κ A s (lA κ b_c (R * 5) f1_164 :: gO g_c R R b_c :: lA κ b_w (R * 5) f2_164 :: gO g_w R C b_w :: (s_0, .inr (9, [.ref g_w, .ref g_c, .int i1_164, .int i2_164])) :: w) H locs → ∀ ls : Array Slot, lv_has ls 6 [(4, .int (nI y4_164)), (3, .int y3_2), (0, .ref s_0), (1, .int (nI r)), (2, .int (nI c0))] → W p l e (Rm 3 74 0 0) s m args below meth c H locs (0) (0) Q (F0 m 164 ls []) := by
          intro nn164
          induction nn164 with
          | zero => intro y4_164 f1_164 f2_164 i1_164 i2_164 H locs hn4_164 hL_164 hμ; exact absurd hμ (Nat.not_lt_zero _)
          | succ nn164 ih164 =>
            intro y4_164 f1_164 f2_164 i1_164 i2_164 H locs hn4_164 hL_164 hμ164 hR hB ls hl
            replace hR := (D_X8_isCleared_164_s).symm.trans hR
            refine lv_iload hx hb dX8_isCleared_164 (lv_at hl 0 rfl) ?_
            refine lv_iload_n hx hb dX8_isCleared_166 rfl (lv_at hl 3 rfl) ?_
            refine lv_icmp_ge (tgt := 184) hx hb dX8_isCleared_167 (by decide) (fun c183 => ?_) (fun c183 => ?_)
            · rw [nleP (a := r) (b := y4_164) (by omega) (by omega)] at c183
              replace hR := ifp c183 hR
              refine lv_iconst (v := 1) hx hb dX8_isCleared_184 (by decide) ?_
              rw [← hQ]
              exact end_i hX hB hA3 rfl rfl (by obtain ⟨rfl, rfl, rfl, rfl, rfl⟩ := pr5 hR; exact ⟨rfl, (Or.inr rfl), (LI_C hE hL_164), rfl⟩) (Nat.le_of_ble_eq_true rfl) (Nat.le_of_ble_eq_true rfl) dX8_isCleared_185
            · rw [nleP (a := r) (b := y4_164) (by omega) (by omega)] at c183
              replace hR := ifn c183 hR
              refine lv_aload_n hx hb dX8_isCleared_170 rfl (lv_at hl 2 rfl) ?_
              refine lv_iload hx hb dX8_isCleared_171 (lv_at hl 0 rfl) ?_
              refine lv_iload_n hx hb dX8_isCleared_173 rfl (lv_at hl 3 rfl) ?_
              refine lv_iload_n hx hb dX8_isCleared_174 rfl (lv_at hl 4 rfl) ?_
              obtain ⟨F184, F185, S186, G187, hd188⟩ := ex4 (D_X8_takeOff R C f1_164 f2_164 i1_164 i2_164 y4_164 r c0)
              replace hR := bnd4_use hd188 hR
              refine call_V (n := 3) (k0 := 4) (As := [.int (nI y4_164), .int (nI r), .int (nI c0)]) (rest := []) hX hB (k_X8_takeOff κ l (w) s_0 g_c b_c g_w b_w R C f1_164 f2_164 i1_164 i2_164 (nI y4_164) y4_164 (nI r) r (nI c0) c0 hs rfl rfl rfl (by omega) (by omega) (by omega) (by omega) (by rw [hL_164.2.2.1 r (Nat.le_refl _)]; exact hE.2.2.1) F184 F185 S186 G187 hd188) ⟨rfl, by decide, by decide, by decide +kernel⟩ wm_6_147 wm_6_149 wp_40 wm_1_15 wm_6_150 ⟨Nat.le_of_ble_eq_true rfl, Nat.le_of_ble_eq_true rfl⟩ ⟨Nat.le_of_ble_eq_true rfl, Nat.le_of_ble_eq_true rfl⟩ rfl rfl rfl rfl hl.1 rfl (Nat.le_of_ble_eq_true rfl) dX8_isCleared_175 (fun o w' H locs hp hB => ?_)
              obtain ⟨rfl, hf189, hf190, hf191, hw9⟩ := hp
              replace hB : Bd κ A s (lA κ b_c (R * 5) F184 :: gO g_c R R b_c :: lA κ b_w (R * 5) F185 :: gO g_w R C b_w :: (s_0, .inr (9, [.ref g_w, .ref g_c, .int S186, .int G187])) :: w) H locs := by rw [hw9] at hB; exact hB
              refine W.eq (g2 := F0 m 178 ls []) rfl ?_
              refine lv_iinc (v := nI (y4_164 + 1)) (lv' := [(4, .int (nI (y4_164 + 1))), (3, .int y3_2), (0, .ref s_0), (1, .int (nI r)), (2, .int (nI c0))]) hx hb dX8_isCleared_178 hl (k := 0) rfl (nI_add y4_164 1) (by decide) rfl (fun ls hl => ?_)
              refine lv_goto (tgt := 164) hx hb dX8_isCleared_181 (by decide) ?_
              exact ih164 (y4_164 + 1) F184 F185 S186 G187 _ _ (by omega) (LI_s hs4 ⟨hs1, hs2⟩ hc0 hrC hr (by omega) hL_164 hf189 hf190 hf191) (by omega) hR hB _ hl
        exact lp164 _ 0 f1_2 f2_2 i1_2 i2_2 _ _ (by omega) (LI_0 hE.2.1) (Nat.lt_succ_self _) hR hB _ hl
      · replace hR := ifn c164 hR
        have hM := c164
        refine lv_aload_n hx hb dX8_isCleared_6 rfl (lv_at hl 1 rfl) ?_
        refine gf (k0 := 4) hX hB rfl rfl in8 3 (by decide) wm_6_165 rfl rfl dX8_isCleared_7 ?_
        refine lv_if_ne (tgt := 161) hx hb dX8_isCleared_10 (by decide) (fun c192 => ?_) (fun c192 => ?_)
        · replace hR := ifn c192 hR
          have hE := HI_e1 hH_2 c192
          refine lv_iconst (v := 0) hx hb dX8_isCleared_161 (by decide) ?_
          refine lv_istore (lv' := [(4, .int 0), (3, .int y3_2), (0, .ref s_0), (1, .int (nI r)), (2, .int (nI c0))]) hx hb dX8_isCleared_162 hl (by decide) rfl (fun ls hl => ?_)
          have lp164 : ∀ (nn164 : Nat) (y4_164 : Nat) (f1_164 : Nat → Int64) (f2_164 : Nat → Int64) (i1_164 : Int32) (i2_164 : Int32) (H : Heap) (locs : List Loc), (y4_164 ≤ r) → (LI R C r c0 f2_2 i2_2 f2_164 i2_164) → r + 1 - y4_164 < nn164 → D_X8_isCleared_164_1 R C r c0 nn164 y4_164 f1_164 f2_164 i1_164 i2_164 = (o_x, o_F1, o_F2, o_S1, o_G1) → Bd κ A s (lA κ b_c (R * 5) f1_164 :: gO g_c R R b_c :: lA κ b_w (R * 5) f2_164 :: gO g_w R C b_w :: (s_0, .inr (9, [.ref g_w, .ref g_c, .int i1_164, .int i2_164])) :: w) H locs → ∀ ls : Array Slot, lv_has ls 6 [(4, .int (nI y4_164)), (3, .int y3_2), (0, .ref s_0), (1, .int (nI r)), (2, .int (nI c0))] → W p l e (Rm 3 74 0 0) s m args below meth c H locs (0) (0) Q (F0 m 164 ls []) := by
            intro nn164
            induction nn164 with
            | zero => intro y4_164 f1_164 f2_164 i1_164 i2_164 H locs hn4_164 hL_164 hμ; exact absurd hμ (Nat.not_lt_zero _)
            | succ nn164 ih164 =>
              intro y4_164 f1_164 f2_164 i1_164 i2_164 H locs hn4_164 hL_164 hμ164 hR hB ls hl
              replace hR := (D_X8_isCleared_164_1_s).symm.trans hR
              refine lv_iload hx hb dX8_isCleared_164 (lv_at hl 0 rfl) ?_
              refine lv_iload_n hx hb dX8_isCleared_166 rfl (lv_at hl 3 rfl) ?_
              refine lv_icmp_ge (tgt := 184) hx hb dX8_isCleared_167 (by decide) (fun c211 => ?_) (fun c211 => ?_)
              · rw [nleP (a := r) (b := y4_164) (by omega) (by omega)] at c211
                replace hR := ifp c211 hR
                refine lv_iconst (v := 1) hx hb dX8_isCleared_184 (by decide) ?_
                rw [← hQ]
                exact end_i hX hB hA3 rfl rfl (by obtain ⟨rfl, rfl, rfl, rfl, rfl⟩ := pr5 hR; exact ⟨rfl, (Or.inr rfl), (LI_C hE hL_164), rfl⟩) (Nat.le_of_ble_eq_true rfl) (Nat.le_of_ble_eq_true rfl) dX8_isCleared_185
              · rw [nleP (a := r) (b := y4_164) (by omega) (by omega)] at c211
                replace hR := ifn c211 hR
                refine lv_aload_n hx hb dX8_isCleared_170 rfl (lv_at hl 2 rfl) ?_
                refine lv_iload hx hb dX8_isCleared_171 (lv_at hl 0 rfl) ?_
                refine lv_iload_n hx hb dX8_isCleared_173 rfl (lv_at hl 3 rfl) ?_
                refine lv_iload_n hx hb dX8_isCleared_174 rfl (lv_at hl 4 rfl) ?_
                obtain ⟨F212, F213, S214, G215, hd216⟩ := ex4 (D_X8_takeOff R C f1_164 f2_164 i1_164 i2_164 y4_164 r c0)
                replace hR := bnd4_use hd216 hR
                refine call_V (n := 3) (k0 := 4) (As := [.int (nI y4_164), .int (nI r), .int (nI c0)]) (rest := []) hX hB (k_X8_takeOff κ l (w) s_0 g_c b_c g_w b_w R C f1_164 f2_164 i1_164 i2_164 (nI y4_164) y4_164 (nI r) r (nI c0) c0 hs rfl rfl rfl (by omega) (by omega) (by omega) (by omega) (by rw [hL_164.2.2.1 r (Nat.le_refl _)]; exact hE.2.2.1) F212 F213 S214 G215 hd216) ⟨rfl, by decide, by decide, by decide +kernel⟩ wm_6_147 wm_6_149 wp_40 wm_1_15 wm_6_150 ⟨Nat.le_of_ble_eq_true rfl, Nat.le_of_ble_eq_true rfl⟩ ⟨Nat.le_of_ble_eq_true rfl, Nat.le_of_ble_eq_true rfl⟩ rfl rfl rfl rfl hl.1 rfl (Nat.le_of_ble_eq_true rfl) dX8_isCleared_175 (fun o w' H locs hp hB => ?_)
                obtain ⟨rfl, hf217, hf218, hf219, hw9⟩ := hp
                replace hB : Bd κ A s (lA κ b_c (R * 5) F212 :: gO g_c R R b_c :: lA κ b_w (R * 5) F213 :: gO g_w R C b_w :: (s_0, .inr (9, [.ref g_w, .ref g_c, .int S214, .int G215])) :: w) H locs := by rw [hw9] at hB; exact hB
                refine W.eq (g2 := F0 m 178 ls []) rfl ?_
                refine lv_iinc (v := nI (y4_164 + 1)) (lv' := [(4, .int (nI (y4_164 + 1))), (3, .int y3_2), (0, .ref s_0), (1, .int (nI r)), (2, .int (nI c0))]) hx hb dX8_isCleared_178 hl (k := 0) rfl (nI_add y4_164 1) (by decide) rfl (fun ls hl => ?_)
                refine lv_goto (tgt := 164) hx hb dX8_isCleared_181 (by decide) ?_
                exact ih164 (y4_164 + 1) F212 F213 S214 G215 _ _ (by omega) (LI_s hs4 ⟨hs1, hs2⟩ hc0 hrC hr (by omega) hL_164 hf217 hf218 hf219) (by omega) hR hB _ hl
          exact lp164 _ 0 f1_2 f2_2 i1_2 i2_2 _ _ (by omega) (LI_0 hE.2.1) (Nat.lt_succ_self _) hR hB _ hl
        · replace hR := ifp c192 hR
          have hG := c192
          refine lv_aload_n hx hb dX8_isCleared_13 rfl (lv_at hl 1 rfl) ?_
          refine lv_iload_n hx hb dX8_isCleared_14 rfl (lv_at hl 2 rfl) ?_
          refine lv_iload_n hx hb dX8_isCleared_15 rfl (lv_at hl 3 rfl) ?_
          obtain ⟨x220, hd221⟩ := ex1 (D_X8_least R C f1_2 f2_2 i1_2 i2_2 r c0)
          replace hR := bnd1_use hd221 hR
          refine call_V (n := 2) (k0 := 4) (As := [.int (nI r), .int (nI c0)]) (rest := []) hX hB (k_X8_least κ l (w) s_0 g_c b_c g_w b_w R C f1_2 f2_2 i1_2 i2_2 (nI r) r (nI c0) c0 hs rfl rfl hr hc0 (hH_2.2.1 hG) x220 hd221) ⟨rfl, by decide, by decide, by decide +kernel⟩ wm_6_139 wm_6_141 wp_39 wm_1_15 wm_6_142 ⟨Nat.le_of_ble_eq_true rfl, Nat.le_of_ble_eq_true rfl⟩ ⟨Nat.le_of_ble_eq_true rfl, Nat.le_of_ble_eq_true rfl⟩ rfl rfl rfl rfl hl.1 rfl (Nat.le_of_ble_eq_true rfl) dX8_isCleared_16 (fun o w' H locs hp hB => ?_)
          obtain ⟨rfl, hf222, hw9⟩ := hp
          replace hB : Bd κ A s (lA κ b_c (R * 5) f1_2 :: gO g_c R R b_c :: lA κ b_w (R * 5) f2_2 :: gO g_w R C b_w :: (s_0, .inr (9, [.ref g_w, .ref g_c, .int i1_2, .int i2_2])) :: w) H locs := by rw [hw9] at hB; exact hB
          rcases hf222 with ⟨rfl, hmz⟩ | ⟨ml, rfl, hm1, hm2, hm3, hm4⟩
          · replace hR := ifp rfl hR
            refine W.eq (g2 := F0 m 19 ls [.int (-1)]) rfl ?_
            refine lv_istore (lv' := [(4, .int (-1)), (3, .int y3_2), (0, .ref s_0), (1, .int (nI r)), (2, .int (nI c0))]) hx hb dX8_isCleared_19 hl (by decide) rfl (fun ls hl => ?_)
            refine lv_iload hx hb dX8_isCleared_21 (lv_at hl 0 rfl) ?_
            refine lv_if_ge (tgt := 28) hx hb dX8_isCleared_23 (by decide) (fun c223 => False.elim (by revert c223; decide)) (fun _ => ?_)
            refine lv_iconst (v := 0) hx hb dX8_isCleared_26 (by decide) ?_
            rw [← hQ]
            exact end_i hX hB hA3 rfl rfl (by obtain ⟨rfl, rfl, rfl, rfl, rfl⟩ := pr5 hR; exact ⟨rfl, (Or.inl rfl), ⟨hH_2.1, hH_2.2.1, fun h => absurd h (by decide), fun _ => hmz⟩, rfl⟩) (Nat.le_of_ble_eq_true rfl) (Nat.le_of_ble_eq_true rfl) dX8_isCleared_27
          · replace hR := ifn (nI_m1 (by omega)) hR
            replace hR := nm_use (nI_clamp (by omega)).symm hR
            refine W.eq (g2 := F0 m 19 ls [.int (nI ml)]) rfl ?_
            refine lv_istore (lv' := [(4, .int (nI ml)), (3, .int y3_2), (0, .ref s_0), (1, .int (nI r)), (2, .int (nI c0))]) hx hb dX8_isCleared_19 hl (by decide) rfl (fun ls hl => ?_)
            refine lv_iload hx hb dX8_isCleared_21 (lv_at hl 0 rfl) ?_
            refine lv_if_ge (tgt := 28) hx hb dX8_isCleared_23 (by decide) (fun _ => ?_) (fun c224 => absurd (nI_pos' (n := ml) (by omega)) c224)
            have hmN := PM_m (hH_2.2.2.1 hM hG) ⟨hm1, hm2⟩ hm3 hm4
            have hN1 : 1 ≤ N_2 := by have := (not_congr na0).mpr hm3; omega
            refine lv_iload hx hb dX8_isCleared_28 (lv_at hl 0 rfl) ?_
            refine lv_iload_n hx hb dX8_isCleared_30 rfl (lv_at hl 3 rfl) ?_
            have jn63 : ∀ (f1_63 : Nat → Int64) (f2_63 : Nat → Int64) (i1_63 : Int32) (H : Heap) (locs : List Loc), (RS R C r f2 f2_63) → (∀ k, k < R * 5 → ng (f2_63 k)) → (f2_63 (r * 5 + c0) ≠ 0 ∧ na (f2_63 (r * 5 + c0)) ≤ N_2) → D_X8_isCleared_j63 R C r c0 (D_X8_isCleared_2 R C r c0 nn2) i2_2 f1_63 f2_63 i1_63 = (o_x, o_F1, o_F2, o_S1, o_G1) → Bd κ A s (lA κ b_c (R * 5) f1_63 :: gO g_c R R b_c :: lA κ b_w (R * 5) f2_63 :: gO g_w R C b_w :: (s_0, .inr (9, [.ref g_w, .ref g_c, .int i1_63, .int i2_2])) :: w) H locs → ∀ ls : Array Slot, lv_has ls 6 [(4, .int (nI ml)), (3, .int y3_2), (0, .ref s_0), (1, .int (nI r)), (2, .int (nI c0))] → W p l e (Rm 3 74 0 0) s m args below meth c H locs (0) (0) Q (F0 m 63 ls []) := by
              intro f1_63 f2_63 i1_63 H locs hJ1 hJ2 hJ3 hR hB ls hl
              replace hR := (D_X8_isCleared_j63_s).symm.trans hR
              refine lv_aload_n hx hb dX8_isCleared_63 rfl (lv_at hl 2 rfl) ?_
              refine gf (k0 := 4) hX hB rfl rfl in8 0 (by decide) wm_6_159 rfl rfl dX8_isCleared_64 ?_
              refine lv_iload_n hx hb dX8_isCleared_67 rfl (lv_at hl 3 rfl) ?_
              refine lv_iload_n hx hb dX8_isCleared_68 rfl (lv_at hl 4 rfl) ?_
              refine call_V (n := 2) (k0 := 3) (As := [.int (nI r), .int (nI c0)]) (rest := []) hX hB (k_X7_at κ l (lA κ b_c (R * 5) f1_63 :: gO g_c R R b_c :: lA κ b_w (R * 5) f2_63 :: gO g_w R C b_w :: (s_0, .inr (9, [.ref g_w, .ref g_c, .int i1_63, .int i2_2])) :: w) 3 2 g_w b_w R C f2_63 (nI r) r (nI c0) c0 rfl rfl hs rfl rfl (by omega)) ⟨rfl, by decide, by decide, by decide +kernel⟩ wm_6_143 wm_5_238 wm_5_239 wm_1_7 wm_6_0 ⟨Nat.le_of_ble_eq_true rfl, Nat.le_of_ble_eq_true rfl⟩ ⟨Nat.le_of_ble_eq_true rfl, Nat.le_of_ble_eq_true rfl⟩ rfl rfl rfl rfl hl.1 rfl (Nat.le_of_ble_eq_true rfl) dX8_isCleared_69 (fun o w' H locs hp hB => ?_)
              obtain ⟨rfl, hw9⟩ := hp
              replace hB : Bd κ A s (lA κ b_c (R * 5) f1_63 :: gO g_c R R b_c :: lA κ b_w (R * 5) f2_63 :: gO g_w R C b_w :: (s_0, .inr (9, [.ref g_w, .ref g_c, .int i1_63, .int i2_2])) :: w) H locs := by rw [hw9] at hB; exact hB
              refine W.eq (g2 := F0 m 72 ls [.long (f2_63 (r * 5 + c0))]) rfl ?_
              refine lv_lconst (v := 0) hx hb dX8_isCleared_72 (by decide) ?_
              refine W.lcmp hx hb dX8_isCleared_73 ?_
              have jn102 : ∀ (f1_102 : Nat → Int64) (f2_102 : Nat → Int64) (i1_102 : Int32) (H : Heap) (locs : List Loc), (RS R C r f2 f2_102) → (∀ k, k < R * 5 → ng (f2_102 k)) → (0 < (f2_102 (r * 5 + c0)).toInt) → (na (f2_102 (r * 5 + c0)) ≤ N_2) → D_X8_isCleared_j102 R C r c0 (D_X8_isCleared_2 R C r c0 nn2) i2_2 f1_102 f2_102 i1_102 = (o_x, o_F1, o_F2, o_S1, o_G1) → Bd κ A s (lA κ b_c (R * 5) f1_102 :: gO g_c R R b_c :: lA κ b_w (R * 5) f2_102 :: gO g_w R C b_w :: (s_0, .inr (9, [.ref g_w, .ref g_c, .int i1_102, .int i2_2])) :: w) H locs → ∀ ls : Array Slot, lv_has ls 6 [(4, .int (nI ml)), (3, .int y3_2), (0, .ref s_0), (1, .int (nI r)), (2, .int (nI c0))] → W p l e (Rm 3 74 0 0) s m args below meth c H locs (0) (0) Q (F0 m 102 ls []) := by
                intro f1_102 f2_102 i1_102 H locs hQ1 hQ2 hQ3 hQ4 hR hB ls hl
                replace hR := (D_X8_isCleared_j102_s).symm.trans hR
                refine lv_iconst (v := 0) hx hb dX8_isCleared_102 (by decide) ?_
                refine lv_istore_n (lv' := [(3, .int 0), (4, .int (nI ml)), (0, .ref s_0), (1, .int (nI r)), (2, .int (nI c0))]) hx hb dX8_isCleared_103 rfl hl (by decide) rfl (fun ls hl => ?_)
                refine lv_iload_n hx hb dX8_isCleared_104 rfl (lv_at hl 3 rfl) ?_
                refine lv_iconst (v := 1) hx hb dX8_isCleared_105 (by decide) ?_
                refine lv_iadd hx hb dX8_isCleared_106 ?_
                refine eqi (y := nI (r + 1)) (nI_add r 1) ?_
                refine lv_istore (lv' := [(5, .int (nI (r + 1))), (3, .int 0), (4, .int (nI ml)), (0, .ref s_0), (1, .int (nI r)), (2, .int (nI c0))]) hx hb dX8_isCleared_107 hl (by decide) rfl (fun ls hl => ?_)
                have lp109 : ∀ (nn109 : Nat) (y5_109 : Nat) (y3_109 : Int32) (f1_109 : Nat → Int64) (f2_109 : Nat → Int64) (i1_109 : Int32) (i2_109 : Int32) (H : Heap) (locs : List Loc), (y5_109 ≤ R) → (r + 1 ≤ y5_109) → (KI R C r c0 f2_102 y5_109 y3_109 f2_109 i2_109) → R + 1 - y5_109 < nn109 → D_X8_isCleared_109 R C r c0 (D_X8_isCleared_2 R C r c0 nn2) nn109 y5_109 y3_109 f1_109 f2_109 i1_109 i2_109 = (o_x, o_F1, o_F2, o_S1, o_G1) → Bd κ A s (lA κ b_c (R * 5) f1_109 :: gO g_c R R b_c :: lA κ b_w (R * 5) f2_109 :: gO g_w R C b_w :: (s_0, .inr (9, [.ref g_w, .ref g_c, .int i1_109, .int i2_109])) :: w) H locs → ∀ ls : Array Slot, lv_has ls 6 [(5, .int (nI y5_109)), (3, .int y3_109), (4, .int (nI ml)), (0, .ref s_0), (1, .int (nI r)), (2, .int (nI c0))] → W p l e (Rm 3 74 0 0) s m args below meth c H locs (0) (0) Q (F0 m 109 ls []) := by
                  intro nn109
                  induction nn109 with
                  | zero => intro y5_109 y3_109 f1_109 f2_109 i1_109 i2_109 H locs hn5_109 hlo_109 hK_109 hμ; exact absurd hμ (Nat.not_lt_zero _)
                  | succ nn109 ih109 =>
                    intro y5_109 y3_109 f1_109 f2_109 i1_109 i2_109 H locs hn5_109 hlo_109 hK_109 hμ109 hR hB ls hl
                    replace hR := (D_X8_isCleared_109_s).symm.trans hR
                    refine lv_iload hx hb dX8_isCleared_109 (lv_at hl 0 rfl) ?_
                    refine lv_aload_n hx hb dX8_isCleared_111 rfl (lv_at hl 3 rfl) ?_
                    refine gf (k0 := 4) hX hB rfl rfl in8 0 (by decide) wm_6_159 rfl rfl dX8_isCleared_112 ?_
                    refine gf (k0 := 3) hX hB rfl rfl in7 0 (by decide) wm_5_146 rfl rfl dX8_isCleared_115 ?_
                    refine lv_icmp_ge (tgt := 158) hx hb dX8_isCleared_118 (by decide) (fun c247 => ?_) (fun c247 => ?_)
                    · rw [nleP (a := R) (b := y5_109) (by omega) (by omega)] at c247
                      replace hR := ifp c247 hR
                      refine lv_goto (tgt := 2) hx hb dX8_isCleared_158 (by decide) ?_
                      exact ih2 y3_109 f1_109 f2_109 i1_109 i2_109 (N_2 - 1) _ _ (KI_H hQ1 hQ3 hQ4 hK_109 (by omega)) (by omega) hR hB _ (lv_sub hl [1, 3, 4, 5] rfl)
                    · rw [nleP (a := R) (b := y5_109) (by omega) (by omega)] at c247
                      replace hR := ifn c247 hR
                      refine lv_aload_n hx hb dX8_isCleared_121 rfl (lv_at hl 3 rfl) ?_
                      refine lv_iload hx hb dX8_isCleared_122 (lv_at hl 0 rfl) ?_
                      refine lv_iload_n hx hb dX8_isCleared_124 rfl (lv_at hl 4 rfl) ?_
                      refine lv_iload_n hx hb dX8_isCleared_125 rfl (lv_at hl 5 rfl) ?_
                      obtain ⟨F248, F249, S250, G251, hd252⟩ := ex4 (D_X8_takeOff R C f1_109 f2_109 i1_109 i2_109 y5_109 r c0)
                      replace hR := bnd4_use hd252 hR
                      refine call_V (n := 3) (k0 := 4) (As := [.int (nI y5_109), .int (nI r), .int (nI c0)]) (rest := []) hX hB (k_X8_takeOff κ l (w) s_0 g_c b_c g_w b_w R C f1_109 f2_109 i1_109 i2_109 (nI y5_109) y5_109 (nI r) r (nI c0) c0 hs rfl rfl rfl (by omega) (by omega) (by omega) (by omega) (KI_pv hK_109 hQ3) F248 F249 S250 G251 hd252) ⟨rfl, by decide, by decide, by decide +kernel⟩ wm_6_147 wm_6_149 wp_40 wm_1_15 wm_6_150 ⟨Nat.le_of_ble_eq_true rfl, Nat.le_of_ble_eq_true rfl⟩ ⟨Nat.le_of_ble_eq_true rfl, Nat.le_of_ble_eq_true rfl⟩ rfl rfl rfl rfl hl.1 rfl (Nat.le_of_ble_eq_true rfl) dX8_isCleared_126 (fun o w' H locs hp hB => ?_)
                      obtain ⟨rfl, hf253, hf254, hf255, hw9⟩ := hp
                      replace hB : Bd κ A s (lA κ b_c (R * 5) F248 :: gO g_c R R b_c :: lA κ b_w (R * 5) F249 :: gO g_w R C b_w :: (s_0, .inr (9, [.ref g_w, .ref g_c, .int S250, .int G251])) :: w) H locs := by rw [hw9] at hB; exact hB
                      refine W.eq (g2 := F0 m 129 ls []) rfl ?_
                      refine lv_iload_n hx hb dX8_isCleared_129 rfl (lv_at hl 1 rfl) ?_
                      refine lv_aload_n hx hb dX8_isCleared_130 rfl (lv_at hl 3 rfl) ?_
                      refine gf (k0 := 4) hX hB rfl rfl in8 0 (by decide) wm_6_159 rfl rfl dX8_isCleared_131 ?_
                      refine lv_iload hx hb dX8_isCleared_134 (lv_at hl 0 rfl) ?_
                      refine lv_iload_n hx hb dX8_isCleared_136 rfl (lv_at hl 5 rfl) ?_
                      refine call_V (n := 2) (k0 := 3) (As := [.int (nI y5_109), .int (nI c0)]) (rest := [.int y3_109]) hX hB (k_X7_at κ l (lA κ b_c (R * 5) F248 :: gO g_c R R b_c :: lA κ b_w (R * 5) F249 :: gO g_w R C b_w :: (s_0, .inr (9, [.ref g_w, .ref g_c, .int S250, .int G251])) :: w) 3 2 g_w b_w R C F249 (nI y5_109) y5_109 (nI c0) c0 rfl rfl hs rfl rfl (by omega)) ⟨rfl, by decide, by decide, by decide +kernel⟩ wm_6_143 wm_5_238 wm_5_239 wm_1_7 wm_6_0 ⟨Nat.le_of_ble_eq_true rfl, Nat.le_of_ble_eq_true rfl⟩ ⟨Nat.le_of_ble_eq_true rfl, Nat.le_of_ble_eq_true rfl⟩ rfl rfl rfl rfl hl.1 rfl (Nat.le_of_ble_eq_true rfl) dX8_isCleared_137 (fun o w' H locs hp hB => ?_)
                      obtain ⟨rfl, hw9⟩ := hp
                      replace hB : Bd κ A s (lA κ b_c (R * 5) F248 :: gO g_c R R b_c :: lA κ b_w (R * 5) F249 :: gO g_w R C b_w :: (s_0, .inr (9, [.ref g_w, .ref g_c, .int S250, .int G251])) :: w) H locs := by rw [hw9] at hB; exact hB
                      refine W.eq (g2 := F0 m 140 ls [.long (F249 (y5_109 * 5 + c0)), .int y3_109]) rfl ?_
                      refine lv_lconst (v := 0) hx hb dX8_isCleared_140 (by decide) ?_
                      refine W.lcmp hx hb dX8_isCleared_141 ?_
                      refine lv_if_eq (tgt := 149) hx hb dX8_isCleared_142 (by decide) (fun c256 => ?_) (fun c256 => ?_)
                      · replace hR := ifp c256 hR
                        refine lv_iconst (v := 0) hx hb dX8_isCleared_149 (by decide) ?_
                        refine lv_ior hx hb dX8_isCleared_150 ?_
                        refine lv_istore_n (lv' := [(3, .int (y3_109 ||| 0)), (5, .int (nI y5_109)), (4, .int (nI ml)), (0, .ref s_0), (1, .int (nI r)), (2, .int (nI c0))]) hx hb dX8_isCleared_151 rfl hl (by decide) rfl (fun ls hl => ?_)
                        refine lv_iinc (v := nI (y5_109 + 1)) (lv' := [(5, .int (nI (y5_109 + 1))), (3, .int (y3_109 ||| 0)), (4, .int (nI ml)), (0, .ref s_0), (1, .int (nI r)), (2, .int (nI c0))]) hx hb dX8_isCleared_152 hl (k := 1) rfl (nI_add y5_109 1) (by decide) rfl (fun ls hl => ?_)
                        refine lv_goto (tgt := 109) hx hb dX8_isCleared_155 (by decide) ?_
                        exact ih109 (y5_109 + 1) (y3_109 ||| 0) F248 F249 S250 G251 _ _ (by omega) (by omega) (KI_s0 hs4 hc0 ⟨hs1, hs2⟩ hrC hr hlo_109 (by omega) hQ3 hK_109 hf253 hf254 hf255 (by assumption)) (by omega) hR hB _ hl
                      · replace hR := ifn c256 hR
                        refine lv_iconst (v := 1) hx hb dX8_isCleared_145 (by decide) ?_
                        refine lv_goto (tgt := 150) hx hb dX8_isCleared_146 (by decide) ?_
                        refine lv_ior hx hb dX8_isCleared_150 ?_
                        refine lv_istore_n (lv' := [(3, .int (y3_109 ||| 1)), (5, .int (nI y5_109)), (4, .int (nI ml)), (0, .ref s_0), (1, .int (nI r)), (2, .int (nI c0))]) hx hb dX8_isCleared_151 rfl hl (by decide) rfl (fun ls hl => ?_)
                        refine lv_iinc (v := nI (y5_109 + 1)) (lv' := [(5, .int (nI (y5_109 + 1))), (3, .int (y3_109 ||| 1)), (4, .int (nI ml)), (0, .ref s_0), (1, .int (nI r)), (2, .int (nI c0))]) hx hb dX8_isCleared_152 hl (k := 1) rfl (nI_add y5_109 1) (by decide) rfl (fun ls hl => ?_)
                        refine lv_goto (tgt := 109) hx hb dX8_isCleared_155 (by decide) ?_
                        exact ih109 (y5_109 + 1) (y3_109 ||| 1) F248 F249 S250 G251 _ _ (by omega) (by omega) (KI_s1 hs4 hc0 ⟨hs1, hs2⟩ hrC hr hlo_109 (by omega) hQ3 hK_109 hf253 hf254 hf255 (by assumption)) (by omega) hR hB _ hl
                exact lp109 _ (r + 1) 0 f1_102 f2_102 i1_102 i2_2 _ _ (by omega) (by omega) (KI_0 hG hQ2) (Nat.lt_succ_self _) hR hB _ hl
              refine lv_if_ge (tgt := 102) hx hb dX8_isCleared_74 (by decide) (fun c257 => ?_) (fun c257 => ?_)
              · replace hR := ifp c257 hR
                exact jn102 f1_63 f2_63 i1_63 _ _ hJ1 hJ2 (pos_of (by assumption) hJ3.1) hJ3.2 hR hB _ hl
              · replace hR := ifn c257 hR
                refine lv_aload_n hx hb dX8_isCleared_77 rfl (lv_at hl 2 rfl) ?_
                refine gf (k0 := 4) hX hB rfl rfl in8 0 (by decide) wm_6_159 rfl rfl dX8_isCleared_78 ?_
                refine lv_iload_n hx hb dX8_isCleared_81 rfl (lv_at hl 3 rfl) ?_
                refine call_V (n := 1) (k0 := 3) (As := [.int (nI r)]) (rest := []) hX hB (k_X7_turnRow κ l (lA κ b_c (R * 5) f1_63 :: gO g_c R R b_c :: lA κ b_w (R * 5) f2_63 :: gO g_w R C b_w :: (s_0, .inr (9, [.ref g_w, .ref g_c, .int i1_63, .int i2_2])) :: w) 3 2 g_w b_w R C f2_63 (nI r) r rfl rfl hs rfl (by omega)) ⟨rfl, by decide, by decide, by decide +kernel⟩ wm_6_146 wm_6_68 wm_6_69 wm_1_7 wm_6_70 ⟨Nat.le_of_ble_eq_true rfl, Nat.le_of_ble_eq_true rfl⟩ ⟨Nat.le_of_ble_eq_true rfl, Nat.le_of_ble_eq_true rfl⟩ rfl rfl rfl rfl hl.1 rfl (Nat.le_of_ble_eq_true rfl) dX8_isCleared_82 (fun o w' H locs hp hB => ?_)
                obtain ⟨rfl, hw9⟩ := hp
                replace hB : Bd κ A s (lA κ b_c (R * 5) f1_63 :: gO g_c R R b_c :: lA κ b_w (R * 5) (tr C r f2_63) :: gO g_w R C b_w :: (s_0, .inr (9, [.ref g_w, .ref g_c, .int i1_63, .int i2_2])) :: w) H locs := by rw [hw9] at hB; exact hB
                refine W.eq (g2 := F0 m 85 ls []) rfl ?_
                refine lv_aload_n hx hb dX8_isCleared_85 rfl (lv_at hl 2 rfl) ?_
                refine gf (k0 := 4) hX hB rfl rfl in8 1 (by decide) wm_6_161 rfl rfl dX8_isCleared_86 ?_
                refine lv_iload_n hx hb dX8_isCleared_89 rfl (lv_at hl 3 rfl) ?_
                refine call_V (n := 1) (k0 := 1) (As := [.int (nI r)]) (rest := []) hX hB (k_X7_turnRow κ l (lA κ b_c (R * 5) f1_63 :: gO g_c R R b_c :: lA κ b_w (R * 5) (tr C r f2_63) :: gO g_w R C b_w :: (s_0, .inr (9, [.ref g_w, .ref g_c, .int i1_63, .int i2_2])) :: w) 1 0 g_c b_c R R f1_63 (nI r) r rfl rfl ⟨by omega, by omega, by omega, by omega⟩ rfl (by omega)) ⟨rfl, by decide, by decide, by decide +kernel⟩ wm_6_146 wm_6_68 wm_6_69 wm_1_7 wm_6_70 ⟨Nat.le_of_ble_eq_true rfl, Nat.le_of_ble_eq_true rfl⟩ ⟨Nat.le_of_ble_eq_true rfl, Nat.le_of_ble_eq_true rfl⟩ rfl rfl rfl rfl hl.1 rfl (Nat.le_of_ble_eq_true rfl) dX8_isCleared_90 (fun o w' H locs hp hB => ?_)
                obtain ⟨rfl, hw9⟩ := hp
                replace hB : Bd κ A s (lA κ b_c (R * 5) (tr R r f1_63) :: gO g_c R R b_c :: lA κ b_w (R * 5) (tr C r f2_63) :: gO g_w R C b_w :: (s_0, .inr (9, [.ref g_w, .ref g_c, .int i1_63, .int i2_2])) :: w) H locs := by rw [hw9] at hB; exact hB
                refine W.eq (g2 := F0 m 93 ls []) rfl ?_
                refine lv_aload_n hx hb dX8_isCleared_93 rfl (lv_at hl 2 rfl) ?_
                refine lv_aload_n hx hb dX8_isCleared_94 rfl (lv_at hl 2 rfl) ?_
                refine gf (k0 := 4) hX hB rfl rfl in8 2 (by decide) wm_6_163 rfl rfl dX8_isCleared_95 ?_
                refine lv_ineg hx hb dX8_isCleared_98 ?_
                refine pf (ty := .int) (k0 := 4) hX hB rfl rfl in8 tyX8_ok nmX8 2 (by decide) wm_6_163 rfl rfl rfl rfl rfl (Nat.le_of_ble_eq_true rfl) (w1 := lA κ b_c (R * 5) (tr R r f1_63) :: gO g_c R R b_c :: lA κ b_w (R * 5) (tr C r f2_63) :: gO g_w R C b_w :: (s_0, .inr (9, [.ref g_w, .ref g_c, .int (-i1_63), .int i2_2])) :: w) rfl dX8_isCleared_99 (fun H locs hB => ?_)
                exact jn102 (tr R r f1_63) (tr C r f2_63) (-i1_63) _ _ (hJ1.trans (RS_tr ⟨hs1, hs2⟩ hs4 hrC ⟨Nat.le_refl _, hr⟩)) (ng_tr hJ2) (by rw [tr_r hc0 hs4]; exact pos_neg (hJ2 _ (by omega)) (by assumption)) (by rw [tr_r hc0 hs4, na_neg (hJ2 _ (by omega))]; exact hJ3.2) hR hB _ hl
            refine lv_icmp_eq (tgt := 63) hx hb dX8_isCleared_31 (by decide) (fun c258 => ?_) (fun c258 => ?_)
            · rw [neqP (a := ml) (b := r) (by omega) (by omega)] at c258
              replace hR := ifp c258 hR
              exact jn63 f1_2 f2_2 i1_2 _ _ hH_2.1 (hH_2.2.1 hG) ((show ml = r by omega) ▸ ⟨hm3, hmN⟩) hR hB _ hl
            · rw [neqP (a := ml) (b := r) (by omega) (by omega)] at c258
              replace hR := ifn c258 hR
              refine lv_aload_n hx hb dX8_isCleared_34 rfl (lv_at hl 2 rfl) ?_
              refine gf (k0 := 4) hX hB rfl rfl in8 0 (by decide) wm_6_159 rfl rfl dX8_isCleared_35 ?_
              refine lv_iload hx hb dX8_isCleared_38 (lv_at hl 0 rfl) ?_
              refine lv_iload_n hx hb dX8_isCleared_40 rfl (lv_at hl 3 rfl) ?_
              refine call_V (n := 2) (k0 := 3) (As := [.int (nI ml), .int (nI r)]) (rest := []) hX hB (k_X7_exchangeRows κ l (lA κ b_c (R * 5) f1_2 :: gO g_c R R b_c :: lA κ b_w (R * 5) f2_2 :: gO g_w R C b_w :: (s_0, .inr (9, [.ref g_w, .ref g_c, .int i1_2, .int i2_2])) :: w) 3 2 g_w b_w R C f2_2 (nI ml) ml (nI r) r rfl rfl hs rfl rfl (by omega) (by omega)) ⟨rfl, by decide, by decide, by decide +kernel⟩ wm_6_145 wm_6_52 wm_6_53 wm_1_7 wm_6_54 ⟨Nat.le_of_ble_eq_true rfl, Nat.le_of_ble_eq_true rfl⟩ ⟨Nat.le_of_ble_eq_true rfl, Nat.le_of_ble_eq_true rfl⟩ rfl rfl rfl rfl hl.1 rfl (Nat.le_of_ble_eq_true rfl) dX8_isCleared_41 (fun o w' H locs hp hB => ?_)
              obtain ⟨rfl, hw9⟩ := hp
              replace hB : Bd κ A s (lA κ b_c (R * 5) f1_2 :: gO g_c R R b_c :: lA κ b_w (R * 5) (xr C ml r f2_2) :: gO g_w R C b_w :: (s_0, .inr (9, [.ref g_w, .ref g_c, .int i1_2, .int i2_2])) :: w) H locs := by rw [hw9] at hB; exact hB
              refine W.eq (g2 := F0 m 44 ls []) rfl ?_
              refine lv_aload_n hx hb dX8_isCleared_44 rfl (lv_at hl 2 rfl) ?_
              refine gf (k0 := 4) hX hB rfl rfl in8 1 (by decide) wm_6_161 rfl rfl dX8_isCleared_45 ?_
              refine lv_iload hx hb dX8_isCleared_48 (lv_at hl 0 rfl) ?_
              refine lv_iload_n hx hb dX8_isCleared_50 rfl (lv_at hl 3 rfl) ?_
              refine call_V (n := 2) (k0 := 1) (As := [.int (nI ml), .int (nI r)]) (rest := []) hX hB (k_X7_exchangeRows κ l (lA κ b_c (R * 5) f1_2 :: gO g_c R R b_c :: lA κ b_w (R * 5) (xr C ml r f2_2) :: gO g_w R C b_w :: (s_0, .inr (9, [.ref g_w, .ref g_c, .int i1_2, .int i2_2])) :: w) 1 0 g_c b_c R R f1_2 (nI ml) ml (nI r) r rfl rfl ⟨by omega, by omega, by omega, by omega⟩ rfl rfl (by omega) (by omega)) ⟨rfl, by decide, by decide, by decide +kernel⟩ wm_6_145 wm_6_52 wm_6_53 wm_1_7 wm_6_54 ⟨Nat.le_of_ble_eq_true rfl, Nat.le_of_ble_eq_true rfl⟩ ⟨Nat.le_of_ble_eq_true rfl, Nat.le_of_ble_eq_true rfl⟩ rfl rfl rfl rfl hl.1 rfl (Nat.le_of_ble_eq_true rfl) dX8_isCleared_51 (fun o w' H locs hp hB => ?_)
              obtain ⟨rfl, hw9⟩ := hp
              replace hB : Bd κ A s (lA κ b_c (R * 5) (xr R ml r f1_2) :: gO g_c R R b_c :: lA κ b_w (R * 5) (xr C ml r f2_2) :: gO g_w R C b_w :: (s_0, .inr (9, [.ref g_w, .ref g_c, .int i1_2, .int i2_2])) :: w) H locs := by rw [hw9] at hB; exact hB
              refine W.eq (g2 := F0 m 54 ls []) rfl ?_
              refine lv_aload_n hx hb dX8_isCleared_54 rfl (lv_at hl 2 rfl) ?_
              refine lv_aload_n hx hb dX8_isCleared_55 rfl (lv_at hl 2 rfl) ?_
              refine gf (k0 := 4) hX hB rfl rfl in8 2 (by decide) wm_6_163 rfl rfl dX8_isCleared_56 ?_
              refine lv_ineg hx hb dX8_isCleared_59 ?_
              refine pf (ty := .int) (k0 := 4) hX hB rfl rfl in8 tyX8_ok nmX8 2 (by decide) wm_6_163 rfl rfl rfl rfl rfl (Nat.le_of_ble_eq_true rfl) (w1 := lA κ b_c (R * 5) (xr R ml r f1_2) :: gO g_c R R b_c :: lA κ b_w (R * 5) (xr C ml r f2_2) :: gO g_w R C b_w :: (s_0, .inr (9, [.ref g_w, .ref g_c, .int (-i1_2), .int i2_2])) :: w) rfl dX8_isCleared_60 (fun H locs hB => ?_)
              exact jn63 (xr R ml r f1_2) (xr C ml r f2_2) (-i1_2) _ _ (hH_2.1.trans (RS_xr ⟨hs1, hs2⟩ hrC hs4 ⟨hm1, hm2⟩ ⟨Nat.le_refl _, hr⟩ (by omega))) (ng_xr hm2 hr (hH_2.2.1 hG)) (by rw [xr_r hc0 hs4]; exact ⟨hm3, hmN⟩) hR hB _ hl
  exact lp2 (1000000000 + 1) 1 f1 f2 i1 i2 N0 _ _ (HI_0 hgr hng hN0) (by omega) hR hB _ hl
noncomputable def D_X8_rank_20 (C : Nat) (f2 : Nat → Int64) (lb4 : Nat → Nat → Int32) (y2_4 : Nat) (y1_4 : Nat) (nn : Nat) : Nat → Int32 → Int32 := @Nat.rec (fun _ => Nat → Int32 → Int32) (fun _ _ => default) (fun _ lb20 (y4_20 : Nat) (y3_20 : Int32) => (if C ≤ y4_20 then (if y3_20 = 0 then (lb4 (y2_4 + 1) (y1_4 + 0)) else (lb4 (y2_4 + 1) (y1_4 + 1))) else (if (lg_cmp (f2 (y2_4 * 5 + y4_20)) 0) = 0 then (lb20 (y4_20 + 1) (y3_20 ||| 0)) else (lb20 (y4_20 + 1) (y3_20 ||| 1))))) nn
theorem D_X8_rank_20_s {C : Nat} {f2 : Nat → Int64} {lb4 : Nat → Nat → Int32} {y2_4 : Nat} {y1_4 : Nat} {nn : Nat} {y4_20 : Nat} {y3_20 : Int32} : D_X8_rank_20 C f2 lb4 y2_4 y1_4 (nn + 1) y4_20 y3_20 = (if C ≤ y4_20 then (if y3_20 = 0 then (lb4 (y2_4 + 1) (y1_4 + 0)) else (lb4 (y2_4 + 1) (y1_4 + 1))) else (if (lg_cmp (f2 (y2_4 * 5 + y4_20)) 0) = 0 then ((D_X8_rank_20 C f2 lb4 y2_4 y1_4 nn) (y4_20 + 1) (y3_20 ||| 0)) else ((D_X8_rank_20 C f2 lb4 y2_4 y1_4 nn) (y4_20 + 1) (y3_20 ||| 1)))) := rfl
noncomputable def D_X8_rank_4 (R : Nat) (C : Nat) (f2 : Nat → Int64) (nn : Nat) : Nat → Nat → Int32 := @Nat.rec (fun _ => Nat → Nat → Int32) (fun _ _ => default) (fun _ lb4 (y2_4 : Nat) (y1_4 : Nat) => (if R ≤ y2_4 then nI y1_4 else (D_X8_rank_20 C f2 lb4 y2_4 y1_4 (C + 1 - 0 + 1) 0 0))) nn
theorem D_X8_rank_4_s {R : Nat} {C : Nat} {f2 : Nat → Int64} {nn : Nat} {y2_4 : Nat} {y1_4 : Nat} : D_X8_rank_4 R C f2 (nn + 1) y2_4 y1_4 = (if R ≤ y2_4 then nI y1_4 else (D_X8_rank_20 C f2 (D_X8_rank_4 R C f2 nn) y2_4 y1_4 (C + 1 - 0 + 1) 0 0)) := rfl
noncomputable def D_X8_rank (R : Nat) (C : Nat) (f1 : Nat → Int64) (f2 : Nat → Int64) (i1 : Int32) (i2 : Int32) : Int32 := (D_X8_rank_4 R C f2 (R + 1 - 0 + 1) 0 0)
theorem D_X8_rank_s {R : Nat} {C : Nat} {f1 : Nat → Int64} {f2 : Nat → Int64} {i1 : Int32} {i2 : Int32} : D_X8_rank R C f1 f2 i1 i2 = (D_X8_rank_4 R C f2 (R + 1 - 0 + 1) 0 0) := rfl
set_option maxHeartbeats 4000000 in
set_option maxRecDepth 100000 in
theorem k_X8_rank (κ : Kt) (l : Launch) (w : va_W) (s_0 g_c b_c g_w b_w R C : Nat) (f1 f2 : Nat → Int64) (i1 i2 : Int32) (hs : shp R C) (o_x : Int32) (hR : D_X8_rank R C f1 f2 i1 i2 = o_x) : CM κ l yX8_rank cX8_rank 5 (some .int) 1 22 0 0 [.ref s_0] (lA κ b_c (R * 5) f1 :: gO g_c R R b_c :: lA κ b_w (R * 5) f2 :: gO g_w R C b_w :: (s_0, .inr (9, [.ref g_w, .ref g_c, .int i1, .int i2])) :: w) (fun o w' => o = some (.int o_x) ∧ w' = lA κ b_c (R * 5) f1 :: gO g_c R R b_c :: lA κ b_w (R * 5) f2 :: gO g_w R C b_w :: (s_0, .inr (9, [.ref g_w, .ref g_c, .int i1, .int i2])) :: w) := by
  have hs0 := hs
  obtain ⟨hs1, hs2, hs3, hs4⟩ := hs0
  refine CM_begin (plainFor_of_name (by decide)) (Nat.le_of_ble_eq_true rfl) ?_
  intro p e s m args below meth c A Q hX hnm hA3 hQ hB ls hl
  have hx := hX.1.1
  have hb := hX.1.2.1
  have hl : lv_has ls 5 [(0, .ref s_0)] := hl
  replace hR := (D_X8_rank_s).symm.trans hR
  refine lv_iconst (v := 0) hx hb dX8_rank_0 (by decide) ?_
  refine lv_istore_n (lv' := [(1, .int 0), (0, .ref s_0)]) hx hb dX8_rank_1 rfl hl (by decide) rfl (fun ls hl => ?_)
  refine lv_iconst (v := 0) hx hb dX8_rank_2 (by decide) ?_
  refine lv_istore_n (lv' := [(2, .int 0), (1, .int 0), (0, .ref s_0)]) hx hb dX8_rank_3 rfl hl (by decide) rfl (fun ls hl => ?_)
  have lp4 : ∀ (nn4 : Nat) (y2_4 : Nat) (y1_4 : Nat) (H : Heap) (locs : List Loc), (y2_4 ≤ R) → R + 1 - y2_4 < nn4 → D_X8_rank_4 R C f2 nn4 y2_4 y1_4 = o_x → Bd κ A s (lA κ b_c (R * 5) f1 :: gO g_c R R b_c :: lA κ b_w (R * 5) f2 :: gO g_w R C b_w :: (s_0, .inr (9, [.ref g_w, .ref g_c, .int i1, .int i2])) :: w) H locs → ∀ ls : Array Slot, lv_has ls 5 [(2, .int (nI y2_4)), (1, .int (nI y1_4)), (0, .ref s_0)] → W p l e (Rm 1 22 0 0) s m args below meth c H locs (0) (0) Q (F0 m 4 ls []) := by
    intro nn4
    induction nn4 with
    | zero => intro y2_4 y1_4 H locs hn2_4 hμ; exact absurd hμ (Nat.not_lt_zero _)
    | succ nn4 ih4 =>
      intro y2_4 y1_4 H locs hn2_4 hμ4 hR hB ls hl
      replace hR := (D_X8_rank_4_s).symm.trans hR
      refine lv_iload_n hx hb dX8_rank_4 rfl (lv_at hl 0 rfl) ?_
      refine lv_aload_n hx hb dX8_rank_5 rfl (lv_at hl 2 rfl) ?_
      refine gf (k0 := 4) hX hB rfl rfl in8 0 (by decide) wm_6_159 rfl rfl dX8_rank_6 ?_
      refine gf (k0 := 3) hX hB rfl rfl in7 0 (by decide) wm_5_146 rfl rfl dX8_rank_9 ?_
      refine lv_icmp_ge (tgt := 79) hx hb dX8_rank_12 (by decide) (fun c33 => ?_) (fun c33 => ?_)
      · rw [nleP (a := R) (b := y2_4) (by omega) (by omega)] at c33
        replace hR := ifp c33 hR
        refine lv_iload_n hx hb dX8_rank_79 rfl (lv_at hl 1 rfl) ?_
        rw [← hQ]
        exact end_i hX hB hA3 rfl rfl (by obtain rfl := hR; exact ⟨rfl, rfl⟩) (Nat.le_of_ble_eq_true rfl) (Nat.le_of_ble_eq_true rfl) dX8_rank_80
      · rw [nleP (a := R) (b := y2_4) (by omega) (by omega)] at c33
        replace hR := ifn c33 hR
        refine lv_iconst (v := 0) hx hb dX8_rank_15 (by decide) ?_
        refine lv_istore_n (lv' := [(3, .int 0), (2, .int (nI y2_4)), (1, .int (nI y1_4)), (0, .ref s_0)]) hx hb dX8_rank_16 rfl hl (by decide) rfl (fun ls hl => ?_)
        refine lv_iconst (v := 0) hx hb dX8_rank_17 (by decide) ?_
        refine lv_istore (lv' := [(4, .int 0), (3, .int 0), (2, .int (nI y2_4)), (1, .int (nI y1_4)), (0, .ref s_0)]) hx hb dX8_rank_18 hl (by decide) rfl (fun ls hl => ?_)
        have lp20 : ∀ (nn20 : Nat) (y4_20 : Nat) (y3_20 : Int32) (H : Heap) (locs : List Loc), (y4_20 ≤ C) → C + 1 - y4_20 < nn20 → D_X8_rank_20 C f2 (D_X8_rank_4 R C f2 nn4) y2_4 y1_4 nn20 y4_20 y3_20 = o_x → Bd κ A s (lA κ b_c (R * 5) f1 :: gO g_c R R b_c :: lA κ b_w (R * 5) f2 :: gO g_w R C b_w :: (s_0, .inr (9, [.ref g_w, .ref g_c, .int i1, .int i2])) :: w) H locs → ∀ ls : Array Slot, lv_has ls 5 [(4, .int (nI y4_20)), (3, .int y3_20), (2, .int (nI y2_4)), (1, .int (nI y1_4)), (0, .ref s_0)] → W p l e (Rm 1 22 0 0) s m args below meth c H locs (0) (0) Q (F0 m 20 ls []) := by
          intro nn20
          induction nn20 with
          | zero => intro y4_20 y3_20 H locs hn4_20 hμ; exact absurd hμ (Nat.not_lt_zero _)
          | succ nn20 ih20 =>
            intro y4_20 y3_20 H locs hn4_20 hμ20 hR hB ls hl
            replace hR := (D_X8_rank_20_s).symm.trans hR
            refine lv_iload hx hb dX8_rank_20 (lv_at hl 0 rfl) ?_
            refine lv_aload_n hx hb dX8_rank_22 rfl (lv_at hl 4 rfl) ?_
            refine gf (k0 := 4) hX hB rfl rfl in8 0 (by decide) wm_6_159 rfl rfl dX8_rank_23 ?_
            refine gf (k0 := 3) hX hB rfl rfl in7 1 (by decide) wm_5_151 rfl rfl dX8_rank_26 ?_
            refine lv_icmp_ge (tgt := 61) hx hb dX8_rank_29 (by decide) (fun c46 => ?_) (fun c46 => ?_)
            · rw [nleP (a := C) (b := y4_20) (by omega) (by omega)] at c46
              replace hR := ifp c46 hR
              refine lv_iload_n hx hb dX8_rank_61 rfl (lv_at hl 3 rfl) ?_
              refine lv_iload_n hx hb dX8_rank_62 rfl (lv_at hl 1 rfl) ?_
              refine lv_if_eq (tgt := 70) hx hb dX8_rank_63 (by decide) (fun c47 => ?_) (fun c47 => ?_)
              · replace hR := ifp c47 hR
                refine lv_iconst (v := 0) hx hb dX8_rank_70 (by decide) ?_
                refine lv_iadd hx hb dX8_rank_71 ?_
                refine eqi (y := nI (y1_4 + 0)) (nI_add y1_4 0) ?_
                refine lv_istore_n (lv' := [(1, .int (nI (y1_4 + 0))), (4, .int (nI y4_20)), (3, .int y3_20), (2, .int (nI y2_4)), (0, .ref s_0)]) hx hb dX8_rank_72 rfl hl (by decide) rfl (fun ls hl => ?_)
                refine lv_iinc (v := nI (y2_4 + 1)) (lv' := [(2, .int (nI (y2_4 + 1))), (1, .int (nI (y1_4 + 0))), (4, .int (nI y4_20)), (3, .int y3_20), (0, .ref s_0)]) hx hb dX8_rank_73 hl (k := 3) rfl (nI_add y2_4 1) (by decide) rfl (fun ls hl => ?_)
                refine lv_goto (tgt := 4) hx hb dX8_rank_76 (by decide) ?_
                exact ih4 (y2_4 + 1) (y1_4 + 0) _ _ (by omega) (by omega) hR hB _ (lv_sub hl [0, 1, 4] rfl)
              · replace hR := ifn c47 hR
                refine lv_iconst (v := 1) hx hb dX8_rank_66 (by decide) ?_
                refine lv_goto (tgt := 71) hx hb dX8_rank_67 (by decide) ?_
                refine lv_iadd hx hb dX8_rank_71 ?_
                refine eqi (y := nI (y1_4 + 1)) (nI_add y1_4 1) ?_
                refine lv_istore_n (lv' := [(1, .int (nI (y1_4 + 1))), (4, .int (nI y4_20)), (3, .int y3_20), (2, .int (nI y2_4)), (0, .ref s_0)]) hx hb dX8_rank_72 rfl hl (by decide) rfl (fun ls hl => ?_)
                refine lv_iinc (v := nI (y2_4 + 1)) (lv' := [(2, .int (nI (y2_4 + 1))), (1, .int (nI (y1_4 + 1))), (4, .int (nI y4_20)), (3, .int y3_20), (0, .ref s_0)]) hx hb dX8_rank_73 hl (k := 3) rfl (nI_add y2_4 1) (by decide) rfl (fun ls hl => ?_)
                refine lv_goto (tgt := 4) hx hb dX8_rank_76 (by decide) ?_
                exact ih4 (y2_4 + 1) (y1_4 + 1) _ _ (by omega) (by omega) hR hB _ (lv_sub hl [0, 1, 4] rfl)
            · rw [nleP (a := C) (b := y4_20) (by omega) (by omega)] at c46
              replace hR := ifn c46 hR
              refine lv_iload_n hx hb dX8_rank_32 rfl (lv_at hl 1 rfl) ?_
              refine lv_aload_n hx hb dX8_rank_33 rfl (lv_at hl 4 rfl) ?_
              refine gf (k0 := 4) hX hB rfl rfl in8 0 (by decide) wm_6_159 rfl rfl dX8_rank_34 ?_
              refine lv_iload_n hx hb dX8_rank_37 rfl (lv_at hl 2 rfl) ?_
              refine lv_iload hx hb dX8_rank_38 (lv_at hl 0 rfl) ?_
              refine call_V (n := 2) (k0 := 3) (As := [.int (nI y2_4), .int (nI y4_20)]) (rest := [.int y3_20]) hX hB (k_X7_at κ l (lA κ b_c (R * 5) f1 :: gO g_c R R b_c :: lA κ b_w (R * 5) f2 :: gO g_w R C b_w :: (s_0, .inr (9, [.ref g_w, .ref g_c, .int i1, .int i2])) :: w) 3 2 g_w b_w R C f2 (nI y2_4) y2_4 (nI y4_20) y4_20 rfl rfl hs rfl rfl (by omega)) ⟨rfl, by decide, by decide, by decide +kernel⟩ wm_6_143 wm_5_238 wm_5_239 wm_1_7 wm_6_0 ⟨Nat.le_of_ble_eq_true rfl, Nat.le_of_ble_eq_true rfl⟩ ⟨Nat.le_of_ble_eq_true rfl, Nat.le_of_ble_eq_true rfl⟩ rfl rfl rfl rfl hl.1 rfl (Nat.le_of_ble_eq_true rfl) dX8_rank_40 (fun o w' H locs hp hB => ?_)
              obtain ⟨rfl, hw9⟩ := hp
              replace hB : Bd κ A s (lA κ b_c (R * 5) f1 :: gO g_c R R b_c :: lA κ b_w (R * 5) f2 :: gO g_w R C b_w :: (s_0, .inr (9, [.ref g_w, .ref g_c, .int i1, .int i2])) :: w) H locs := by rw [hw9] at hB; exact hB
              refine W.eq (g2 := F0 m 43 ls [.long (f2 (y2_4 * 5 + y4_20)), .int y3_20]) rfl ?_
              refine lv_lconst (v := 0) hx hb dX8_rank_43 (by decide) ?_
              refine W.lcmp hx hb dX8_rank_44 ?_
              refine lv_if_eq (tgt := 52) hx hb dX8_rank_45 (by decide) (fun c48 => ?_) (fun c48 => ?_)
              · replace hR := ifp c48 hR
                refine lv_iconst (v := 0) hx hb dX8_rank_52 (by decide) ?_
                refine lv_ior hx hb dX8_rank_53 ?_
                refine lv_istore_n (lv' := [(3, .int (y3_20 ||| 0)), (4, .int (nI y4_20)), (2, .int (nI y2_4)), (1, .int (nI y1_4)), (0, .ref s_0)]) hx hb dX8_rank_54 rfl hl (by decide) rfl (fun ls hl => ?_)
                refine lv_iinc (v := nI (y4_20 + 1)) (lv' := [(4, .int (nI (y4_20 + 1))), (3, .int (y3_20 ||| 0)), (2, .int (nI y2_4)), (1, .int (nI y1_4)), (0, .ref s_0)]) hx hb dX8_rank_55 hl (k := 1) rfl (nI_add y4_20 1) (by decide) rfl (fun ls hl => ?_)
                refine lv_goto (tgt := 20) hx hb dX8_rank_58 (by decide) ?_
                exact ih20 (y4_20 + 1) (y3_20 ||| 0) _ _ (by omega) (by omega) hR hB _ hl
              · replace hR := ifn c48 hR
                refine lv_iconst (v := 1) hx hb dX8_rank_48 (by decide) ?_
                refine lv_goto (tgt := 53) hx hb dX8_rank_49 (by decide) ?_
                refine lv_ior hx hb dX8_rank_53 ?_
                refine lv_istore_n (lv' := [(3, .int (y3_20 ||| 1)), (4, .int (nI y4_20)), (2, .int (nI y2_4)), (1, .int (nI y1_4)), (0, .ref s_0)]) hx hb dX8_rank_54 rfl hl (by decide) rfl (fun ls hl => ?_)
                refine lv_iinc (v := nI (y4_20 + 1)) (lv' := [(4, .int (nI (y4_20 + 1))), (3, .int (y3_20 ||| 1)), (2, .int (nI y2_4)), (1, .int (nI y1_4)), (0, .ref s_0)]) hx hb dX8_rank_55 hl (k := 1) rfl (nI_add y4_20 1) (by decide) rfl (fun ls hl => ?_)
                refine lv_goto (tgt := 20) hx hb dX8_rank_58 (by decide) ?_
                exact ih20 (y4_20 + 1) (y3_20 ||| 1) _ _ (by omega) (by omega) hR hB _ hl
        exact lp20 _ 0 0 _ _ (by omega) (Nat.lt_succ_self _) hR hB _ hl
  exact lp4 _ 0 0 _ _ (by omega) (Nat.lt_succ_self _) hR hB _ hl

theorem dtn_congr {R : Nat} {F f : Nat → Int64} (h1 : 1 ≤ R) (h4 : R ≤ 4) (h : ∀ k, k < R * 5 → F k = f k) : dtn R F = dtn R f := by
  rcases c4 h1 h4 with rfl | rfl | rfl | rfl <;> simp [dtn, dt2, dt3, dt4, h]
/-- the loop of the constructor -/
def JI (R C : Nat) (f : Nat → Int64) (r c0 : Nat) (F : Nat → Int64) (G : Int32) : Prop := (G = 0 → ∀ k, k < R * 5 → ng (F k)) ∧ (G = 0 → R = C → dtn R f ≠ 0 → r = c0 ∧ Tri R r F ∧ dtn R F ≠ 0)
section JIS
variable {R C r c0 : Nat} {f F F1 : Nat → Int64} {G G1 : Int32}
theorem JI_0 (h1 : 1 ≤ R) (h4 : R ≤ 4) (hc : ∀ k, k < R * 5 → F k = f k) (hng : ∀ k, k < R * 5 → ng (f k)) : JI R C f 0 0 F G :=
  ⟨fun _ k hk => by rw [hc k hk]; exact hng k hk, fun _ _ hd => ⟨rfl, fun j hj => absurd hj (Nat.not_lt_zero j), by rw [dtn_congr h1 h4 hc]; exact hd⟩⟩
theorem JI_s1 (hJ : JI R C f r c0 F G) (hG : G = 0) (h : CI R C r c0 F F1 G1 1) : JI R C f (r + 1) (c0 + 1) F1 G1 := by
  refine ⟨h.2.1, fun hg e hd => ?_⟩
  obtain ⟨a1, a2, a3⟩ := hJ.2 hG e hd
  obtain ⟨b1, b2⟩ := h.2.2.1 rfl
  subst a1
  refine ⟨rfl, fun j hj => ?_, fun z => a3 ((h.1.2 e).mp z)⟩
  by_cases ej : j = r
  · subst ej
    exact ⟨b1, fun i h1 h2 => b2 hg i h1 h2⟩
  · exact h.1.1 a2 j (by omega)
theorem JI_s0 (hJ : JI R C f r c0 F G) (hR4 : R ≤ 4) (hr : r < R) (hG : G = 0) (h : CI R C r c0 F F1 G1 0) : JI R C f r (c0 + 1) F1 G1 := by
  refine ⟨h.2.1, fun hg e hd => ?_⟩
  obtain ⟨a1, a2, a3⟩ := hJ.2 hG e hd
  subst a1
  exact absurd ((h.1.2 e).mp (tri_0 hR4 hr (h.1.1 a2) (h.2.2.2 rfl))) a3
theorem JI_d (hJ : JI R C f r c0 F G) (h : C ≤ c0 ∨ R ≤ r) (hrc : c0 ≤ C) : G = 0 → R = C → dtn R f ≠ 0 → ∀ j, j < R → F (j * 5 + j) ≠ 0 := by
  intro hg e hd j hj
  obtain ⟨a1, a2, a3⟩ := hJ.2 hg e hd
  exact (a2 j (by omega)).1
end JIS

noncomputable def D_X8_init_32 (R : Nat) (C : Nat) (nn : Nat) : Nat → Nat → (Nat → Int64) → (Nat → Int64) → Int32 → Int32 → (Nat → Int64) × (Nat → Int64) × Int32 × Int32 := @Nat.rec (fun _ => Nat → Nat → (Nat → Int64) → (Nat → Int64) → Int32 → Int32 → (Nat → Int64) × (Nat → Int64) × Int32 × Int32) (fun _ _ _ _ _ _ => default) (fun _ lb32 (y3_32 : Nat) (y2_32 : Nat) (fq2_32 : Nat → Int64) (fq7_32 : Nat → Int64) (i1_32 : Int32) (i2_32 : Int32) => (if C ≤ y3_32 then (fq7_32, fq2_32, i1_32, i2_32) else (if R ≤ y2_32 then (fq7_32, fq2_32, i1_32, i2_32) else (if i2_32 = 0 then bnd5 (D_X8_isCleared R C fq7_32 fq2_32 i1_32 i2_32 y2_32 y3_32) (fun (x40 : Int32) (F41 : Nat → Int64) (F42 : Nat → Int64) (S43 : Int32) (G44 : Int32) => (if x40 = 0 then (lb32 (y3_32 + 1) y2_32 F42 F41 S43 G44) else (lb32 (y3_32 + 1) (y2_32 + 1) F42 F41 S43 G44))) else (fq7_32, fq2_32, i1_32, i2_32))))) nn
theorem D_X8_init_32_s {R : Nat} {C : Nat} {nn : Nat} {y3_32 : Nat} {y2_32 : Nat} {fq2_32 : Nat → Int64} {fq7_32 : Nat → Int64} {i1_32 : Int32} {i2_32 : Int32} : D_X8_init_32 R C (nn + 1) y3_32 y2_32 fq2_32 fq7_32 i1_32 i2_32 = (if C ≤ y3_32 then (fq7_32, fq2_32, i1_32, i2_32) else (if R ≤ y2_32 then (fq7_32, fq2_32, i1_32, i2_32) else (if i2_32 = 0 then bnd5 (D_X8_isCleared R C fq7_32 fq2_32 i1_32 i2_32 y2_32 y3_32) (fun (x40 : Int32) (F41 : Nat → Int64) (F42 : Nat → Int64) (S43 : Int32) (G44 : Int32) => (if x40 = 0 then ((D_X8_init_32 R C nn) (y3_32 + 1) y2_32 F42 F41 S43 G44) else ((D_X8_init_32 R C nn) (y3_32 + 1) (y2_32 + 1) F42 F41 S43 G44))) else (fq7_32, fq2_32, i1_32, i2_32)))) := rfl
noncomputable def D_X8_init (R : Nat) (C : Nat) (f : Nat → Int64) : (Nat → Int64) × (Nat → Int64) × Int32 × Int32 := bnd1 (D_X7_copy R C f) (fun (F3 : Nat → Int64) => bnd1 (D_X7_unit R) (fun (F8 : Nat → Int64) => (D_X8_init_32 R C (C + 1 - 0 + 1) 0 0 F3 F8 1 0)))
theorem D_X8_init_s {R : Nat} {C : Nat} {f : Nat → Int64} : D_X8_init R C f = bnd1 (D_X7_copy R C f) (fun (F3 : Nat → Int64) => bnd1 (D_X7_unit R) (fun (F8 : Nat → Int64) => (D_X8_init_32 R C (C + 1 - 0 + 1) 0 0 F3 F8 1 0))) := rfl
set_option maxHeartbeats 4000000 in
set_option maxRecDepth 100000 in
theorem k_X8_init (κ : Kt) (l : Launch) (w : va_W) (s_0 k1 k2 g b R C : Nat) (f : Nat → Int64) (h1 : w[k1]? = some (gO g R C b)) (h2 : w[k2]? = some (lA κ b (R * 5) f)) (hs : shp R C) (hng : ∀ k, k < R * 5 → ng (f k)) (o_F1 : Nat → Int64) (o_F2 : Nat → Int64) (o_S1 : Int32) (o_G1 : Int32) (hR : D_X8_init R C f = (o_F1, o_F2, o_S1, o_G1)) : CM κ l yX8_init cX8_init 4 (none) 4 99 4 46 [.ref s_0, .ref g] ((s_0, .inr (9, [.null, .null, .int 0, .int 0])) :: w) (fun o w' => ∃ (g_c : Nat) (b_c : Nat) (g_w : Nat) (b_w : Nat), o = none ∧ (o_G1 = 0 → R = C → dtn R f ≠ 0 → ∀ j, j < R → o_F2 (j * 5 + j) ≠ 0) ∧ w' = lA κ b_c (R * 5) o_F1 :: gO g_c R R b_c :: lA κ b_w (R * 5) o_F2 :: gO g_w R C b_w :: (s_0, .inr (9, [.ref g_w, .ref g_c, .int o_S1, .int o_G1])) :: w) := by
  have hs0 := hs
  obtain ⟨hs1, hs2, hs3, hs4⟩ := hs0
  refine CM_begin (plainFor_of_name (by decide)) (Nat.le_of_ble_eq_true rfl) ?_
  intro p e s m args below meth c A Q hX hnm hA3 hQ hB ls hl
  have hx := hX.1.1
  have hb := hX.1.2.1
  have hl : lv_has ls 4 [(0, .ref s_0), (1, .ref g)] := hl
  replace hR := (D_X8_init_s).symm.trans hR
  refine lv_aload_n hx hb dX8_init_0 rfl (lv_at hl 0 rfl) ?_
  refine W.objInit hx hb hX.1.2.2.2.1 (hX.1.2.2.2.2 _ wm_6_132) (hX.1.2.2.2.2 _ wm_1_36) (hX.1.2.2.2.2 _ wm_1_37) rfl (by rw [hX.1.2.2.1]; exact hl.1) rfl dX8_init_1 (Nat.le_of_ble_eq_true rfl) (Nat.le_of_ble_eq_true rfl) ?_
  refine W.eq (g2 := F0 m 4 ls []) rfl ?_
  refine lv_aload_n hx hb dX8_init_4 rfl (lv_at hl 0 rfl) ?_
  refine lv_iconst (v := 1) hx hb dX8_init_5 (by decide) ?_
  refine pf (ty := .int) (k0 := 0) hX hB rfl rfl in8 tyX8_ok nmX8 2 (by decide) wm_6_163 rfl rfl rfl rfl rfl (Nat.le_of_ble_eq_true rfl) (w1 := (s_0, .inr (9, [.null, .null, .int 1, .int 0])) :: w) rfl dX8_init_6 (fun H locs hB => ?_)
  refine lv_aload_n hx hb dX8_init_9 rfl (lv_at hl 0 rfl) ?_
  refine lv_aload_n hx hb dX8_init_10 rfl (lv_at hl 1 rfl) ?_
  obtain ⟨F3, hd4⟩ := ex1 (D_X7_copy R C f)
  replace hR := bnd1_use hd4 hR
  refine call_V (n := 0) (k0 := (k1 + 1)) (As := []) (rest := [.ref s_0]) hX hB (k_X7_copy κ l ((s_0, .inr (9, [.null, .null, .int 1, .int 0])) :: w) (k1 + 1) (k2 + 1) g b R C f h1 h2 hs F3 hd4) ⟨rfl, by decide, by decide, by decide +kernel⟩ wm_6_133 wm_6_24 wm_6_25 wm_1_7 wm_6_26 ⟨Nat.le_of_ble_eq_true rfl, Nat.le_of_ble_eq_true rfl⟩ ⟨Nat.le_of_ble_eq_true rfl, Nat.le_of_ble_eq_true rfl⟩ h1 rfl rfl rfl hl.1 rfl (Nat.le_of_ble_eq_true rfl) dX8_init_11 (fun o w' H locs hp hB => ?_)
  obtain ⟨q1, q2, rfl, hf5, hw9⟩ := hp
  replace hB : Bd κ A s (lA κ q2 (R * 5) F3 :: gO q1 R C q2 :: (s_0, .inr (9, [.null, .null, .int 1, .int 0])) :: w) H locs := by rw [hw9] at hB; exact hB
  refine W.eq (g2 := F0 m 14 ls [.ref q1, .ref s_0]) rfl ?_
  refine pfF (ty := .object "GridmenderModel$Grid") (k0 := 2) hX hnm hB rfl rfl in8 tyX8_ok nmX8 0 (by decide) wm_6_159 rfl rfl rfl rfl rfl rfl (Nat.le_of_ble_eq_true rfl) (w1 := lA κ q2 (R * 5) F3 :: gO q1 R C q2 :: (s_0, .inr (9, [.ref q1, .null, .int 1, .int 0])) :: w) rfl dX8_init_14 (fun H locs hB => ?_)
  refine lv_aload_n hx hb dX8_init_17 rfl (lv_at hl 0 rfl) ?_
  refine lv_aload_n hx hb dX8_init_18 rfl (lv_at hl 1 rfl) ?_
  refine gf (k0 := k1 + 3) hX hB h1 rfl in7 0 (by decide) wm_5_146 rfl rfl dX8_init_19 ?_
  obtain ⟨F8, hd9⟩ := ex1 (D_X7_unit R)
  replace hR := bnd1_use hd9 hR
  refine call_S (n := 1) (As := [.int (nI R)]) (rest := [.ref s_0]) hX hB (k_X7_unit κ l (lA κ q2 (R * 5) F3 :: gO q1 R C q2 :: (s_0, .inr (9, [.ref q1, .null, .int 1, .int 0])) :: w) (nI R) R rfl (by omega) (by omega) F8 hd9) ⟨by decide, by decide, by decide +kernel⟩ wm_6_134 wm_5_217 wm_1_7 wm_5_218 ⟨Nat.le_of_ble_eq_true rfl, Nat.le_of_ble_eq_true rfl⟩ ⟨Nat.le_of_ble_eq_true rfl, Nat.le_of_ble_eq_true rfl⟩ rfl hl.1 rfl (Nat.le_of_ble_eq_true rfl) dX8_init_22 (fun o w' H locs hp hB => ?_)
  obtain ⟨q6, q7, rfl, hf10, hw9⟩ := hp
  replace hB : Bd κ A s (lA κ q7 (R * 5) F8 :: gO q6 R R q7 :: lA κ q2 (R * 5) F3 :: gO q1 R C q2 :: (s_0, .inr (9, [.ref q1, .null, .int 1, .int 0])) :: w) H locs := by rw [hw9] at hB; exact hB
  refine W.eq (g2 := F0 m 25 ls [.ref q6, .ref s_0]) rfl ?_
  refine pfF (ty := .object "GridmenderModel$Grid") (k0 := 4) hX hnm hB rfl rfl in8 tyX8_ok nmX8 1 (by decide) wm_6_161 rfl rfl rfl rfl rfl rfl (Nat.le_of_ble_eq_true rfl) (w1 := lA κ q7 (R * 5) F8 :: gO q6 R R q7 :: lA κ q2 (R * 5) F3 :: gO q1 R C q2 :: (s_0, .inr (9, [.ref q1, .ref q6, .int 1, .int 0])) :: w) rfl dX8_init_25 (fun H locs hB => ?_)
  refine lv_iconst (v := 0) hx hb dX8_init_28 (by decide) ?_
  refine lv_istore_n (lv' := [(2, .int 0), (0, .ref s_0), (1, .ref g)]) hx hb dX8_init_29 rfl hl (by decide) rfl (fun ls hl => ?_)
  refine lv_iconst (v := 0) hx hb dX8_init_30 (by decide) ?_
  refine lv_istore_n (lv' := [(3, .int 0), (2, .int 0), (0, .ref s_0), (1, .ref g)]) hx hb dX8_init_31 rfl hl (by decide) rfl (fun ls hl => ?_)
  have lp32 : ∀ (nn32 : Nat) (y3_32 : Nat) (y2_32 : Nat) (fq2_32 : Nat → Int64) (fq7_32 : Nat → Int64) (i1_32 : Int32) (i2_32 : Int32) (H : Heap) (locs : List Loc), (y3_32 ≤ C) → (y2_32 ≤ y3_32 ∧ y2_32 ≤ R) → (JI R C f y2_32 y3_32 fq2_32 i2_32) → C + 1 - y3_32 < nn32 → D_X8_init_32 R C nn32 y3_32 y2_32 fq2_32 fq7_32 i1_32 i2_32 = (o_F1, o_F2, o_S1, o_G1) → Bd κ A s (lA κ q7 (R * 5) fq7_32 :: gO q6 R R q7 :: lA κ q2 (R * 5) fq2_32 :: gO q1 R C q2 :: (s_0, .inr (9, [.ref q1, .ref q6, .int i1_32, .int i2_32])) :: w) H locs → ∀ ls : Array Slot, lv_has ls 4 [(3, .int (nI y3_32)), (2, .int (nI y2_32)), (0, .ref s_0), (1, .ref g)] → W p l e (Rm 4 99 4 46) s m args below meth c H locs (4) (46) Q (F0 m 32 ls []) := by
    intro nn32
    induction nn32 with
    | zero => intro y3_32 y2_32 fq2_32 fq7_32 i1_32 i2_32 H locs hn3_32 hr0 hJ_32 hμ; exact absurd hμ (Nat.not_lt_zero _)
    | succ nn32 ih32 =>
      intro y3_32 y2_32 fq2_32 fq7_32 i1_32 i2_32 H locs hn3_32 hr0 hJ_32 hμ32 hR hB ls hl
      replace hR := (D_X8_init_32_s).symm.trans hR
      refine lv_iload_n hx hb dX8_init_32 rfl (lv_at hl 0 rfl) ?_
      refine lv_aload_n hx hb dX8_init_33 rfl (lv_at hl 2 rfl) ?_
      refine gf (k0 := 4) hX hB rfl rfl in8 0 (by decide) wm_6_159 rfl rfl dX8_init_34 ?_
      refine gf (k0 := 3) hX hB rfl rfl in7 1 (by decide) wm_5_151 rfl rfl dX8_init_37 ?_
      refine lv_icmp_ge (tgt := 79) hx hb dX8_init_40 (by decide) (fun c37 => ?_) (fun c37 => ?_)
      · rw [nleP (a := C) (b := y3_32) (by omega) (by omega)] at c37
        replace hR := ifp c37 hR
        have hX1 : C ≤ y3_32 ∨ R ≤ y2_32 := Or.inl c37
        rw [← hQ]
        exact end_v hX hB hA3 rfl (by obtain ⟨rfl, rfl, rfl, rfl⟩ := pr4 hR; exact ⟨q6, q7, q1, q2, rfl, (by first | exact JI_d hJ_32 hX1 (by omega) | exact fun h => absurd h hX2), rfl⟩) (Nat.le_of_ble_eq_true rfl) (Nat.le_of_ble_eq_true rfl) dX8_init_79
      · rw [nleP (a := C) (b := y3_32) (by omega) (by omega)] at c37
        replace hR := ifn c37 hR
        refine lv_iload_n hx hb dX8_init_43 rfl (lv_at hl 1 rfl) ?_
        refine lv_aload_n hx hb dX8_init_44 rfl (lv_at hl 2 rfl) ?_
        refine gf (k0 := 4) hX hB rfl rfl in8 0 (by decide) wm_6_159 rfl rfl dX8_init_45 ?_
        refine gf (k0 := 3) hX hB rfl rfl in7 0 (by decide) wm_5_146 rfl rfl dX8_init_48 ?_
        refine lv_icmp_ge (tgt := 79) hx hb dX8_init_51 (by decide) (fun c38 => ?_) (fun c38 => ?_)
        · rw [nleP (a := R) (b := y2_32) (by omega) (by omega)] at c38
          replace hR := ifp c38 hR
          have hX1 : C ≤ y3_32 ∨ R ≤ y2_32 := Or.inr c38
          rw [← hQ]
          exact end_v hX hB hA3 rfl (by obtain ⟨rfl, rfl, rfl, rfl⟩ := pr4 hR; exact ⟨q6, q7, q1, q2, rfl, (by first | exact JI_d hJ_32 hX1 (by omega) | exact fun h => absurd h hX2), rfl⟩) (Nat.le_of_ble_eq_true rfl) (Nat.le_of_ble_eq_true rfl) dX8_init_79
        · rw [nleP (a := R) (b := y2_32) (by omega) (by omega)] at c38
          replace hR := ifn c38 hR
          refine lv_aload_n hx hb dX8_init_54 rfl (lv_at hl 2 rfl) ?_
          refine gf (k0 := 4) hX hB rfl rfl in8 3 (by decide) wm_6_165 rfl rfl dX8_init_55 ?_
          refine lv_if_ne (tgt := 79) hx hb dX8_init_58 (by decide) (fun c39 => ?_) (fun c39 => ?_)
          · replace hR := ifn c39 hR
            have hX2 := c39
            rw [← hQ]
            exact end_v hX hB hA3 rfl (by obtain ⟨rfl, rfl, rfl, rfl⟩ := pr4 hR; exact ⟨q6, q7, q1, q2, rfl, (by first | exact JI_d hJ_32 hX1 (by omega) | exact fun h => absurd h hX2), rfl⟩) (Nat.le_of_ble_eq_true rfl) (Nat.le_of_ble_eq_true rfl) dX8_init_79
          · replace hR := ifp c39 hR
            have hG := c39
            refine lv_aload_n hx hb dX8_init_61 rfl (lv_at hl 2 rfl) ?_
            refine lv_iload_n hx hb dX8_init_62 rfl (lv_at hl 1 rfl) ?_
            refine lv_iload_n hx hb dX8_init_63 rfl (lv_at hl 0 rfl) ?_
            obtain ⟨x40, F41, F42, S43, G44, hd45⟩ := ex5 (D_X8_isCleared R C fq7_32 fq2_32 i1_32 i2_32 y2_32 y3_32)
            replace hR := bnd5_use hd45 hR
            refine call_V (n := 2) (k0 := 4) (As := [.int (nI y2_32), .int (nI y3_32)]) (rest := []) hX hB (k_X8_isCleared κ l (w) s_0 q6 q7 q1 q2 R C fq7_32 fq2_32 i1_32 i2_32 (nI y2_32) y2_32 (nI y3_32) y3_32 ⟨by omega, by omega, by omega, by omega⟩ rfl rfl (by omega) (by omega) (by omega) hG (hJ_32.1 hG) x40 F41 F42 S43 G44 hd45) ⟨rfl, by decide, by decide, by decide +kernel⟩ wm_6_135 wm_6_137 wp_38 wm_1_15 wm_6_138 ⟨Nat.le_of_ble_eq_true rfl, Nat.le_of_ble_eq_true rfl⟩ ⟨Nat.le_of_ble_eq_true rfl, Nat.le_of_ble_eq_true rfl⟩ rfl rfl rfl rfl hl.1 rfl (Nat.le_of_ble_eq_true rfl) dX8_init_64 (fun o w' H locs hp hB => ?_)
            obtain ⟨rfl, hf46, hf47, hw9⟩ := hp
            replace hB : Bd κ A s (lA κ q7 (R * 5) F41 :: gO q6 R R q7 :: lA κ q2 (R * 5) F42 :: gO q1 R C q2 :: (s_0, .inr (9, [.ref q1, .ref q6, .int S43, .int G44])) :: w) H locs := by rw [hw9] at hB; exact hB
            rcases hf46 with rfl | rfl
            · replace hR := ifp rfl hR
              refine W.eq (g2 := F0 m 67 ls [.int 0]) rfl ?_
              refine lv_if_eq (tgt := 73) hx hb dX8_init_67 (by decide) (fun _ => ?_) (fun c48 => False.elim (by revert c48; decide))
              refine lv_iinc (v := nI (y3_32 + 1)) (lv' := [(3, .int (nI (y3_32 + 1))), (2, .int (nI y2_32)), (0, .ref s_0), (1, .ref g)]) hx hb dX8_init_73 hl (k := 0) rfl (nI_add y3_32 1) (by decide) rfl (fun ls hl => ?_)
              refine lv_goto (tgt := 32) hx hb dX8_init_76 (by decide) ?_
              exact ih32 (y3_32 + 1) y2_32 F42 F41 S43 G44 _ _ (by omega) (⟨by omega, by omega⟩) (JI_s0 hJ_32 hs2 (by omega) hG hf47) (by omega) hR hB _ hl
            · replace hR := ifn (by decide) hR
              refine W.eq (g2 := F0 m 67 ls [.int 1]) rfl ?_
              refine lv_if_eq (tgt := 73) hx hb dX8_init_67 (by decide) (fun c49 => False.elim (by revert c49; decide)) (fun _ => ?_)
              refine lv_iinc (v := nI (y2_32 + 1)) (lv' := [(2, .int (nI (y2_32 + 1))), (3, .int (nI y3_32)), (0, .ref s_0), (1, .ref g)]) hx hb dX8_init_70 hl (k := 1) rfl (nI_add y2_32 1) (by decide) rfl (fun ls hl => ?_)
              refine lv_iinc (v := nI (y3_32 + 1)) (lv' := [(3, .int (nI (y3_32 + 1))), (2, .int (nI (y2_32 + 1))), (0, .ref s_0), (1, .ref g)]) hx hb dX8_init_73 hl (k := 1) rfl (nI_add y3_32 1) (by decide) rfl (fun ls hl => ?_)
              refine lv_goto (tgt := 32) hx hb dX8_init_76 (by decide) ?_
              exact ih32 (y3_32 + 1) (y2_32 + 1) F42 F41 S43 G44 _ _ (by omega) (⟨by omega, by omega⟩) (JI_s1 hJ_32 hG hf47) (by omega) hR hB _ hl
  exact lp32 _ 0 0 F3 F8 1 0 _ _ (by omega) (⟨by omega, by omega⟩) (JI_0 hs1 hs2 hf5 hng) (Nat.lt_succ_self _) hR hB _ hl
