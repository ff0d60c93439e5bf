def lb (x : Nat) : Nat := x - 2 ^ tz x
def pc5 (x : Nat) : Nat := x % 2 + x / 2 % 2 + x / 4 % 2 + x / 8 % 2 + x / 16 % 2
theorem p32 {R x : Nat} (hR : R ≤ 5) (h : x < 2 ^ R) : x < 32 := Nat.lt_of_lt_of_le h (Nat.pow_le_pow_right (by decide) hR : 2 ^ R ≤ 2 ^ 5)
theorem fzt : ∀ R, R < 6 → ∀ x, x < 32 → x < 2 ^ R → 0 < x → tz x < R := by decide +kernel
theorem fml : ∀ x, x < 32 → 0 < x → (nI x) &&& ((1 <<< ((nI (tz x)) &&& 31)) ^^^ (-1)) = nI (lb x) := by decide +kernel
theorem fmb : ∀ y, y < 32 → ∀ j, j < 5 → ((nI y) >>> ((nI j) &&& 31)) &&& 1 = nI (y / 2 ^ j % 2) := by decide +kernel
theorem fmc : ∀ y, y < 32 → ∀ j, j < 5 → ¬ y / 2 ^ j % 2 = 0 → (nI y) &&& ((1 <<< ((nI j) &&& 31)) ^^^ (-1)) = nI (y - 2 ^ j) := by decide +kernel
theorem fpx : ∀ x, x < 32 → 0 < x → pc5 (lb x) + 1 = pc5 x := by decide +kernel
theorem fpy : ∀ y, y < 32 → ∀ j, j < 5 → ¬ y / 2 ^ j % 2 = 0 → pc5 (y - 2 ^ j) + 1 = pc5 y := by decide +kernel
theorem fp0 : ∀ x, x < 32 → (0 < x ↔ 0 < pc5 x) := by decide +kernel
theorem mn_rec {R C x y j n : Nat} (hR : R ≤ 4) (hC : C ≤ 5) (h : 0 < x ∧ x < 2 ^ R ∧ 0 < y ∧ y < 2 ^ C ∧ pc5 x = n + 1 ∧ pc5 y = n + 1) (c1 : ¬ lb x = 0) (c2 : ¬ y / 2 ^ j % 2 = 0) (hj : j < 5) : 0 < lb x ∧ lb x < 2 ^ R ∧ 0 < y - 2 ^ j ∧ y - 2 ^ j < 2 ^ C ∧ pc5 (lb x) = n ∧ pc5 (y - 2 ^ j) = n := by
  obtain ⟨h1, h2, h3, h4, h5, h6⟩ := h
  have h32 := p32 (by omega) h2
  have g32 := p32 hC h4
  have e1 := fpx x h32 h1
  have e2 := fpy y g32 j hj c2
  have l1 : lb x ≤ x := Nat.sub_le _ _
  have l2 : y - 2 ^ j ≤ y := Nat.sub_le _ _
  have e3 := (fp0 (lb x) (Nat.lt_of_le_of_lt l1 h32)).mp (Nat.pos_of_ne_zero c1)
  have e4 := (fp0 (y - 2 ^ j) (Nat.lt_of_le_of_lt l2 g32)).mpr (by omega)
  exact ⟨Nat.pos_of_ne_zero c1, Nat.lt_of_le_of_lt l1 h2, e4, Nat.lt_of_le_of_lt l2 h4, by omega, by omega⟩
/-- the reference's minors: a row's terms so far, the side of the next -/
def mfold (f : Nat → Int64) (rec : Nat → Int64) (r y : Nat) : Nat → Int64 × Int32
  | 0 => (0, 1)
  | j + 1 => if y / 2 ^ j % 2 = 0 then mfold f rec r y j else (if f (r * 5 + j) = 0 then (mfold f rec r y j).1 else (mfold f rec r y j).1 + (mfold f rec r y j).2.toInt64 * f (r * 5 + j) * rec (y - 2 ^ j), -(mfold f rec r y j).2)
def mnv (f : Nat → Int64) (C : Nat) : Nat → Nat → Nat → Int64
  | 0, _, _ => 0
  | n + 1, x, y => if lb x = 0 then f (tz x * 5 + tz y) else (mfold f (mnv f C n (lb x)) (tz x) y C).1
section MFS
variable {f rec : Nat → Int64} {r y j : Nat} {s : Int64} {d : Int32}
theorem mf_a (h : s = (mfold f rec r y j).1 ∧ d = (mfold f rec r y j).2) (c : y / 2 ^ j % 2 = 0) : s = (mfold f rec r y (j + 1)).1 ∧ d = (mfold f rec r y (j + 1)).2 := by
  simp only [mfold, if_pos c]
  exact h
theorem mf_b (h : s = (mfold f rec r y j).1 ∧ d = (mfold f rec r y j).2) (c : ¬ y / 2 ^ j % 2 = 0) (z : lg_cmp (f (r * 5 + j)) 0 = 0) : s = (mfold f rec r y (j + 1)).1 ∧ -d = (mfold f rec r y (j + 1)).2 := by
  have z := (lg_cmp_eq _ _).mp z
  simp only [mfold, if_neg c, if_pos z]
  exact ⟨h.1, by rw [h.2]⟩
theorem mf_c (h : s = (mfold f rec r y j).1 ∧ d = (mfold f rec r y j).2) (c : ¬ y / 2 ^ j % 2 = 0) (z : ¬ lg_cmp (f (r * 5 + j)) 0 = 0) : s + d.toInt64 * f (r * 5 + j) * rec (y - 2 ^ j) = (mfold f rec r y (j + 1)).1 ∧ -d = (mfold f rec r y (j + 1)).2 := by
  have z : ¬ f (r * 5 + j) = 0 := fun e => z ((lg_cmp_eq _ _).mpr e)
  simp only [mfold, if_neg c, if_neg z]
  exact ⟨by rw [h.1, h.2], by rw [h.2]⟩
end MFS

set_option maxHeartbeats 4000000 in
set_option maxRecDepth 100000 in
theorem minor_step (κ : Kt) (l : Launch) (d : Nat) (w : va_W) (k1 k2 g b R C : Nat) (f : Nat → Int64) (xx : Int32) (x : Nat) (xy : Int32) (y : Nat) (n : Nat) (h1 : w[k1]? = some (gO g R C b)) (h2 : w[k2]? = some (lA κ b (R * 5) f)) (hs : shp R C) (hxx : xx = nI x) (hxy : xy = nI y) (hmn : 0 < x ∧ x < 2 ^ R ∧ 0 < y ∧ y < 2 ^ C ∧ pc5 x = n + 1 ∧ pc5 y = n + 1) (ih : ∀ X Y : Nat, (0 < X ∧ X < 2 ^ R ∧ 0 < Y ∧ Y < 2 ^ C ∧ pc5 X = n ∧ pc5 Y = n) → CM κ l yX7_minor cX7_minor 9 (some .long) d (28 * d) 0 0 [.ref g, .int (nI X), .int (nI Y)] w (fun o w' => o = some (.long (mnv f C n X Y)) ∧ w' = w)) : CM κ l yX7_minor cX7_minor 9 (some .long) (d + 1) (28 * (d + 1)) 0 0 [.ref g, .int xx, .int xy] (w) (fun o w' => o = some (.long (mnv f C (n + 1) x y)) ∧ w' = w) := by
  have hs0 := hs
  obtain ⟨hs1, hs2, hs3, hs4⟩ := hs0
  subst hxx
  subst hxy
  refine CM_begin (plainFor_of_name (by decide)) (Nat.le_of_ble_eq_true rfl) ?_
  intro p e s m args below meth c A Q hX hnm hA3 hQ hB ls hl
  have hx := hX.1.1
  have hb := hX.1.2.1
  have hl : lv_has ls 9 [(0, .ref g), (1, .int (nI x)), (2, .int (nI y))] := hl
  have h32 := p32 (by omega) hmn.2.1
  have g32 := p32 (by omega) hmn.2.2.2.1
  have htx := fzt R (by omega) x h32 hmn.2.1 hmn.1
  have hty := fzt C (by omega) y g32 hmn.2.2.2.1 hmn.2.2.1
  have l1 : lb x ≤ x := Nat.sub_le _ _
  refine lv_iload_n hx hb dX7_minor_0 rfl (lv_at hl 1 rfl) ?_
  refine call_S (n := 1) (As := [.int (nI x)]) (rest := []) hX hB (k_J6_numberOfTrailingZeros_0f7a4 κ l (w) (nI x) x rfl (by omega) (by omega)) ⟨by decide, by decide, by decide +kernel⟩ wm_7_83 wm_7_84 wm_1_26 wm_7_85 ⟨(show 0 + 1 ≤ d + 1 by omega), (show 8 + (2 + 11) + 0 ≤ 28 * (d + 1) by omega)⟩ ⟨Nat.le_of_ble_eq_true rfl, Nat.le_of_ble_eq_true rfl⟩ rfl hl.1 rfl (Nat.le_of_ble_eq_true rfl) dX7_minor_1 (fun o w' H locs hp hB => ?_)
  obtain ⟨n1, rfl, hf2, hw9⟩ := hp
  replace hB : Bd κ A s (w) H locs := by rw [hw9] at hB; exact hB
  subst hf2
  refine W.eq (g2 := F0 m 4 ls [.int (nI (tz x))]) rfl ?_
  refine lv_istore_n (lv' := [(3, .int (nI (tz x))), (0, .ref g), (1, .int (nI x)), (2, .int (nI y))]) hx hb dX7_minor_4 rfl hl (by decide) rfl (fun ls hl => ?_)
  refine lv_iload_n hx hb dX7_minor_5 rfl (lv_at hl 2 rfl) ?_
  refine lv_iconst (v := 1) hx hb dX7_minor_6 (by decide) ?_
  refine lv_iload_n hx hb dX7_minor_7 rfl (lv_at hl 0 rfl) ?_
  refine lv_ishl hx hb dX7_minor_8 ?_
  refine lv_iconst (v := (-1)) hx hb dX7_minor_9 (by decide) ?_
  refine lv_ixor hx hb dX7_minor_10 ?_
  refine lv_iand hx hb dX7_minor_11 ?_
  refine eqi (y := nI (lb x)) (fml x h32 hmn.1) ?_
  refine lv_istore (lv' := [(4, .int (nI (lb x))), (3, .int (nI (tz x))), (0, .ref g), (1, .int (nI x)), (2, .int (nI y))]) hx hb dX7_minor_12 hl (by decide) rfl (fun ls hl => ?_)
  refine lv_iload hx hb dX7_minor_14 (lv_at hl 0 rfl) ?_
  refine lv_if_ne (tgt := 29) hx hb dX7_minor_16 (by decide) (fun c3 => ?_) (fun c3 => ?_)
  · replace c3 : ¬ nI (lb x) = nI 0 := c3
    rw [neqP (by omega) (by omega)] at c3
    refine lv_lconst (v := 0) hx hb dX7_minor_29 (by decide) ?_
    refine lv_lstore (lv' := [(5, .long 0), (4, .int (nI (lb x))), (3, .int (nI (tz x))), (0, .ref g), (1, .int (nI x)), (2, .int (nI y))]) hx hb dX7_minor_30 hl (by decide) rfl (fun ls hl => ?_)
    refine lv_iconst (v := 1) hx hb dX7_minor_32 (by decide) ?_
    refine lv_istore (lv' := [(7, .int 1), (5, .long 0), (4, .int (nI (lb x))), (3, .int (nI (tz x))), (0, .ref g), (1, .int (nI x)), (2, .int (nI y))]) hx hb dX7_minor_33 hl (by decide) rfl (fun ls hl => ?_)
    refine lv_iconst (v := 0) hx hb dX7_minor_35 (by decide) ?_
    refine lv_istore (lv' := [(8, .int 0), (7, .int 1), (5, .long 0), (4, .int (nI (lb x))), (3, .int (nI (tz x))), (0, .ref g), (1, .int (nI x)), (2, .int (nI y))]) hx hb dX7_minor_36 hl (by decide) rfl (fun ls hl => ?_)
    have lp38 : ∀ (nn38 : Nat) (y8_38 : Nat) (y7_38 : Int32) (y5_38 : Int64) (H : Heap) (locs : List Loc), (y8_38 ≤ C) → (y5_38 = (mfold f (mnv f C n (lb x)) (tz x) y y8_38).1 ∧ y7_38 = (mfold f (mnv f C n (lb x)) (tz x) y y8_38).2) → C + 1 - y8_38 < nn38 → Bd κ A s (w) H locs → ∀ ls : Array Slot, lv_has ls 9 [(8, .int (nI y8_38)), (7, .int y7_38), (5, .long y5_38), (4, .int (nI (lb x))), (3, .int (nI (tz x))), (0, .ref g), (1, .int (nI x)), (2, .int (nI y))] → W p l e (Rm (d + 1) (28 * (d + 1)) 0 0) s m args below meth c H locs (0) (0) Q (F0 m 38 ls []) := by
      intro nn38
      induction nn38 with
      | zero => intro y8_38 y7_38 y5_38 H locs hn8_38 hv_38 hμ; exact absurd hμ (Nat.not_lt_zero _)
      | succ nn38 ih38 =>
        intro y8_38 y7_38 y5_38 H locs hn8_38 hv_38 hμ38 hB ls hl
        refine lv_iload hx hb dX7_minor_38 (lv_at hl 0 rfl) ?_
        refine lv_aload_n hx hb dX7_minor_40 rfl (lv_at hl 5 rfl) ?_
        refine gf (k0 := k1) hX hB h1 rfl in7 1 (by decide) wm_5_149 rfl rfl dX7_minor_41 ?_
        refine lv_icmp_ge (tgt := 113) hx hb dX7_minor_44 (by decide) (fun c10 => ?_) (fun c10 => ?_)
        · rw [nleP (a := C) (b := y8_38) (by omega) (by omega)] at c10
          refine lv_lload hx hb dX7_minor_113 (lv_at hl 2 rfl) ?_
          rw [← hQ]
          exact end_l hX hB hA3 rfl ⟨(by rw [hv_38.1, show y8_38 = C by omega]; exact congrArg (fun z => some (Value.long z)) (if_neg (by assumption)).symm), rfl⟩ (Nat.le_of_ble_eq_true rfl) (Nat.le_of_ble_eq_true rfl) dX7_minor_115
        · rw [nleP (a := C) (b := y8_38) (by omega) (by omega)] at c10
          refine lv_iload_n hx hb dX7_minor_47 rfl (lv_at hl 7 rfl) ?_
          refine lv_iload hx hb dX7_minor_48 (lv_at hl 0 rfl) ?_
          refine lv_ishr hx hb dX7_minor_50 ?_
          refine lv_iconst (v := 1) hx hb dX7_minor_51 (by decide) ?_
          refine lv_iand hx hb dX7_minor_52 ?_
          refine eqi (y := nI (y / 2 ^ y8_38 % 2)) (fmb y g32 y8_38 (by omega)) ?_
          refine lv_if_ne (tgt := 59) hx hb dX7_minor_53 (by decide) (fun c11 => ?_) (fun c11 => ?_)
          · replace c11 : ¬ nI (y / 2 ^ y8_38 % 2) = nI 0 := c11
            rw [neqP (by omega) (by omega)] at c11
            refine lv_aload_n hx hb dX7_minor_59 rfl (lv_at hl 5 rfl) ?_
            refine lv_iload_n hx hb dX7_minor_60 rfl (lv_at hl 4 rfl) ?_
            refine lv_iload hx hb dX7_minor_61 (lv_at hl 0 rfl) ?_
            refine call_V (n := 2) (k0 := k1) (As := [.int (nI (tz x)), .int (nI y8_38)]) (rest := []) hX hB (k_X7_at κ l (w) k1 k2 g b R C f (nI (tz x)) (tz x) (nI y8_38) y8_38 h1 h2 hs rfl rfl (by omega)) ⟨rfl, by decide, by decide, by decide +kernel⟩ wm_6_50 wm_5_238 wm_5_239 wm_1_7 wm_6_0 ⟨(show 0 + 1 ≤ d + 1 by omega), (show 8 + (3 + 11) + 0 ≤ 28 * (d + 1) by omega)⟩ ⟨Nat.le_of_ble_eq_true rfl, Nat.le_of_ble_eq_true rfl⟩ h1 rfl rfl rfl hl.1 rfl (Nat.le_of_ble_eq_true rfl) dX7_minor_63 (fun o w' H locs hp hB => ?_)
            obtain ⟨rfl, hw9⟩ := hp
            replace hB : Bd κ A s (w) H locs := by rw [hw9] at hB; exact hB
            refine W.eq (g2 := F0 m 66 ls [.long (f ((tz x) * 5 + y8_38))]) rfl ?_
            refine lv_lconst (v := 0) hx hb dX7_minor_66 (by decide) ?_
            refine W.lcmp hx hb dX7_minor_67 ?_
            refine lv_if_eq (tgt := 102) hx hb dX7_minor_68 (by decide) (fun c12 => ?_) (fun c12 => ?_)
            · refine lv_iload hx hb dX7_minor_102 (lv_at hl 1 rfl) ?_
              refine lv_ineg hx hb dX7_minor_104 ?_
              refine lv_istore (lv' := [(7, .int (-y7_38)), (8, .int (nI y8_38)), (5, .long y5_38), (4, .int (nI (lb x))), (3, .int (nI (tz x))), (0, .ref g), (1, .int (nI x)), (2, .int (nI y))]) hx hb dX7_minor_105 hl (by decide) rfl (fun ls hl => ?_)
              refine lv_iinc (v := nI (y8_38 + 1)) (lv' := [(8, .int (nI (y8_38 + 1))), (7, .int (-y7_38)), (5, .long y5_38), (4, .int (nI (lb x))), (3, .int (nI (tz x))), (0, .ref g), (1, .int (nI x)), (2, .int (nI y))]) hx hb dX7_minor_107 hl (k := 1) rfl (nI_add y8_38 1) (by decide) rfl (fun ls hl => ?_)
              refine lv_goto (tgt := 38) hx hb dX7_minor_110 (by decide) ?_
              exact ih38 (y8_38 + 1) (-y7_38) y5_38 _ _ (by omega) (by first | exact mf_a hv_38 (by assumption) | exact mf_b hv_38 (by assumption) (by assumption) | exact mf_c hv_38 (by assumption) (by assumption)) (by omega) hB _ hl
            · refine lv_lload hx hb dX7_minor_71 (lv_at hl 2 rfl) ?_
              refine lv_iload hx hb dX7_minor_73 (lv_at hl 1 rfl) ?_
              refine lv_i2l hx hb dX7_minor_75 rfl ?_
              refine lv_aload_n hx hb dX7_minor_76 rfl (lv_at hl 5 rfl) ?_
              refine lv_iload_n hx hb dX7_minor_77 rfl (lv_at hl 4 rfl) ?_
              refine lv_iload hx hb dX7_minor_78 (lv_at hl 0 rfl) ?_
              refine call_V (n := 2) (k0 := k1) (As := [.int (nI (tz x)), .int (nI y8_38)]) (rest := [.long ((y7_38).toInt64), .long y5_38]) hX hB (k_X7_at κ l (w) k1 k2 g b R C f (nI (tz x)) (tz x) (nI y8_38) y8_38 h1 h2 hs rfl rfl (by omega)) ⟨rfl, by decide, by decide, by decide +kernel⟩ wm_6_50 wm_5_238 wm_5_239 wm_1_7 wm_6_0 ⟨(show 0 + 1 ≤ d + 1 by omega), (show 8 + (3 + 11) + 0 ≤ 28 * (d + 1) by omega)⟩ ⟨Nat.le_of_ble_eq_true rfl, Nat.le_of_ble_eq_true rfl⟩ h1 rfl rfl rfl hl.1 rfl (Nat.le_of_ble_eq_true rfl) dX7_minor_80 (fun o w' H locs hp hB => ?_)
              obtain ⟨rfl, hw9⟩ := hp
              replace hB : Bd κ A s (w) H locs := by rw [hw9] at hB; exact hB
              refine W.eq (g2 := F0 m 83 ls [.long (f ((tz x) * 5 + y8_38)), .long ((y7_38).toInt64), .long y5_38]) rfl ?_
              refine lv_lmul hx hb dX7_minor_83 ?_
              refine lv_aload_n hx hb dX7_minor_84 rfl (lv_at hl 5 rfl) ?_
              refine lv_iload hx hb dX7_minor_85 (lv_at hl 3 rfl) ?_
              refine lv_iload_n hx hb dX7_minor_87 rfl (lv_at hl 7 rfl) ?_
              refine lv_iconst (v := 1) hx hb dX7_minor_88 (by decide) ?_
              refine lv_iload hx hb dX7_minor_89 (lv_at hl 0 rfl) ?_
              refine lv_ishl hx hb dX7_minor_91 ?_
              refine lv_iconst (v := (-1)) hx hb dX7_minor_92 (by decide) ?_
              refine lv_ixor hx hb dX7_minor_93 ?_
              refine lv_iand hx hb dX7_minor_94 ?_
              refine eqi (y := nI (y - 2 ^ y8_38)) (fmc y g32 y8_38 (by omega) (by assumption)) ?_
              refine call_V (n := 2) (k0 := k1) (As := [.int (nI (lb x)), .int (nI (y - 2 ^ y8_38))]) (rest := [.long (((y7_38).toInt64) * (f ((tz x) * 5 + y8_38))), .long y5_38]) hX hB (ih _ _ (mn_rec hs2 hs4 hmn (by assumption) (by assumption) (by omega))) ⟨rfl, by decide, by decide, by decide +kernel⟩ wm_7_87 wm_7_80 wm_7_81 wm_1_7 wm_7_82 ⟨Nat.le_refl _, (show 8 + (9 + 11) + 28 * d ≤ 28 * (d + 1) by omega)⟩ ⟨Nat.le_of_ble_eq_true rfl, Nat.le_of_ble_eq_true rfl⟩ h1 rfl rfl rfl hl.1 rfl (Nat.le_of_ble_eq_true rfl) dX7_minor_95 (fun o w' H locs hp hB => ?_)
              obtain ⟨rfl, hw9⟩ := hp
              replace hB : Bd κ A s (w) H locs := by rw [hw9] at hB; exact hB
              refine W.eq (g2 := F0 m 98 ls [.long (mnv f C n (lb x) (y - 2 ^ y8_38)), .long (((y7_38).toInt64) * (f ((tz x) * 5 + y8_38))), .long y5_38]) rfl ?_
              refine lv_lmul hx hb dX7_minor_98 ?_
              refine lv_ladd hx hb dX7_minor_99 ?_
              refine lv_lstore (lv' := [(5, .long (y5_38 + ((((y7_38).toInt64) * (f ((tz x) * 5 + y8_38))) * (mnv f C n (lb x) (y - 2 ^ y8_38))))), (8, .int (nI y8_38)), (7, .int y7_38), (4, .int (nI (lb x))), (3, .int (nI (tz x))), (0, .ref g), (1, .int (nI x)), (2, .int (nI y))]) hx hb dX7_minor_100 hl (by decide) rfl (fun ls hl => ?_)
              refine lv_iload hx hb dX7_minor_102 (lv_at hl 2 rfl) ?_
              refine lv_ineg hx hb dX7_minor_104 ?_
              refine lv_istore (lv' := [(7, .int (-y7_38)), (5, .long (y5_38 + ((((y7_38).toInt64) * (f ((tz x) * 5 + y8_38))) * (mnv f C n (lb x) (y - 2 ^ y8_38))))), (8, .int (nI y8_38)), (4, .int (nI (lb x))), (3, .int (nI (tz x))), (0, .ref g), (1, .int (nI x)), (2, .int (nI y))]) hx hb dX7_minor_105 hl (by decide) rfl (fun ls hl => ?_)
              refine lv_iinc (v := nI (y8_38 + 1)) (lv' := [(8, .int (nI (y8_38 + 1))), (7, .int (-y7_38)), (5, .long (y5_38 + ((((y7_38).toInt64) * (f ((tz x) * 5 + y8_38))) * (mnv f C n (lb x) (y - 2 ^ y8_38))))), (4, .int (nI (lb x))), (3, .int (nI (tz x))), (0, .ref g), (1, .int (nI x)), (2, .int (nI y))]) hx hb dX7_minor_107 hl (k := 2) rfl (nI_add y8_38 1) (by decide) rfl (fun ls hl => ?_)
              refine lv_goto (tgt := 38) hx hb dX7_minor_110 (by decide) ?_
              exact ih38 (y8_38 + 1) (-y7_38) (y5_38 + ((((y7_38).toInt64) * (f ((tz x) * 5 + y8_38))) * (mnv f C n (lb x) (y - 2 ^ y8_38)))) _ _ (by omega) (by first | exact mf_a hv_38 (by assumption) | exact mf_b hv_38 (by assumption) (by assumption) | exact mf_c hv_38 (by assumption) (by assumption)) (by omega) hB _ hl
          · replace c11 : nI (y / 2 ^ y8_38 % 2) = nI 0 := c11
            rw [neqP (by omega) (by omega)] at c11
            refine lv_goto (tgt := 107) hx hb dX7_minor_56 (by decide) ?_
            refine lv_iinc (v := nI (y8_38 + 1)) (lv' := [(8, .int (nI (y8_38 + 1))), (7, .int y7_38), (5, .long y5_38), (4, .int (nI (lb x))), (3, .int (nI (tz x))), (0, .ref g), (1, .int (nI x)), (2, .int (nI y))]) hx hb dX7_minor_107 hl (k := 0) rfl (nI_add y8_38 1) (by decide) rfl (fun ls hl => ?_)
            refine lv_goto (tgt := 38) hx hb dX7_minor_110 (by decide) ?_
            exact ih38 (y8_38 + 1) y7_38 y5_38 _ _ (by omega) (by first | exact mf_a hv_38 (by assumption) | exact mf_b hv_38 (by assumption) (by assumption) | exact mf_c hv_38 (by assumption) (by assumption)) (by omega) hB _ hl
    exact lp38 _ 0 1 0 _ _ (by omega) (⟨rfl, rfl⟩) (Nat.lt_succ_self _) hB _ hl
  · replace c3 : nI (lb x) = nI 0 := c3
    rw [neqP (by omega) (by omega)] at c3
    refine lv_aload_n hx hb dX7_minor_19 rfl (lv_at hl 2 rfl) ?_
    refine lv_iload_n hx hb dX7_minor_20 rfl (lv_at hl 1 rfl) ?_
    refine lv_iload_n hx hb dX7_minor_21 rfl (lv_at hl 4 rfl) ?_
    refine call_S (n := 1) (As := [.int (nI y)]) (rest := [.int (nI (tz x)), .ref g]) hX hB (k_J6_numberOfTrailingZeros_0f7a4 κ l (w) (nI y) y rfl (by omega) (by omega)) ⟨by decide, by decide, by decide +kernel⟩ wm_7_83 wm_7_84 wm_1_26 wm_7_85 ⟨(show 0 + 1 ≤ d + 1 by omega), (show 8 + (2 + 11) + 0 ≤ 28 * (d + 1) by omega)⟩ ⟨Nat.le_of_ble_eq_true rfl, Nat.le_of_ble_eq_true rfl⟩ rfl hl.1 rfl (Nat.le_of_ble_eq_true rfl) dX7_minor_22 (fun o w' H locs hp hB => ?_)
    obtain ⟨n13, rfl, hf14, hw9⟩ := hp
    replace hB : Bd κ A s (w) H locs := by rw [hw9] at hB; exact hB
    subst hf14
    refine W.eq (g2 := F0 m 25 ls [.int (nI (tz y)), .int (nI (tz x)), .ref g]) rfl ?_
    refine call_V (n := 2) (k0 := k1) (As := [.int (nI (tz x)), .int (nI (tz y))]) (rest := []) hX hB (k_X7_at κ l (w) k1 k2 g b R C f (nI (tz x)) (tz x) (nI (tz y)) (tz y) h1 h2 hs rfl rfl (by omega)) ⟨rfl, by decide, by decide, by decide +kernel⟩ wm_6_50 wm_5_238 wm_5_239 wm_1_7 wm_6_0 ⟨(show 0 + 1 ≤ d + 1 by omega), (show 8 + (3 + 11) + 0 ≤ 28 * (d + 1) by omega)⟩ ⟨Nat.le_of_ble_eq_true rfl, Nat.le_of_ble_eq_true rfl⟩ h1 rfl rfl rfl hl.1 rfl (Nat.le_of_ble_eq_true rfl) dX7_minor_25 (fun o w' H locs hp hB => ?_)
    obtain ⟨rfl, hw9⟩ := hp
    replace hB : Bd κ A s (w) H locs := by rw [hw9] at hB; exact hB
    refine W.eq (g2 := F0 m 28 ls [.long (f ((tz x) * 5 + (tz y)))]) rfl ?_
    rw [← hQ]
    exact end_l hX hB hA3 rfl ⟨congrArg (fun z => some (Value.long z)) (if_pos (by assumption)).symm, rfl⟩ (Nat.le_of_ble_eq_true rfl) (Nat.le_of_ble_eq_true rfl) dX7_minor_28

theorem minor_all (κ : Kt) (l : Launch) (w : va_W) (k1 k2 g b R C : Nat) (f : Nat → Int64) (h1 : w[k1]? = some (gO g R C b)) (h2 : w[k2]? = some (lA κ b (R * 5) f)) (hs : shp R C) : ∀ (d n x y : Nat), n ≤ d → (0 < x ∧ x < 2 ^ R ∧ 0 < y ∧ y < 2 ^ C ∧ pc5 x = n ∧ pc5 y = n) → CM κ l yX7_minor cX7_minor 9 (some .long) d (28 * d) 0 0 [.ref g, .int (nI x), .int (nI y)] w (fun o w' => o = some (.long (mnv f C n x y)) ∧ w' = w) := by
  intro d
  induction d with
  | zero =>
    intro n x y hn h
    have e := (fp0 x (p32 (Nat.le_trans hs.2.1 (by decide)) h.2.1)).mp h.1
    omega
  | succ d ih =>
    intro n x y hn h
    cases n with
    | zero =>
      have e := (fp0 x (p32 (Nat.le_trans hs.2.1 (by decide)) h.2.1)).mp h.1
      omega
    | succ n => exact minor_step κ l d w k1 k2 g b R C f _ x _ y n h1 h2 hs rfl rfl h (fun X Y hh => ih n X Y (by omega) hh)

