abbrev iA (κ : Kt) (b n : Nat) (f : Nat → Int32) : Nat × va_E := (b, .inl (κ.2.1 4, n, .inl f))
section MTX
variable {p : Program} {l : Launch} {e : Env} {R : Room} {s : State} {m : MethodId} {args : Array Value} {below : List Frame} {meth : Method} {c : Code} {H : Heap} {locs : List Loc} {cells slots : Nat} {Q : State → Prop}
variable {κ : Kt} {cc : ByteArray} {nL : Nat} {own : String} {ret : Option FieldType} {A : Nat → Prop} {w : va_W} {pc : Nat} {ls : Array Slot} {rest : List Value}
theorem ialdN {k0 b n k : Nat} {f : Nat → Int32} (hX : Cx κ p m c cc nL s args own meth ret A) (hB : Bd κ A s w H locs) (he : w[k0]? = some (iA κ b n f)) (hn : n < 2 ^ 31) (hk : k < n) (hdg : decode cc pc = .ok (.iaload, 1))
    (kk : W p l e R s m args below meth c H locs cells slots Q (F0 m (pc + 1) ls (.int (f k) :: rest))) : W p l e R s m args below meth c H locs cells slots Q (F0 m pc ls (.int (nI k) :: .ref b :: rest)) :=
  va_iald (tys := tysK κ) hX.1.1 hX.1.2.1 hX.2.1.1 hB.1 k0 4 he rfl (vp_in_nI hk hn) hdg (by rw [nI_clamp (Nat.lt_trans hk hn)]; exact kk)
theorem iastG {k0 b n : Nat} {f : Nat → Int32} {i x : Int32} (hX : Cx κ p m c cc nL s args own meth ret A) (hB : Bd κ A s w H locs) (he : w[k0]? = some (iA κ b n f)) (hin : vp_in i n) {w1 : va_W} (hw : w.set k0 (iA κ b n (upd f i.toNatClampNeg x)) = w1) (hdg : decode cc pc = .ok (.iastore, 1))
    (kk : ∀ (H1 : Heap) (locs1 : List Loc), Bd κ A s w1 H1 locs1 → W p l e R s m args below meth c H1 locs1 cells slots Q (F0 m (pc + 1) ls rest)) : W p l e R s m args below meth c H locs cells slots Q (F0 m pc ls (.int x :: .int i :: .ref b :: rest)) := by
  subst hw
  exact va_iast (tys := tysK κ) hX.1.1 hX.1.2.1 hX.2.1.1 hB.1 hB.2.1 hB.2.2 k0 4 he rfl hin hdg (fun H1 locs1 h1 h2 h3 => kk H1 locs1 ⟨h1, h2, h3⟩)
end MTX
theorem dec_lt {y : Int32} {n : Nat} (h : ¬ nI n ≤ y) (c : ¬ y < 0) : ¬ nI n ≤ y + -1 := by
  rw [i32_le] at h
  rw [i32_le, i32_pred c]
  omega
theorem vp_in_c {y : Int32} {n : Nat} (c : ¬ y < 0) (h : y.toNatClampNeg < n) : vp_in y n := fun z => z.elim c (fun z => absurd h (Nat.not_lt.mpr z))

set_option maxHeartbeats 4000000 in
set_option maxRecDepth 100000 in
theorem k_X10_text (κ : Kt) (l : Launch) (w : va_W) (a r : Nat → Nat) (f : Nat → Nat → Int64) (q : Nat → Int32) (y : Int32) (hm : mok r f) : CM κ l yX10_text cX10_text 6 (some (.object "java/lang/String")) 6 171 36 28248 [.ref (a 0), .int y] (mw κ a r f q (tb a) w) (fun o w' => ∃ (q1 : Nat) (q' : Nat → Int32), o = some (.ref q1) ∧ (q' 2 = q 2 ∧ q' 0 = q 0 ∧ q' 1 = q 1) ∧ w' = mw κ a r f q' (tb a) w) := by
  refine CM_begin (plainFor_of_name (by decide)) (Nat.le_of_ble_eq_true rfl) ?_
  intro p e s m args below meth c A Q hX hnm hA3 hQ hB ls hl
  have hx := hX.1.1
  have hb := hX.1.2.1
  have hl : lv_has ls 6 [(0, .ref (a 0)), (1, .int y)] := hl
  refine lv_aload_n hx hb dX10_text_0 rfl (lv_at hl 0 rfl) ?_
  refine lv_iload_n hx hb dX10_text_1 rfl (lv_at hl 1 rfl) ?_
  refine call_S (n := 1) (As := [.int y]) (rest := [.ref (a 0)]) hX hB (o_X10_isTable κ l (mw κ a r f q (tb a) w) y) ⟨by decide, by decide, by decide +kernel⟩ wm_5_186 wm_5_187 wm_1_6 wm_5_188 ⟨Nat.le_of_ble_eq_true rfl, Nat.le_of_ble_eq_true rfl⟩ ⟨Nat.le_of_ble_eq_true rfl, Nat.le_of_ble_eq_true rfl⟩ rfl hl.1 rfl (Nat.le_of_ble_eq_true rfl) dX10_text_2 (fun o w' H locs hp hB => ?_)
  obtain ⟨z1, rfl, hf2, hw9⟩ := hp
  replace hB : Bd κ A s (mw κ a r f q (tb a) w) H locs := by rw [hw9] at hB; exact hB
  rcases hf2 with rfl | ⟨rfl, hz3a, hz3b⟩
  · refine W.eq (g2 := F0 m 5 ls [.int 0, .ref (a 0)]) rfl ?_
    refine lv_if_ne (tgt := 12) hx hb dX10_text_5 (by decide) (fun c4 => False.elim (by revert c4; decide)) (fun _ => ?_)
    refine lv_iconst (v := 1) hx hb dX10_text_8 (by decide) ?_
    refine lv_goto (tgt := 13) hx hb dX10_text_9 (by decide) ?_
    refine call_V (n := 1) (k0 := 0) (As := [.int 1]) (rest := []) hX hB (o_X10_isThrown__ κ l (mw κ a r f q (tb a) w) 0 (a 0) (a 1) (q 0) (q 1) (q 2) (q 3) 1 (mw0x (a := a) (r := r) (f := f) (q := q) (T := tb a) (w := w) rfl)) ⟨rfl, by decide, by decide, by decide +kernel⟩ wm_6_15 wm_6_17 wp_33 wm_1_6 wm_6_18 ⟨Nat.le_of_ble_eq_true rfl, Nat.le_of_ble_eq_true rfl⟩ ⟨Nat.le_of_ble_eq_true rfl, Nat.le_of_ble_eq_true rfl⟩ (mw0x (a := a) (r := r) (f := f) (q := q) (T := tb a) (w := w) rfl) rfl rfl rfl hl.1 rfl (Nat.le_of_ble_eq_true rfl) dX10_text_13 (fun o w' H locs hp hB => ?_)
    obtain ⟨x5, t6, rfl, hf7, hw9⟩ := hp
    replace hB : Bd κ A s (mw κ a r f (va_up q 3 t6) (tb a) w) H locs := by exact Bd_eq (mwQ3x rfl _) (by rw [hw9] at hB; exact hB)
    obtain rfl : x5 = 1 := hf7.trans (by decide)
    refine W.eq (g2 := F0 m 16 ls [.int 1]) rfl ?_
    refine lv_if_eq (tgt := 22) hx hb dX10_text_16 (by decide) (fun c8 => False.elim (by revert c8; decide)) (fun _ => ?_)
    refine ldcT (i := 0) hX hX.2.1.2.2.1.2.1.1 dX10_text_19 ?_
    rw [← hQ]
    exact end_a hX hB hA3 rfl (Or.inr ⟨_, rfl⟩) ⟨(adK κ 0), (va_up q 3 t6), rfl, ⟨rfl, rfl, rfl⟩, rfl⟩ (Nat.le_of_ble_eq_true rfl) (Nat.le_of_ble_eq_true rfl) dX10_text_21
  · refine W.eq (g2 := F0 m 5 ls [.int 1, .ref (a 0)]) rfl ?_
    refine lv_if_ne (tgt := 12) hx hb dX10_text_5 (by decide) (fun _ => ?_) (fun c9 => False.elim (by revert c9; decide))
    refine lv_iconst (v := 0) hx hb dX10_text_12 (by decide) ?_
    refine call_V (n := 1) (k0 := 0) (As := [.int 0]) (rest := []) hX hB (o_X10_isThrown__ κ l (mw κ a r f q (tb a) w) 0 (a 0) (a 1) (q 0) (q 1) (q 2) (q 3) 0 (mw0x (a := a) (r := r) (f := f) (q := q) (T := tb a) (w := w) rfl)) ⟨rfl, by decide, by decide, by decide +kernel⟩ wm_6_15 wm_6_17 wp_33 wm_1_6 wm_6_18 ⟨Nat.le_of_ble_eq_true rfl, Nat.le_of_ble_eq_true rfl⟩ ⟨Nat.le_of_ble_eq_true rfl, Nat.le_of_ble_eq_true rfl⟩ (mw0x (a := a) (r := r) (f := f) (q := q) (T := tb a) (w := w) rfl) rfl rfl rfl hl.1 rfl (Nat.le_of_ble_eq_true rfl) dX10_text_13 (fun o w' H locs hp hB => ?_)
    obtain ⟨x10, t11, rfl, hf12, hw9⟩ := hp
    replace hB : Bd κ A s (mw κ a r f (va_up q 3 t11) (tb a) w) H locs := by exact Bd_eq (mwQ3x rfl _) (by rw [hw9] at hB; exact hB)
    obtain rfl : x10 = 0 := hf12.trans (by decide)
    refine W.eq (g2 := F0 m 16 ls [.int 0]) rfl ?_
    refine lv_if_eq (tgt := 22) hx hb dX10_text_16 (by decide) (fun _ => ?_) (fun c13 => False.elim (by revert c13; decide))
    refine newO (fs := [.null, .int 0, .int 0, .int 0]) hX hB (ci := 1) rfl inJ4 tyJ4_ok wm_7_35 wm_3_231 wm_1_18 df1 (Nat.le_of_ble_eq_true rfl) (Nat.le_of_ble_eq_true rfl) dX10_text_22 (fun q14 H hB => ?_)
    refine lv_dup hx hb dX10_text_25 rfl ?_
    refine call_I (n := 0) (As := []) (rest := [.ref q14]) hX hB (k_J4_init_da8c8 κ l (mw κ a r f (va_up q 3 t11) (tb a) w) q14 ) ⟨by decide, by decide, by decide +kernel⟩ rfl wm_7_36 wm_3_233 wm_1_18 wm_3_234 ⟨Nat.le_of_ble_eq_true rfl, Nat.le_of_ble_eq_true rfl⟩ ⟨Nat.le_of_ble_eq_true rfl, Nat.le_of_ble_eq_true rfl⟩ rfl hl.1 rfl (Nat.le_of_ble_eq_true rfl) dX10_text_26 (fun o w' H locs hp hB => ?_)
    obtain ⟨b15, rfl, hw9⟩ := hp
    replace hB : Bd κ A s (bA κ b15 16 (fun _ => 0) :: (q14, .inr (1, [.ref b15, .int 0, .int 0, .int (nI 0)])) :: mw κ a r f (va_up q 3 t11) (tb a) w) H locs := by rw [hw9] at hB; exact hB
    refine W.eq (g2 := F0 m 29 ls [.ref q14]) rfl ?_
    refine lv_astore_n (lv' := [(2, .ref q14), (0, .ref (a 0)), (1, .int y)]) hx hb dX10_text_29 rfl hl (by decide) rfl (fun ls hl => ?_)
    refine lv_aload_n hx hb dX10_text_30 rfl (lv_at hl 1 rfl) ?_
    refine gf (k0 := 2) hX hB (mw0x (a := a) (r := r) (f := f) (q := (va_up q 3 t11)) (T := tb a) (w := w) rfl) rfl in10 0 (by decide) wm_5_162 rfl rfl dX10_text_31 ?_
    refine lv_iload_n hx hb dX10_text_34 rfl (lv_at hl 2 rfl) ?_
    refine aaldM (k0 := 3) hX hB (mw1 (a := a) (r := r) (f := f) (q := (va_up q 3 t11)) (T := tb a) (w := w)) (vp_in_mk (by assumption) (by assumption)) rfl dX10_text_35 ?_
    have hb16 := mok_r hm y.toNatClampNeg (by omega)
    refine lv_astore_n (lv' := [(3, .ref (a (2 + 2 * y.toNatClampNeg))), (2, .ref q14), (0, .ref (a 0)), (1, .int y)]) hx hb dX10_text_36 rfl hl (by decide) rfl (fun ls hl => ?_)
    refine lv_iconst (v := 0) hx hb dX10_text_37 (by decide) ?_
    refine lv_istore (lv' := [(4, .int 0), (3, .ref (a (2 + 2 * y.toNatClampNeg))), (2, .ref q14), (0, .ref (a 0)), (1, .int y)]) hx hb dX10_text_38 hl (by decide) rfl (fun ls hl => ?_)
    have lp40 : ∀ (nn : Nat) (y4_40 : Nat) (Pb_40 : Nat) (Pc_40 : Nat) (Pn_40 : Nat) (bs_40 : Nat → Int32) (H : Heap) (locs : List Loc), (y4_40 ≤ (r (2 * y.toNatClampNeg))) → (Pc_40 ≤ Pn_40 ∧ Pn_40 ≤ 1000 ∧ Pn_40 ≤ 2 * Pc_40 + 16 ∧ Pc_40 ≤ y4_40 * 48) → (sb_Fit bs_40) → (r (2 * y.toNatClampNeg)) + 1 - y4_40 < nn → Bd κ A s (bA κ Pb_40 Pn_40 bs_40 :: (q14, .inr (1, [.ref Pb_40, .int 0, .int 0, .int (nI Pc_40)])) :: mw κ a r f (va_up q 3 t11) (tb a) w) H locs → ∀ ls : Array Slot, lv_has ls 6 [(4, .int (nI y4_40)), (3, .ref (a (2 + 2 * y.toNatClampNeg))), (2, .ref q14), (0, .ref (a 0)), (1, .int y)] → W p l e (Rm 6 171 36 28248) s m args below meth c H locs (2 + y4_40 * 8) (1004 + y4_40 * 6560) Q (F0 m 40 ls []) := by
      intro nn
      induction nn with
      | zero => intro y4_40 Pb_40 Pc_40 Pn_40 bs_40 H locs hn4_40 hsb40 hfb40 hμ; exact absurd hμ (Nat.not_lt_zero _)
      | succ nn ih40 =>
        intro y4_40 Pb_40 Pc_40 Pn_40 bs_40 H locs hn4_40 hsb40 hfb40 hμ40 hB ls hl
        refine lv_iload hx hb dX10_text_40 (lv_at hl 0 rfl) ?_
        refine lv_aload_n hx hb dX10_text_42 rfl (lv_at hl 1 rfl) ?_
        refine gf (k0 := 2 + 2 * y.toNatClampNeg + 2) hX hB (mwG (i := y.toNatClampNeg) (a := a) (r := r) (f := f) (q := (va_up q 3 t11)) (T := tb a) (w := w) (by omega)) rfl in7 0 (by decide) wm_5_148 rfl rfl dX10_text_43 ?_
        refine lv_icmp_ge (tgt := 111) hx hb dX10_text_46 (by decide) (fun c208 => ?_) (fun c208 => ?_)
        · rw [nleP (a := r (2 * y.toNatClampNeg)) (b := y4_40) (by omega) (by omega)] at c208
          refine W.widen (k := 34) (n := 27244) (by omega) (by omega) ?_
          refine lv_aload_n hx hb dX10_text_111 rfl (lv_at hl 2 rfl) ?_
          refine call_V (n := 0) (k0 := 1) (As := []) (rest := []) hX hB (k_J4_toString_0e30d κ l (mw κ a r f (va_up q 3 t11) (tb a) w) q14 Pb_40 Pn_40 Pc_40 0 bs_40 (by omega) (by omega) hfb40) ⟨rfl, by decide, by decide, by decide +kernel⟩ wm_7_67 wm_4_147 wm_4_148 wm_1_18 wm_4_149 ⟨Nat.le_of_ble_eq_true rfl, Nat.le_of_ble_eq_true rfl⟩ ⟨Nat.le_of_ble_eq_true rfl, Nat.le_of_ble_eq_true rfl⟩ rfl rfl rfl rfl hl.1 rfl (Nat.le_of_ble_eq_true rfl) dX10_text_112 (fun o w' H locs hp hB => ?_)
          obtain ⟨q209, rfl, hw9⟩ := hp
          replace hB : Bd κ A s (bA κ Pb_40 Pn_40 bs_40 :: (q14, .inr (1, [.ref Pb_40, .int 0, .int 0, .int (nI Pc_40)])) :: mw κ a r f (va_up q 3 t11) (tb a) w) H locs := by rw [hw9] at hB; exact hB
          refine W.eq (g2 := F0 m 115 ls [.ref q209]) rfl ?_
          replace hB : Bd κ A s (mw κ a r f (va_up q 3 t11) (tb a) w) H locs := Bd_tail (Bd_tail hB)
          rw [← hQ]
          exact end_a hX hB hA3 rfl (Or.inr ⟨_, rfl⟩) ⟨q209, (va_up q 3 t11), rfl, ⟨rfl, rfl, rfl⟩, rfl⟩ (Nat.le_of_ble_eq_true rfl) (Nat.le_of_ble_eq_true rfl) dX10_text_115
        · rw [nleP (a := r (2 * y.toNatClampNeg)) (b := y4_40) (by omega) (by omega)] at c208
          refine lv_iconst (v := 0) hx hb dX10_text_49 (by decide) ?_
          refine lv_istore (lv' := [(5, .int 0), (4, .int (nI y4_40)), (3, .ref (a (2 + 2 * y.toNatClampNeg))), (2, .ref q14), (0, .ref (a 0)), (1, .int y)]) hx hb dX10_text_50 hl (by decide) rfl (fun ls hl => ?_)
          have lp52 : ∀ (nn : Nat) (y5_52 : Nat) (Pb_52 : Nat) (Pc_52 : Nat) (Pn_52 : Nat) (bs_52 : Nat → Int32) (H : Heap) (locs : List Loc), (y5_52 ≤ (r (2 * y.toNatClampNeg + 1))) → (Pc_52 ≤ Pn_52 ∧ Pn_52 ≤ 1000 ∧ Pn_52 ≤ 2 * Pc_52 + 16 ∧ Pc_52 ≤ y4_40 * 48 + y5_52 * 12) → (sb_Fit bs_52) → (r (2 * y.toNatClampNeg + 1)) + 1 - y5_52 < nn → Bd κ A s (bA κ Pb_52 Pn_52 bs_52 :: (q14, .inr (1, [.ref Pb_52, .int 0, .int 0, .int (nI Pc_52)])) :: mw κ a r f (va_up q 3 t11) (tb a) w) H locs → ∀ ls : Array Slot, lv_has ls 6 [(5, .int (nI y5_52)), (4, .int (nI y4_40)), (3, .ref (a (2 + 2 * y.toNatClampNeg))), (2, .ref q14), (0, .ref (a 0)), (1, .int y)] → W p l e (Rm 6 171 36 28248) s m args below meth c H locs (2 + y4_40 * 8 + y5_52 * 2) (1004 + y4_40 * 6560 + y5_52 * 1640) Q (F0 m 52 ls []) := by
            intro nn
            induction nn with
            | zero => intro y5_52 Pb_52 Pc_52 Pn_52 bs_52 H locs hn5_52 hsb52 hfb52 hμ; exact absurd hμ (Nat.not_lt_zero _)
            | succ nn ih52 =>
              intro y5_52 Pb_52 Pc_52 Pn_52 bs_52 H locs hn5_52 hsb52 hfb52 hμ52 hB ls hl
              refine lv_iload hx hb dX10_text_52 (lv_at hl 0 rfl) ?_
              refine lv_aload_n hx hb dX10_text_54 rfl (lv_at hl 2 rfl) ?_
              refine gf (k0 := 2 + 2 * y.toNatClampNeg + 2) hX hB (mwG (i := y.toNatClampNeg) (a := a) (r := r) (f := f) (q := (va_up q 3 t11)) (T := tb a) (w := w) (by omega)) rfl in7 1 (by decide) wm_5_152 rfl rfl dX10_text_55 ?_
              refine lv_icmp_ge (tgt := 105) hx hb dX10_text_58 (by decide) (fun c281 => ?_) (fun c281 => ?_)
              · rw [nleP (a := r (2 * y.toNatClampNeg + 1)) (b := y5_52) (by omega) (by omega)] at c281
                refine W.widen (k := 10 + y4_40 * 8) (n := 7564 + y4_40 * 6560) (by omega) (by omega) ?_
                refine lv_iinc (v := nI (y4_40 + 1)) (lv' := [(4, .int (nI (y4_40 + 1))), (5, .int (nI y5_52)), (3, .ref (a (2 + 2 * y.toNatClampNeg))), (2, .ref q14), (0, .ref (a 0)), (1, .int y)]) hx hb dX10_text_105 hl (k := 1) rfl (nI_add y4_40 1) (by decide) rfl (fun ls hl => ?_)
                refine lv_goto (tgt := 40) hx hb dX10_text_108 (by decide) ?_
                refine W.widen (k := 2 + (y4_40 + 1) * 8) (n := 1004 + (y4_40 + 1) * 6560) (by omega) (by omega) ?_
                exact ih40 (y4_40 + 1) Pb_52 Pc_52 Pn_52 bs_52 _ _ (by omega) (⟨by omega, by omega, by omega, by omega⟩) hfb52 (by omega) hB _ (lv_sub hl [0, 2, 3, 4, 5] rfl)
              · rw [nleP (a := r (2 * y.toNatClampNeg + 1)) (b := y5_52) (by omega) (by omega)] at c281
                refine lv_aload_n hx hb dX10_text_61 rfl (lv_at hl 3 rfl) ?_
                refine lv_iload hx hb dX10_text_62 (lv_at hl 0 rfl) ?_
                refine lv_if_le (tgt := 72) hx hb dX10_text_64 (by decide) (fun c282 => ?_) (fun c282 => ?_)
                · replace c282 : nI y5_52 ≤ nI 0 := c282
                  rw [nleP (by omega) (by omega)] at c282
                  refine lv_iload hx hb dX10_text_72 (lv_at hl 1 rfl) ?_
                  refine lv_if_le (tgt := 82) hx hb dX10_text_74 (by decide) (fun c283 => ?_) (fun c283 => ?_)
                  · replace c283 : nI y4_40 ≤ nI 0 := c283
                    rw [nleP (by omega) (by omega)] at c283
                    refine ldcT (i := 0) hX hX.2.1.2.2.1.2.1.1 dX10_text_82 ?_
                    refine call_V (n := 1) (k0 := 1) (As := [.ref (adK κ 0)]) (rest := []) hX hB (k_J4_append_15ec4 κ l (mw κ a r f (va_up q 3 t11) (tb a) w) 0 q14 Pb_52 Pn_52 Pc_52 0 bs_52 (by omega) (by omega) hfb52 (by omega) (by omega) (by omega)) ⟨rfl, by decide, by decide, by decide +kernel⟩ wm_7_39 wm_4_188 wm_4_189 wm_1_18 wm_4_190 ⟨Nat.le_of_ble_eq_true rfl, Nat.le_of_ble_eq_true rfl⟩ ⟨by dsimp only [Rm]; omega, by dsimp only [Rm]; omega⟩ rfl rfl rfl rfl hl.1 rfl (Nat.le_of_ble_eq_true rfl) dX10_text_84 (fun o w' H locs hp hB => ?_)
                    obtain ⟨q284, n285, F286, c287, rfl, hf288, hf289, hw9⟩ := hp
                    replace hB : Bd κ A s (bA κ q284 n285 F286 :: (q14, .inr (1, [.ref q284, .int 0, .int 0, .int (nI c287)])) :: mw κ a r f (va_up q 3 t11) (tb a) w) H locs := by rw [hw9] at hB; exact hB
                    have hsl290 := sL_le (i := 0) (by omega)
                    refine W.eq (g2 := F0 m 87 ls [.ref q14]) rfl ?_
                    refine lv_aload_n hx hb dX10_text_87 rfl (lv_at hl 2 rfl) ?_
                    refine lv_iload hx hb dX10_text_88 (lv_at hl 1 rfl) ?_
                    refine lv_iload hx hb dX10_text_90 (lv_at hl 0 rfl) ?_
                    refine call_V (n := 2) (k0 := (2 + 2 * y.toNatClampNeg + 2)) (As := [.int (nI y4_40), .int (nI y5_52)]) (rest := [.ref q14]) hX hB (k_X7_at κ l (bA κ q284 n285 F286 :: (q14, .inr (1, [.ref q284, .int 0, .int 0, .int (nI c287)])) :: mw κ a r f (va_up q 3 t11) (tb a) w) (2 + 2 * y.toNatClampNeg + 2) (3 + 2 * y.toNatClampNeg + 2) (a (2 + 2 * y.toNatClampNeg)) (a (3 + 2 * y.toNatClampNeg)) (r (2 * y.toNatClampNeg)) (r (2 * y.toNatClampNeg + 1)) (f y.toNatClampNeg) (nI y4_40) y4_40 (nI y5_52) y5_52 (mwG (i := y.toNatClampNeg) (a := a) (r := r) (f := f) (q := (va_up q 3 t11)) (T := tb a) (w := w) (by omega)) (mwA (i := y.toNatClampNeg) (a := a) (r := r) (f := f) (q := (va_up q 3 t11)) (T := tb a) (w := w) (by omega)) (mok_shp (i := y.toNatClampNeg) hm (by omega)) rfl rfl (by omega)) ⟨rfl, by decide, by decide, by decide +kernel⟩ wm_5_237 wm_5_238 wm_5_239 wm_1_7 wm_6_0 ⟨Nat.le_of_ble_eq_true rfl, Nat.le_of_ble_eq_true rfl⟩ ⟨by dsimp only [Rm]; omega, by dsimp only [Rm]; omega⟩ (mwG (i := y.toNatClampNeg) (a := a) (r := r) (f := f) (q := (va_up q 3 t11)) (T := tb a) (w := w) (by omega)) rfl rfl rfl hl.1 rfl (Nat.le_of_ble_eq_true rfl) dX10_text_92 (fun o w' H locs hp hB => ?_)
                    obtain ⟨rfl, hw9⟩ := hp
                    replace hB : Bd κ A s (bA κ q284 n285 F286 :: (q14, .inr (1, [.ref q284, .int 0, .int 0, .int (nI c287)])) :: mw κ a r f (va_up q 3 t11) (tb a) w) H locs := by rw [hw9] at hB; exact hB
                    refine W.eq (g2 := F0 m 95 ls [.long ((f y.toNatClampNeg) (y4_40 * 5 + y5_52)), .ref q14]) rfl ?_
                    refine call_V (n := 1) (k0 := 1) (As := [.long ((f y.toNatClampNeg) (y4_40 * 5 + y5_52))]) (rest := []) hX hB (k_J4_append_f7089 κ l (mw κ a r f (va_up q 3 t11) (tb a) w) q14 q284 n285 c287 0 F286 ((f y.toNatClampNeg) (y4_40 * 5 + y5_52)) (by omega) (by omega) hf289 (by omega) (by omega) ((hm _ (by omega)).2 _ (by omega))) ⟨rfl, by decide, by decide, by decide +kernel⟩ wm_7_40 wm_7_41 wm_7_42 wm_1_18 wm_7_43 ⟨Nat.le_of_ble_eq_true rfl, Nat.le_of_ble_eq_true rfl⟩ ⟨by dsimp only [Rm]; omega, by dsimp only [Rm]; omega⟩ rfl rfl rfl rfl hl.1 rfl (Nat.le_of_ble_eq_true rfl) dX10_text_95 (fun o w' H locs hp hB => ?_)
                    obtain ⟨q291, n292, F293, c294, rfl, hf295, hf296, hw9⟩ := hp
                    replace hB : Bd κ A s (bA κ q291 n292 F293 :: (q14, .inr (1, [.ref q291, .int 0, .int 0, .int (nI c294)])) :: mw κ a r f (va_up q 3 t11) (tb a) w) H locs := by rw [hw9] at hB; exact hB
                    refine W.eq (g2 := F0 m 98 ls [.ref q14]) rfl ?_
                    refine lv_pop hx hb dX10_text_98 rfl ?_
                    refine lv_iinc (v := nI (y5_52 + 1)) (lv' := [(5, .int (nI (y5_52 + 1))), (4, .int (nI y4_40)), (3, .ref (a (2 + 2 * y.toNatClampNeg))), (2, .ref q14), (0, .ref (a 0)), (1, .int y)]) hx hb dX10_text_99 hl (k := 0) rfl (nI_add y5_52 1) (by decide) rfl (fun ls hl => ?_)
                    refine lv_goto (tgt := 52) hx hb dX10_text_102 (by decide) ?_
                    refine W.widen (k := 2 + y4_40 * 8 + (y5_52 + 1) * 2) (n := 1004 + y4_40 * 6560 + (y5_52 + 1) * 1640) (by omega) (by omega) ?_
                    exact ih52 (y5_52 + 1) q291 c294 n292 F293 _ _ (by omega) (⟨by omega, by omega, by omega, by omega⟩) hf296 (by omega) hB _ hl
                  · replace c283 : ¬ nI y4_40 ≤ nI 0 := c283
                    rw [nleP (by omega) (by omega)] at c283
                    refine ldcT (i := 2) hX hX.2.1.2.2.1.2.1.2.2.1 dX10_text_77 ?_
                    refine lv_goto (tgt := 84) hx hb dX10_text_79 (by decide) ?_
                    refine call_V (n := 1) (k0 := 1) (As := [.ref (adK κ 2)]) (rest := []) hX hB (k_J4_append_15ec4 κ l (mw κ a r f (va_up q 3 t11) (tb a) w) 2 q14 Pb_52 Pn_52 Pc_52 0 bs_52 (by omega) (by omega) hfb52 (by omega) (by omega) (by omega)) ⟨rfl, by decide, by decide, by decide +kernel⟩ wm_7_39 wm_4_188 wm_4_189 wm_1_18 wm_4_190 ⟨Nat.le_of_ble_eq_true rfl, Nat.le_of_ble_eq_true rfl⟩ ⟨by dsimp only [Rm]; omega, by dsimp only [Rm]; omega⟩ rfl rfl rfl rfl hl.1 rfl (Nat.le_of_ble_eq_true rfl) dX10_text_84 (fun o w' H locs hp hB => ?_)
                    obtain ⟨q297, n298, F299, c300, rfl, hf301, hf302, hw9⟩ := hp
                    replace hB : Bd κ A s (bA κ q297 n298 F299 :: (q14, .inr (1, [.ref q297, .int 0, .int 0, .int (nI c300)])) :: mw κ a r f (va_up q 3 t11) (tb a) w) H locs := by rw [hw9] at hB; exact hB
                    have hsl303 := sL_le (i := 2) (by omega)
                    refine W.eq (g2 := F0 m 87 ls [.ref q14]) rfl ?_
                    refine lv_aload_n hx hb dX10_text_87 rfl (lv_at hl 2 rfl) ?_
                    refine lv_iload hx hb dX10_text_88 (lv_at hl 1 rfl) ?_
                    refine lv_iload hx hb dX10_text_90 (lv_at hl 0 rfl) ?_
                    refine call_V (n := 2) (k0 := (2 + 2 * y.toNatClampNeg + 2)) (As := [.int (nI y4_40), .int (nI y5_52)]) (rest := [.ref q14]) hX hB (k_X7_at κ l (bA κ q297 n298 F299 :: (q14, .inr (1, [.ref q297, .int 0, .int 0, .int (nI c300)])) :: mw κ a r f (va_up q 3 t11) (tb a) w) (2 + 2 * y.toNatClampNeg + 2) (3 + 2 * y.toNatClampNeg + 2) (a (2 + 2 * y.toNatClampNeg)) (a (3 + 2 * y.toNatClampNeg)) (r (2 * y.toNatClampNeg)) (r (2 * y.toNatClampNeg + 1)) (f y.toNatClampNeg) (nI y4_40) y4_40 (nI y5_52) y5_52 (mwG (i := y.toNatClampNeg) (a := a) (r := r) (f := f) (q := (va_up q 3 t11)) (T := tb a) (w := w) (by omega)) (mwA (i := y.toNatClampNeg) (a := a) (r := r) (f := f) (q := (va_up q 3 t11)) (T := tb a) (w := w) (by omega)) (mok_shp (i := y.toNatClampNeg) hm (by omega)) rfl rfl (by omega)) ⟨rfl, by decide, by decide, by decide +kernel⟩ wm_5_237 wm_5_238 wm_5_239 wm_1_7 wm_6_0 ⟨Nat.le_of_ble_eq_true rfl, Nat.le_of_ble_eq_true rfl⟩ ⟨by dsimp only [Rm]; omega, by dsimp only [Rm]; omega⟩ (mwG (i := y.toNatClampNeg) (a := a) (r := r) (f := f) (q := (va_up q 3 t11)) (T := tb a) (w := w) (by omega)) rfl rfl rfl hl.1 rfl (Nat.le_of_ble_eq_true rfl) dX10_text_92 (fun o w' H locs hp hB => ?_)
                    obtain ⟨rfl, hw9⟩ := hp
                    replace hB : Bd κ A s (bA κ q297 n298 F299 :: (q14, .inr (1, [.ref q297, .int 0, .int 0, .int (nI c300)])) :: mw κ a r f (va_up q 3 t11) (tb a) w) H locs := by rw [hw9] at hB; exact hB
                    refine W.eq (g2 := F0 m 95 ls [.long ((f y.toNatClampNeg) (y4_40 * 5 + y5_52)), .ref q14]) rfl ?_
                    refine call_V (n := 1) (k0 := 1) (As := [.long ((f y.toNatClampNeg) (y4_40 * 5 + y5_52))]) (rest := []) hX hB (k_J4_append_f7089 κ l (mw κ a r f (va_up q 3 t11) (tb a) w) q14 q297 n298 c300 0 F299 ((f y.toNatClampNeg) (y4_40 * 5 + y5_52)) (by omega) (by omega) hf302 (by omega) (by omega) ((hm _ (by omega)).2 _ (by omega))) ⟨rfl, by decide, by decide, by decide +kernel⟩ wm_7_40 wm_7_41 wm_7_42 wm_1_18 wm_7_43 ⟨Nat.le_of_ble_eq_true rfl, Nat.le_of_ble_eq_true rfl⟩ ⟨by dsimp only [Rm]; omega, by dsimp only [Rm]; omega⟩ rfl rfl rfl rfl hl.1 rfl (Nat.le_of_ble_eq_true rfl) dX10_text_95 (fun o w' H locs hp hB => ?_)
                    obtain ⟨q304, n305, F306, c307, rfl, hf308, hf309, hw9⟩ := hp
                    replace hB : Bd κ A s (bA κ q304 n305 F306 :: (q14, .inr (1, [.ref q304, .int 0, .int 0, .int (nI c307)])) :: mw κ a r f (va_up q 3 t11) (tb a) w) H locs := by rw [hw9] at hB; exact hB
                    refine W.eq (g2 := F0 m 98 ls [.ref q14]) rfl ?_
                    refine lv_pop hx hb dX10_text_98 rfl ?_
                    refine lv_iinc (v := nI (y5_52 + 1)) (lv' := [(5, .int (nI (y5_52 + 1))), (4, .int (nI y4_40)), (3, .ref (a (2 + 2 * y.toNatClampNeg))), (2, .ref q14), (0, .ref (a 0)), (1, .int y)]) hx hb dX10_text_99 hl (k := 0) rfl (nI_add y5_52 1) (by decide) rfl (fun ls hl => ?_)
                    refine lv_goto (tgt := 52) hx hb dX10_text_102 (by decide) ?_
                    refine W.widen (k := 2 + y4_40 * 8 + (y5_52 + 1) * 2) (n := 1004 + y4_40 * 6560 + (y5_52 + 1) * 1640) (by omega) (by omega) ?_
                    exact ih52 (y5_52 + 1) q304 c307 n305 F306 _ _ (by omega) (⟨by omega, by omega, by omega, by omega⟩) hf309 (by omega) hB _ hl
                · replace c282 : ¬ nI y5_52 ≤ nI 0 := c282
                  rw [nleP (by omega) (by omega)] at c282
                  refine ldcT (i := 1) hX hX.2.1.2.2.1.2.1.2.1 dX10_text_67 ?_
                  refine lv_goto (tgt := 84) hx hb dX10_text_69 (by decide) ?_
                  refine call_V (n := 1) (k0 := 1) (As := [.ref (adK κ 1)]) (rest := []) hX hB (k_J4_append_15ec4 κ l (mw κ a r f (va_up q 3 t11) (tb a) w) 1 q14 Pb_52 Pn_52 Pc_52 0 bs_52 (by omega) (by omega) hfb52 (by omega) (by omega) (by omega)) ⟨rfl, by decide, by decide, by decide +kernel⟩ wm_7_39 wm_4_188 wm_4_189 wm_1_18 wm_4_190 ⟨Nat.le_of_ble_eq_true rfl, Nat.le_of_ble_eq_true rfl⟩ ⟨by dsimp only [Rm]; omega, by dsimp only [Rm]; omega⟩ rfl rfl rfl rfl hl.1 rfl (Nat.le_of_ble_eq_true rfl) dX10_text_84 (fun o w' H locs hp hB => ?_)
                  obtain ⟨q310, n311, F312, c313, rfl, hf314, hf315, hw9⟩ := hp
                  replace hB : Bd κ A s (bA κ q310 n311 F312 :: (q14, .inr (1, [.ref q310, .int 0, .int 0, .int (nI c313)])) :: mw κ a r f (va_up q 3 t11) (tb a) w) H locs := by rw [hw9] at hB; exact hB
                  have hsl316 := sL_le (i := 1) (by omega)
                  refine W.eq (g2 := F0 m 87 ls [.ref q14]) rfl ?_
                  refine lv_aload_n hx hb dX10_text_87 rfl (lv_at hl 2 rfl) ?_
                  refine lv_iload hx hb dX10_text_88 (lv_at hl 1 rfl) ?_
                  refine lv_iload hx hb dX10_text_90 (lv_at hl 0 rfl) ?_
                  refine call_V (n := 2) (k0 := (2 + 2 * y.toNatClampNeg + 2)) (As := [.int (nI y4_40), .int (nI y5_52)]) (rest := [.ref q14]) hX hB (k_X7_at κ l (bA κ q310 n311 F312 :: (q14, .inr (1, [.ref q310, .int 0, .int 0, .int (nI c313)])) :: mw κ a r f (va_up q 3 t11) (tb a) w) (2 + 2 * y.toNatClampNeg + 2) (3 + 2 * y.toNatClampNeg + 2) (a (2 + 2 * y.toNatClampNeg)) (a (3 + 2 * y.toNatClampNeg)) (r (2 * y.toNatClampNeg)) (r (2 * y.toNatClampNeg + 1)) (f y.toNatClampNeg) (nI y4_40) y4_40 (nI y5_52) y5_52 (mwG (i := y.toNatClampNeg) (a := a) (r := r) (f := f) (q := (va_up q 3 t11)) (T := tb a) (w := w) (by omega)) (mwA (i := y.toNatClampNeg) (a := a) (r := r) (f := f) (q := (va_up q 3 t11)) (T := tb a) (w := w) (by omega)) (mok_shp (i := y.toNatClampNeg) hm (by omega)) rfl rfl (by omega)) ⟨rfl, by decide, by decide, by decide +kernel⟩ wm_5_237 wm_5_238 wm_5_239 wm_1_7 wm_6_0 ⟨Nat.le_of_ble_eq_true rfl, Nat.le_of_ble_eq_true rfl⟩ ⟨by dsimp only [Rm]; omega, by dsimp only [Rm]; omega⟩ (mwG (i := y.toNatClampNeg) (a := a) (r := r) (f := f) (q := (va_up q 3 t11)) (T := tb a) (w := w) (by omega)) rfl rfl rfl hl.1 rfl (Nat.le_of_ble_eq_true rfl) dX10_text_92 (fun o w' H locs hp hB => ?_)
                  obtain ⟨rfl, hw9⟩ := hp
                  replace hB : Bd κ A s (bA κ q310 n311 F312 :: (q14, .inr (1, [.ref q310, .int 0, .int 0, .int (nI c313)])) :: mw κ a r f (va_up q 3 t11) (tb a) w) H locs := by rw [hw9] at hB; exact hB
                  refine W.eq (g2 := F0 m 95 ls [.long ((f y.toNatClampNeg) (y4_40 * 5 + y5_52)), .ref q14]) rfl ?_
                  refine call_V (n := 1) (k0 := 1) (As := [.long ((f y.toNatClampNeg) (y4_40 * 5 + y5_52))]) (rest := []) hX hB (k_J4_append_f7089 κ l (mw κ a r f (va_up q 3 t11) (tb a) w) q14 q310 n311 c313 0 F312 ((f y.toNatClampNeg) (y4_40 * 5 + y5_52)) (by omega) (by omega) hf315 (by omega) (by omega) ((hm _ (by omega)).2 _ (by omega))) ⟨rfl, by decide, by decide, by decide +kernel⟩ wm_7_40 wm_7_41 wm_7_42 wm_1_18 wm_7_43 ⟨Nat.le_of_ble_eq_true rfl, Nat.le_of_ble_eq_true rfl⟩ ⟨by dsimp only [Rm]; omega, by dsimp only [Rm]; omega⟩ rfl rfl rfl rfl hl.1 rfl (Nat.le_of_ble_eq_true rfl) dX10_text_95 (fun o w' H locs hp hB => ?_)
                  obtain ⟨q317, n318, F319, c320, rfl, hf321, hf322, hw9⟩ := hp
                  replace hB : Bd κ A s (bA κ q317 n318 F319 :: (q14, .inr (1, [.ref q317, .int 0, .int 0, .int (nI c320)])) :: mw κ a r f (va_up q 3 t11) (tb a) w) H locs := by rw [hw9] at hB; exact hB
                  refine W.eq (g2 := F0 m 98 ls [.ref q14]) rfl ?_
                  refine lv_pop hx hb dX10_text_98 rfl ?_
                  refine lv_iinc (v := nI (y5_52 + 1)) (lv' := [(5, .int (nI (y5_52 + 1))), (4, .int (nI y4_40)), (3, .ref (a (2 + 2 * y.toNatClampNeg))), (2, .ref q14), (0, .ref (a 0)), (1, .int y)]) hx hb dX10_text_99 hl (k := 0) rfl (nI_add y5_52 1) (by decide) rfl (fun ls hl => ?_)
                  refine lv_goto (tgt := 52) hx hb dX10_text_102 (by decide) ?_
                  refine W.widen (k := 2 + y4_40 * 8 + (y5_52 + 1) * 2) (n := 1004 + y4_40 * 6560 + (y5_52 + 1) * 1640) (by omega) (by omega) ?_
                  exact ih52 (y5_52 + 1) q317 c320 n318 F319 _ _ (by omega) (⟨by omega, by omega, by omega, by omega⟩) hf322 (by omega) hB _ hl
          refine W.widen (k := 2 + y4_40 * 8 + 0 * 2) (n := 1004 + y4_40 * 6560 + 0 * 1640) (by omega) (by omega) ?_
          exact lp52 _ 0 Pb_40 Pc_40 Pn_40 bs_40 _ _ (by omega) (⟨by omega, by omega, by omega, by omega⟩) hfb40 (Nat.lt_succ_self _) hB _ hl
    refine W.widen (k := 2 + 0 * 8) (n := 1004 + 0 * 6560) (by omega) (by omega) ?_
    exact lp40 _ 0 b15 0 16 (fun _ => 0) _ _ (by omega) (⟨by omega, by omega, by omega, by omega⟩) sb_fit0 (Nat.lt_succ_self _) hB _ hl
set_option maxHeartbeats 4000000 in
set_option maxRecDepth 100000 in
theorem k_X10_rest (κ : Kt) (l : Launch) (w : va_W) (a r : Nat → Nat) (f : Nat → Nat → Int64) (q : Nat → Int32) (y : Int32) (z : Int32) (hm : mok r f) : CM κ l yX10_rest cX10_rest 9 (some (.object "java/lang/String")) 8 209 18 8622 [.ref (a 0), .int y, .int z] (mw κ a r f q (tb a) w) (fun o w' => ∃ (q1 : Nat) (q' : Nat → Int32), o = some (.ref q1) ∧ (q' 2 = q 2 ∧ q' 0 = q 0 ∧ q' 1 = q 1) ∧ w' = mw κ a r f q' (tb a) w) := by
  refine CM_begin (plainFor_of_name (by decide)) (Nat.le_of_ble_eq_true rfl) ?_
  intro p e s m args below meth c A Q hX hnm hA3 hQ hB ls hl
  have hx := hX.1.1
  have hb := hX.1.2.1
  have hl : lv_has ls 9 [(0, .ref (a 0)), (1, .int y), (2, .int z)] := hl
  refine lv_aload_n hx hb dX10_rest_0 rfl (lv_at hl 0 rfl) ?_
  refine lv_iload_n hx hb dX10_rest_1 rfl (lv_at hl 1 rfl) ?_
  refine call_S (n := 1) (As := [.int y]) (rest := [.ref (a 0)]) hX hB (o_X10_isTable κ l (mw κ a r f q (tb a) w) y) ⟨by decide, by decide, by decide +kernel⟩ wm_5_186 wm_5_187 wm_1_6 wm_5_188 ⟨Nat.le_of_ble_eq_true rfl, Nat.le_of_ble_eq_true rfl⟩ ⟨Nat.le_of_ble_eq_true rfl, Nat.le_of_ble_eq_true rfl⟩ rfl hl.1 rfl (Nat.le_of_ble_eq_true rfl) dX10_rest_2 (fun o w' H locs hp hB => ?_)
  obtain ⟨z1, rfl, hf2, hw9⟩ := hp
  replace hB : Bd κ A s (mw κ a r f q (tb a) w) H locs := by rw [hw9] at hB; exact hB
  rcases hf2 with rfl | ⟨rfl, hz3a, hz3b⟩
  · refine W.eq (g2 := F0 m 5 ls [.int 0, .ref (a 0)]) rfl ?_
    refine lv_if_ne (tgt := 12) hx hb dX10_rest_5 (by decide) (fun c4 => False.elim (by revert c4; decide)) (fun _ => ?_)
    refine lv_iconst (v := 1) hx hb dX10_rest_8 (by decide) ?_
    refine lv_goto (tgt := 13) hx hb dX10_rest_9 (by decide) ?_
    refine call_V (n := 1) (k0 := 0) (As := [.int 1]) (rest := []) hX hB (o_X10_isThrown__ κ l (mw κ a r f q (tb a) w) 0 (a 0) (a 1) (q 0) (q 1) (q 2) (q 3) 1 (mw0x (a := a) (r := r) (f := f) (q := q) (T := tb a) (w := w) rfl)) ⟨rfl, by decide, by decide, by decide +kernel⟩ wm_6_15 wm_6_17 wp_33 wm_1_6 wm_6_18 ⟨Nat.le_of_ble_eq_true rfl, Nat.le_of_ble_eq_true rfl⟩ ⟨Nat.le_of_ble_eq_true rfl, Nat.le_of_ble_eq_true rfl⟩ (mw0x (a := a) (r := r) (f := f) (q := q) (T := tb a) (w := w) rfl) rfl rfl rfl hl.1 rfl (Nat.le_of_ble_eq_true rfl) dX10_rest_13 (fun o w' H locs hp hB => ?_)
    obtain ⟨x5, t6, rfl, hf7, hw9⟩ := hp
    replace hB : Bd κ A s (mw κ a r f (va_up q 3 t6) (tb a) w) H locs := by exact Bd_eq (mwQ3x rfl _) (by rw [hw9] at hB; exact hB)
    obtain rfl : x5 = 1 := hf7.trans (by decide)
    refine W.eq (g2 := F0 m 16 ls [.int 1]) rfl ?_
    refine lv_if_eq (tgt := 22) hx hb dX10_rest_16 (by decide) (fun c8 => False.elim (by revert c8; decide)) (fun _ => ?_)
    refine ldcT (i := 0) hX hX.2.1.2.2.1.2.1.1 dX10_rest_19 ?_
    rw [← hQ]
    exact end_a hX hB hA3 rfl (Or.inr ⟨_, rfl⟩) ⟨(adK κ 0), (va_up q 3 t6), rfl, ⟨rfl, rfl, rfl⟩, rfl⟩ (Nat.le_of_ble_eq_true rfl) (Nat.le_of_ble_eq_true rfl) dX10_rest_21
  · refine W.eq (g2 := F0 m 5 ls [.int 1, .ref (a 0)]) rfl ?_
    refine lv_if_ne (tgt := 12) hx hb dX10_rest_5 (by decide) (fun _ => ?_) (fun c9 => False.elim (by revert c9; decide))
    refine lv_iconst (v := 0) hx hb dX10_rest_12 (by decide) ?_
    refine call_V (n := 1) (k0 := 0) (As := [.int 0]) (rest := []) hX hB (o_X10_isThrown__ κ l (mw κ a r f q (tb a) w) 0 (a 0) (a 1) (q 0) (q 1) (q 2) (q 3) 0 (mw0x (a := a) (r := r) (f := f) (q := q) (T := tb a) (w := w) rfl)) ⟨rfl, by decide, by decide, by decide +kernel⟩ wm_6_15 wm_6_17 wp_33 wm_1_6 wm_6_18 ⟨Nat.le_of_ble_eq_true rfl, Nat.le_of_ble_eq_true rfl⟩ ⟨Nat.le_of_ble_eq_true rfl, Nat.le_of_ble_eq_true rfl⟩ (mw0x (a := a) (r := r) (f := f) (q := q) (T := tb a) (w := w) rfl) rfl rfl rfl hl.1 rfl (Nat.le_of_ble_eq_true rfl) dX10_rest_13 (fun o w' H locs hp hB => ?_)
    obtain ⟨x10, t11, rfl, hf12, hw9⟩ := hp
    replace hB : Bd κ A s (mw κ a r f (va_up q 3 t11) (tb a) w) H locs := by exact Bd_eq (mwQ3x rfl _) (by rw [hw9] at hB; exact hB)
    obtain rfl : x10 = 0 := hf12.trans (by decide)
    refine W.eq (g2 := F0 m 16 ls [.int 0]) rfl ?_
    refine lv_if_eq (tgt := 22) hx hb dX10_rest_16 (by decide) (fun _ => ?_) (fun c13 => False.elim (by revert c13; decide))
    refine lv_aload_n hx hb dX10_rest_22 rfl (lv_at hl 0 rfl) ?_
    refine gf (k0 := 0) hX hB (mw0x (a := a) (r := r) (f := f) (q := (va_up q 3 t11)) (T := tb a) (w := w) rfl) rfl in10 0 (by decide) wm_5_162 rfl rfl dX10_rest_23 ?_
    refine lv_iload_n hx hb dX10_rest_26 rfl (lv_at hl 1 rfl) ?_
    refine aaldM (k0 := 1) hX hB (mw1 (a := a) (r := r) (f := f) (q := (va_up q 3 t11)) (T := tb a) (w := w)) (vp_in_mk (by assumption) (by assumption)) rfl dX10_rest_27 ?_
    have hb14 := mok_r hm y.toNatClampNeg (by omega)
    refine call_S (n := 1) (As := [.ref (a (2 + 2 * y.toNatClampNeg))]) (rest := []) hX hB (o_X10_leaving κ l (mw κ a r f (va_up q 3 t11) (tb a) w) (2 + 2 * y.toNatClampNeg) (3 + 2 * y.toNatClampNeg) (a (2 + 2 * y.toNatClampNeg)) (a (3 + 2 * y.toNatClampNeg)) (r (2 * y.toNatClampNeg)) (r (2 * y.toNatClampNeg + 1)) (f y.toNatClampNeg) (mwG (i := y.toNatClampNeg) (a := a) (r := r) (f := f) (q := (va_up q 3 t11)) (T := tb a) (w := w) (by omega)) (mwA (i := y.toNatClampNeg) (a := a) (r := r) (f := f) (q := (va_up q 3 t11)) (T := tb a) (w := w) (by omega)) (mok_shp (i := y.toNatClampNeg) hm (by omega)) (by omega) (fun k hk => sm_ng ((hm _ (by omega)).2 k hk))) ⟨by decide, by decide, by decide +kernel⟩ wm_7_148 wm_7_149 wm_1_6 wm_7_150 ⟨Nat.le_of_ble_eq_true rfl, Nat.le_of_ble_eq_true rfl⟩ ⟨Nat.le_of_ble_eq_true rfl, Nat.le_of_ble_eq_true rfl⟩ rfl hl.1 rfl (Nat.le_of_ble_eq_true rfl) dX10_rest_28 (fun o w' H locs hp hB => ?_)
    rcases hp with ⟨rfl, hw9⟩ | ⟨q15, q16, R17, C18, F19, rfl, ⟨hd20r, hd20c, hd20e, hd20n⟩, hw9⟩
    · replace hB : Bd κ A s (mw κ a r f (va_up q 3 t11) (tb a) w) H locs := by rw [hw9] at hB; exact hB
      refine W.eq (g2 := F0 m 31 ls [.null]) rfl ?_
      refine lv_astore_nN (lv' := [(3, .null), (0, .ref (a 0)), (1, .int y), (2, .int z)]) hx hb dX10_rest_31 rfl hl (by decide) rfl (fun ls hl => ?_)
      refine lv_aload_n hx hb dX10_rest_32 rfl (lv_at hl 1 rfl) ?_
      refine lv_iconst (v := 0) hx hb dX10_rest_33 (by decide) ?_
      refine lv_aload_nN hx hb dX10_rest_34 rfl (lv_at hl 0 rfl) ?_
      refine lv_ifnonnullN hx hb dX10_rest_35 ?_
      refine lv_iconst (v := 1) hx hb dX10_rest_38 (by decide) ?_
      refine lv_goto (tgt := 43) hx hb dX10_rest_39 (by decide) ?_
      refine lv_aload_nN hx hb dX10_rest_43 rfl (lv_at hl 0 rfl) ?_
      refine lv_ifnullN (tgt := 73) hx hb dX10_rest_44 (by decide) ?_
      refine lv_iconst (v := 0) hx hb dX10_rest_73 (by decide) ?_
      refine call_V (n := 3) (k0 := 0) (As := [.int 0, .int 1, .int 0]) (rest := []) hX hB (o_X10_isThrown κ l (mw κ a r f (va_up q 3 t11) (tb a) w) 0 (a 0) (a 1) ((va_up q 3 t11) 0) ((va_up q 3 t11) 1) ((va_up q 3 t11) 2) ((va_up q 3 t11) 3) 0 1 0 (mw0x (a := a) (r := r) (f := f) (q := (va_up q 3 t11)) (T := tb a) (w := w) rfl)) ⟨rfl, by decide, by decide, by decide +kernel⟩ wm_5_196 wm_5_198 wp_28 wm_1_6 wm_5_199 ⟨Nat.le_of_ble_eq_true rfl, Nat.le_of_ble_eq_true rfl⟩ ⟨Nat.le_of_ble_eq_true rfl, Nat.le_of_ble_eq_true rfl⟩ (mw0x (a := a) (r := r) (f := f) (q := (va_up q 3 t11)) (T := tb a) (w := w) rfl) rfl rfl rfl hl.1 rfl (Nat.le_of_ble_eq_true rfl) dX10_rest_74 (fun o w' H locs hp hB => ?_)
      obtain ⟨x21, t22, rfl, hf23, hw9⟩ := hp
      replace hB : Bd κ A s (mw κ a r f (va_up (va_up q 3 t11) 3 t22) (tb a) w) H locs := by exact Bd_eq (mwQ3x rfl _) (by rw [hw9] at hB; exact hB)
      obtain rfl : x21 = 1 := hf23.trans (by decide)
      refine W.eq (g2 := F0 m 77 ls [.int 1]) rfl ?_
      refine lv_if_eq (tgt := 83) hx hb dX10_rest_77 (by decide) (fun c24 => False.elim (by revert c24; decide)) (fun _ => ?_)
      refine ldcT (i := 0) hX hX.2.1.2.2.1.2.1.1 dX10_rest_80 ?_
      rw [← hQ]
      exact end_a hX hB hA3 rfl (Or.inr ⟨_, rfl⟩) ⟨(adK κ 0), (va_up (va_up q 3 t11) 3 t22), rfl, ⟨rfl, rfl, rfl⟩, rfl⟩ (Nat.le_of_ble_eq_true rfl) (Nat.le_of_ble_eq_true rfl) dX10_rest_82
    · replace hB : Bd κ A s (lA κ q16 (R17 * 5) F19 :: gO q15 R17 C18 q16 :: mw κ a r f (va_up q 3 t11) (tb a) w) H locs := by rw [hw9] at hB; exact hB
      refine W.eq (g2 := F0 m 31 ls [.ref q15]) rfl ?_
      refine lv_astore_n (lv' := [(3, .ref q15), (0, .ref (a 0)), (1, .int y), (2, .int z)]) hx hb dX10_rest_31 rfl hl (by decide) rfl (fun ls hl => ?_)
      refine lv_aload_n hx hb dX10_rest_32 rfl (lv_at hl 1 rfl) ?_
      refine lv_iconst (v := 0) hx hb dX10_rest_33 (by decide) ?_
      refine lv_aload_n hx hb dX10_rest_34 rfl (lv_at hl 0 rfl) ?_
      refine lv_ifnonnull (tgt := 42) hx hb dX10_rest_35 (by decide) ?_
      refine lv_iconst (v := 0) hx hb dX10_rest_42 (by decide) ?_
      refine lv_aload_n hx hb dX10_rest_43 rfl (lv_at hl 0 rfl) ?_
      refine lv_ifnull hx hb dX10_rest_44 ?_
      refine lv_iload_n hx hb dX10_rest_47 rfl (lv_at hl 3 rfl) ?_
      refine lv_if_lt (tgt := 69) hx hb dX10_rest_48 (by decide) (fun c25 => ?_) (fun c25 => ?_)
      · refine lv_iconst (v := 1) hx hb dX10_rest_69 (by decide) ?_
        refine lv_goto (tgt := 74) hx hb dX10_rest_70 (by decide) ?_
        refine call_V (n := 3) (k0 := 2) (As := [.int 0, .int 0, .int 1]) (rest := []) hX hB (o_X10_isThrown κ l (lA κ q16 (R17 * 5) F19 :: gO q15 R17 C18 q16 :: mw κ a r f (va_up q 3 t11) (tb a) w) 2 (a 0) (a 1) ((va_up q 3 t11) 0) ((va_up q 3 t11) 1) ((va_up q 3 t11) 2) ((va_up q 3 t11) 3) 0 0 1 (mw0x (a := a) (r := r) (f := f) (q := (va_up q 3 t11)) (T := tb a) (w := w) rfl)) ⟨rfl, by decide, by decide, by decide +kernel⟩ wm_5_196 wm_5_198 wp_28 wm_1_6 wm_5_199 ⟨Nat.le_of_ble_eq_true rfl, Nat.le_of_ble_eq_true rfl⟩ ⟨Nat.le_of_ble_eq_true rfl, Nat.le_of_ble_eq_true rfl⟩ (mw0x (a := a) (r := r) (f := f) (q := (va_up q 3 t11)) (T := tb a) (w := w) rfl) rfl rfl rfl hl.1 rfl (Nat.le_of_ble_eq_true rfl) dX10_rest_74 (fun o w' H locs hp hB => ?_)
        obtain ⟨x26, t27, rfl, hf28, hw9⟩ := hp
        replace hB : Bd κ A s (lA κ q16 (R17 * 5) F19 :: gO q15 R17 C18 q16 :: mw κ a r f (va_up (va_up q 3 t11) 3 t27) (tb a) w) H locs := by exact Bd_eq (congrArg (List.cons _) (congrArg (List.cons _) (mwQ3x rfl _))) (by rw [hw9] at hB; exact hB)
        obtain rfl : x26 = 1 := hf28.trans (by decide)
        refine W.eq (g2 := F0 m 77 ls [.int 1]) rfl ?_
        refine lv_if_eq (tgt := 83) hx hb dX10_rest_77 (by decide) (fun c29 => False.elim (by revert c29; decide)) (fun _ => ?_)
        refine ldcT (i := 0) hX hX.2.1.2.2.1.2.1.1 dX10_rest_80 ?_
        replace hB : Bd κ A s (lA κ q16 (R17 * 5) F19 :: mw κ a r f (va_up (va_up q 3 t11) 3 t27) (tb a) w) H locs := Bd_del 1 hB
        replace hB : Bd κ A s (mw κ a r f (va_up (va_up q 3 t11) 3 t27) (tb a) w) H locs := Bd_del 0 hB
        rw [← hQ]
        exact end_a hX hB hA3 rfl (Or.inr ⟨_, rfl⟩) ⟨(adK κ 0), (va_up (va_up q 3 t11) 3 t27), rfl, ⟨rfl, rfl, rfl⟩, rfl⟩ (Nat.le_of_ble_eq_true rfl) (Nat.le_of_ble_eq_true rfl) dX10_rest_82
      · refine lv_iload_n hx hb dX10_rest_51 rfl (lv_at hl 3 rfl) ?_
        refine lv_i2l hx hb dX10_rest_52 rfl ?_
        refine lv_aload_n hx hb dX10_rest_53 rfl (lv_at hl 1 rfl) ?_
        refine gf (k0 := 2) hX hB (mw0x (a := a) (r := r) (f := f) (q := (va_up q 3 t11)) (T := tb a) (w := w) rfl) rfl in10 0 (by decide) wm_5_162 rfl rfl dX10_rest_54 ?_
        refine lv_iload_n hx hb dX10_rest_57 rfl (lv_at hl 2 rfl) ?_
        refine aaldM (k0 := 3) hX hB (mw1 (a := a) (r := r) (f := f) (q := (va_up q 3 t11)) (T := tb a) (w := w)) (vp_in_mk (by assumption) (by assumption)) rfl dX10_rest_58 ?_
        have hb30 := mok_r hm y.toNatClampNeg (by omega)
        refine call_S (n := 1) (As := [.ref (a (2 + 2 * y.toNatClampNeg))]) (rest := [.long ((z).toInt64), .int 0, .int 0, .ref (a 0)]) hX hB (k_X10_determinantOf κ l (lA κ q16 (R17 * 5) F19 :: gO q15 R17 C18 q16 :: mw κ a r f (va_up q 3 t11) (tb a) w) (2 + 2 * y.toNatClampNeg + 2) (3 + 2 * y.toNatClampNeg + 2) (a (2 + 2 * y.toNatClampNeg)) (a (3 + 2 * y.toNatClampNeg)) (r (2 * y.toNatClampNeg)) (r (2 * y.toNatClampNeg + 1)) (f y.toNatClampNeg) (mwG (i := y.toNatClampNeg) (a := a) (r := r) (f := f) (q := (va_up q 3 t11)) (T := tb a) (w := w) (by omega)) (mwA (i := y.toNatClampNeg) (a := a) (r := r) (f := f) (q := (va_up q 3 t11)) (T := tb a) (w := w) (by omega)) (mok_shp (i := y.toNatClampNeg) hm (by omega)) (by omega)) ⟨by decide, by decide, by decide +kernel⟩ wm_7_76 wm_7_77 wm_1_6 wm_7_78 ⟨Nat.le_of_ble_eq_true rfl, Nat.le_of_ble_eq_true rfl⟩ ⟨Nat.le_of_ble_eq_true rfl, Nat.le_of_ble_eq_true rfl⟩ rfl hl.1 rfl (Nat.le_of_ble_eq_true rfl) dX10_rest_59 (fun o w' H locs hp hB => ?_)
        obtain ⟨rfl, hw9⟩ := hp
        replace hB : Bd κ A s (lA κ q16 (R17 * 5) F19 :: gO q15 R17 C18 q16 :: mw κ a r f (va_up q 3 t11) (tb a) w) H locs := by rw [hw9] at hB; exact hB
        refine W.eq (g2 := F0 m 62 ls [.long (mnv (f y.toNatClampNeg) (r (2 * y.toNatClampNeg + 1)) (r (2 * y.toNatClampNeg)) (2 ^ (r (2 * y.toNatClampNeg)) - 1) (2 ^ (r (2 * y.toNatClampNeg + 1)) - 1)), .long ((z).toInt64), .int 0, .int 0, .ref (a 0)]) rfl ?_
        refine va_mabs_long hx hb (by rw [hX.1.2.2.1]; exact hl.1.symm) hX.1.2.2.2.1 (hX.1.2.2.2.2 _ wm_7_109) (hX.1.2.2.2.2 _ wm_1_237) (hX.1.2.2.2.2 _ wm_1_14) (hX.1.2.2.2.2 _ wm_1_238) (Nat.le_of_ble_eq_true rfl) (Nat.le_of_ble_eq_true rfl) (Nat.le_of_ble_eq_true rfl) (Nat.le_of_ble_eq_true rfl) dX10_rest_62 ?_
        refine lv_topl (fun t31 et31 => ?_)
        refine W.lcmp hx hb dX10_rest_65 ?_
        refine lv_if_lt (tgt := 73) hx hb dX10_rest_66 (by decide) (fun c32 => ?_) (fun c32 => ?_)
        · refine lv_iconst (v := 0) hx hb dX10_rest_73 (by decide) ?_
          refine call_V (n := 3) (k0 := 2) (As := [.int 0, .int 0, .int 0]) (rest := []) hX hB (o_X10_isThrown κ l (lA κ q16 (R17 * 5) F19 :: gO q15 R17 C18 q16 :: mw κ a r f (va_up q 3 t11) (tb a) w) 2 (a 0) (a 1) ((va_up q 3 t11) 0) ((va_up q 3 t11) 1) ((va_up q 3 t11) 2) ((va_up q 3 t11) 3) 0 0 0 (mw0x (a := a) (r := r) (f := f) (q := (va_up q 3 t11)) (T := tb a) (w := w) rfl)) ⟨rfl, by decide, by decide, by decide +kernel⟩ wm_5_196 wm_5_198 wp_28 wm_1_6 wm_5_199 ⟨Nat.le_of_ble_eq_true rfl, Nat.le_of_ble_eq_true rfl⟩ ⟨Nat.le_of_ble_eq_true rfl, Nat.le_of_ble_eq_true rfl⟩ (mw0x (a := a) (r := r) (f := f) (q := (va_up q 3 t11)) (T := tb a) (w := w) rfl) rfl rfl rfl hl.1 rfl (Nat.le_of_ble_eq_true rfl) dX10_rest_74 (fun o w' H locs hp hB => ?_)
          obtain ⟨x33, t34, rfl, hf35, hw9⟩ := hp
          replace hB : Bd κ A s (lA κ q16 (R17 * 5) F19 :: gO q15 R17 C18 q16 :: mw κ a r f (va_up (va_up q 3 t11) 3 t34) (tb a) w) H locs := by exact Bd_eq (congrArg (List.cons _) (congrArg (List.cons _) (mwQ3x rfl _))) (by rw [hw9] at hB; exact hB)
          obtain rfl : x33 = 0 := hf35.trans (by decide)
          refine W.eq (g2 := F0 m 77 ls [.int 0]) rfl ?_
          refine lv_if_eq (tgt := 83) hx hb dX10_rest_77 (by decide) (fun _ => ?_) (fun c36 => False.elim (by revert c36; decide))
          have hdN := hd20n
          refine lv_aload_n hx hb dX10_rest_83 rfl (lv_at hl 0 rfl) ?_
          refine gf (k0 := 1) hX hB rfl rfl in7 0 (by decide) wm_5_148 rfl rfl dX10_rest_84 ?_
          refine newA (t0 := 4) (ty := .int) (N := R17) (mx := 4) (a0 := (R17, .inl (fun _ => 0))) hX hB rfl rfl (fun h => h) wm_7_152 (fun _ => rfl) (nI_pos (n := R17) (by omega)) (nI_clamp (n := R17) (by omega)) (by omega) (Nat.le_of_ble_eq_true rfl) (Nat.le_of_ble_eq_true rfl) (Nat.le_of_ble_eq_true rfl) dX10_rest_87 (fun q37 H hB => ?_)
          refine lv_astore (lv' := [(4, .ref q37), (3, .ref q15), (0, .ref (a 0)), (1, .int y), (2, .int z)]) hx hb dX10_rest_89 hl (by decide) rfl (fun ls hl => ?_)
          refine lv_iload_n hx hb dX10_rest_91 rfl (lv_at hl 4 rfl) ?_
          refine lv_i2l hx hb dX10_rest_92 rfl ?_
          refine lv_lstore (lv' := [(5, .long ((z).toInt64)), (4, .ref q37), (3, .ref q15), (0, .ref (a 0)), (1, .int y), (2, .int z)]) hx hb dX10_rest_93 hl (by decide) rfl (fun ls hl => ?_)
          refine lv_aload_n hx hb dX10_rest_95 rfl (lv_at hl 2 rfl) ?_
          refine gf (k0 := 2) hX hB rfl rfl in7 0 (by decide) wm_5_148 rfl rfl dX10_rest_96 ?_
          refine lv_iconst (v := 1) hx hb dX10_rest_99 (by decide) ?_
          refine lv_isub hx hb dX10_rest_100 ?_
          refine eqi (y := nI (R17 - 1)) (nI_sub (a := R17) (b := 1) (by omega)) ?_
          refine lv_istore (lv' := [(7, .int (nI (R17 - 1))), (5, .long ((z).toInt64)), (4, .ref q37), (3, .ref q15), (0, .ref (a 0)), (1, .int y), (2, .int z)]) hx hb dX10_rest_101 hl (by decide) rfl (fun ls hl => ?_)
          have lp103 : ∀ (nn : Nat) (y7_103 : Int32) (y5_103 : Int64) (bq37_103 : Nat → Int32) (H : Heap) (locs : List Loc), (¬ nI R17 ≤ y7_103) → gapd y7_103 < nn → Bd κ A s (iA κ q37 R17 bq37_103 :: lA κ q16 (R17 * 5) F19 :: gO q15 R17 C18 q16 :: mw κ a r f (va_up (va_up q 3 t11) 3 t34) (tb a) w) H locs → ∀ ls : Array Slot, lv_has ls 9 [(7, .int y7_103), (5, .long y5_103), (4, .ref q37), (3, .ref q15), (0, .ref (a 0)), (1, .int y), (2, .int z)] → W p l e (Rm 8 209 18 8622) s m args below meth c H locs (6) (54) Q (F0 m 103 ls []) := by
            intro nn
            induction nn with
            | zero => intro y7_103 y5_103 bq37_103 H locs hcb hμ; exact absurd hμ (Nat.not_lt_zero _)
            | succ nn ih103 =>
              intro y7_103 y5_103 bq37_103 H locs hcb hμ103 hB ls hl
              refine lv_iload hx hb dX10_rest_103 (lv_at hl 0 rfl) ?_
              refine lv_if_lt (tgt := 144) hx hb dX10_rest_105 (by decide) (fun c121 => ?_) (fun c121 => ?_)
              · refine newO (fs := [.null, .int 0, .int 0, .int 0]) hX hB (ci := 1) rfl inJ4 tyJ4_ok wm_7_35 wm_3_231 wm_1_18 df1 (Nat.le_of_ble_eq_true rfl) (Nat.le_of_ble_eq_true rfl) dX10_rest_144 (fun q122 H hB => ?_)
                refine lv_dup hx hb dX10_rest_147 rfl ?_
                refine call_I (n := 0) (As := []) (rest := [.ref q122]) hX hB (k_J4_init_da8c8 κ l (iA κ q37 R17 bq37_103 :: lA κ q16 (R17 * 5) F19 :: gO q15 R17 C18 q16 :: mw κ a r f (va_up (va_up q 3 t11) 3 t34) (tb a) w) q122 ) ⟨by decide, by decide, by decide +kernel⟩ rfl wm_7_36 wm_3_233 wm_1_18 wm_3_234 ⟨Nat.le_of_ble_eq_true rfl, Nat.le_of_ble_eq_true rfl⟩ ⟨Nat.le_of_ble_eq_true rfl, Nat.le_of_ble_eq_true rfl⟩ rfl hl.1 rfl (Nat.le_of_ble_eq_true rfl) dX10_rest_148 (fun o w' H locs hp hB => ?_)
                obtain ⟨b123, rfl, hw9⟩ := hp
                replace hB : Bd κ A s (bA κ b123 16 (fun _ => 0) :: (q122, .inr (1, [.ref b123, .int 0, .int 0, .int (nI 0)])) :: iA κ q37 R17 bq37_103 :: lA κ q16 (R17 * 5) F19 :: gO q15 R17 C18 q16 :: mw κ a r f (va_up (va_up q 3 t11) 3 t34) (tb a) w) H locs := by rw [hw9] at hB; exact hB
                refine W.eq (g2 := F0 m 151 ls [.ref q122]) rfl ?_
                refine lv_astore (lv' := [(7, .ref q122), (5, .long y5_103), (4, .ref q37), (3, .ref q15), (0, .ref (a 0)), (1, .int y), (2, .int z)]) hx hb dX10_rest_151 hl (by decide) rfl (fun ls hl => ?_)
                refine lv_iconst (v := 0) hx hb dX10_rest_153 (by decide) ?_
                refine lv_istore (lv' := [(8, .int 0), (7, .ref q122), (5, .long y5_103), (4, .ref q37), (3, .ref q15), (0, .ref (a 0)), (1, .int y), (2, .int z)]) hx hb dX10_rest_154 hl (by decide) rfl (fun ls hl => ?_)
                have lp156 : ∀ (nn : Nat) (y8_156 : Nat) (Pb_156 : Nat) (Pc_156 : Nat) (Pn_156 : Nat) (bs_156 : Nat → Int32) (H : Heap) (locs : List Loc), (y8_156 ≤ R17) → (Pc_156 ≤ Pn_156 ∧ Pn_156 ≤ 1000 ∧ Pn_156 ≤ 2 * Pc_156 + 16 ∧ Pc_156 ≤ y8_156 * 12) → (sb_Fit bs_156) → R17 + 1 - y8_156 < nn → Bd κ A s (bA κ Pb_156 Pn_156 bs_156 :: (q122, .inr (1, [.ref Pb_156, .int 0, .int 0, .int (nI Pc_156)])) :: iA κ q37 R17 bq37_103 :: lA κ q16 (R17 * 5) F19 :: gO q15 R17 C18 q16 :: mw κ a r f (va_up (va_up q 3 t11) 3 t34) (tb a) w) H locs → ∀ ls : Array Slot, lv_has ls 9 [(8, .int (nI y8_156)), (7, .ref q122), (5, .long y5_103), (4, .ref q37), (3, .ref q15), (0, .ref (a 0)), (1, .int y), (2, .int z)] → W p l e (Rm 8 209 18 8622) s m args below meth c H locs (8 + y8_156 * 2) (1058 + y8_156 * 1640) Q (F0 m 156 ls []) := by
                  intro nn
                  induction nn with
                  | zero => intro y8_156 Pb_156 Pc_156 Pn_156 bs_156 H locs hn8_156 hsb156 hfb156 hμ; exact absurd hμ (Nat.not_lt_zero _)
                  | succ nn ih156 =>
                    intro y8_156 Pb_156 Pc_156 Pn_156 bs_156 H locs hn8_156 hsb156 hfb156 hμ156 hB ls hl
                    refine lv_iload hx hb dX10_rest_156 (lv_at hl 0 rfl) ?_
                    refine lv_aload_n hx hb dX10_rest_158 rfl (lv_at hl 4 rfl) ?_
                    refine gf (k0 := 4) hX hB rfl rfl in7 0 (by decide) wm_5_148 rfl rfl dX10_rest_159 ?_
                    refine lv_icmp_ge (tgt := 197) hx hb dX10_rest_162 (by decide) (fun c172 => ?_) (fun c172 => ?_)
                    · rw [nleP (a := R17) (b := y8_156) (by omega) (by omega)] at c172
                      refine W.widen (k := 16) (n := 7618) (by omega) (by omega) ?_
                      refine lv_aload hx hb dX10_rest_197 (lv_at hl 1 rfl) ?_
                      refine call_V (n := 0) (k0 := 1) (As := []) (rest := []) hX hB (k_J4_toString_0e30d κ l (iA κ q37 R17 bq37_103 :: lA κ q16 (R17 * 5) F19 :: gO q15 R17 C18 q16 :: mw κ a r f (va_up (va_up q 3 t11) 3 t34) (tb a) w) q122 Pb_156 Pn_156 Pc_156 0 bs_156 (by omega) (by omega) hfb156) ⟨rfl, by decide, by decide, by decide +kernel⟩ wm_7_67 wm_4_147 wm_4_148 wm_1_18 wm_4_149 ⟨Nat.le_of_ble_eq_true rfl, Nat.le_of_ble_eq_true rfl⟩ ⟨Nat.le_of_ble_eq_true rfl, Nat.le_of_ble_eq_true rfl⟩ rfl rfl rfl rfl hl.1 rfl (Nat.le_of_ble_eq_true rfl) dX10_rest_199 (fun o w' H locs hp hB => ?_)
                      obtain ⟨q173, rfl, hw9⟩ := hp
                      replace hB : Bd κ A s (bA κ Pb_156 Pn_156 bs_156 :: (q122, .inr (1, [.ref Pb_156, .int 0, .int 0, .int (nI Pc_156)])) :: iA κ q37 R17 bq37_103 :: lA κ q16 (R17 * 5) F19 :: gO q15 R17 C18 q16 :: mw κ a r f (va_up (va_up q 3 t11) 3 t34) (tb a) w) H locs := by rw [hw9] at hB; exact hB
                      refine W.eq (g2 := F0 m 202 ls [.ref q173]) rfl ?_
                      replace hB : Bd κ A s (iA κ q37 R17 bq37_103 :: lA κ q16 (R17 * 5) F19 :: gO q15 R17 C18 q16 :: mw κ a r f (va_up (va_up q 3 t11) 3 t34) (tb a) w) H locs := Bd_tail (Bd_tail hB)
                      replace hB : Bd κ A s (iA κ q37 R17 bq37_103 :: lA κ q16 (R17 * 5) F19 :: mw κ a r f (va_up (va_up q 3 t11) 3 t34) (tb a) w) H locs := Bd_del 2 hB
                      replace hB : Bd κ A s (iA κ q37 R17 bq37_103 :: mw κ a r f (va_up (va_up q 3 t11) 3 t34) (tb a) w) H locs := Bd_del 1 hB
                      replace hB : Bd κ A s (mw κ a r f (va_up (va_up q 3 t11) 3 t34) (tb a) w) H locs := Bd_del 0 hB
                      rw [← hQ]
                      exact end_a hX hB hA3 rfl (Or.inr ⟨_, rfl⟩) ⟨q173, (va_up (va_up q 3 t11) 3 t34), rfl, ⟨rfl, rfl, rfl⟩, rfl⟩ (Nat.le_of_ble_eq_true rfl) (Nat.le_of_ble_eq_true rfl) dX10_rest_202
                    · rw [nleP (a := R17) (b := y8_156) (by omega) (by omega)] at c172
                      refine lv_aload hx hb dX10_rest_165 (lv_at hl 1 rfl) ?_
                      refine lv_iload hx hb dX10_rest_167 (lv_at hl 0 rfl) ?_
                      refine lv_if_ne (tgt := 177) hx hb dX10_rest_169 (by decide) (fun c174 => ?_) (fun c174 => ?_)
                      · replace c174 : ¬ nI y8_156 = nI 0 := c174
                        rw [neqP (by omega) (by omega)] at c174
                        refine ldcT (i := 1) hX hX.2.1.2.2.1.2.1.2.1 dX10_rest_177 ?_
                        refine call_V (n := 1) (k0 := 1) (As := [.ref (adK κ 1)]) (rest := []) hX hB (k_J4_append_15ec4 κ l (iA κ q37 R17 bq37_103 :: lA κ q16 (R17 * 5) F19 :: gO q15 R17 C18 q16 :: mw κ a r f (va_up (va_up q 3 t11) 3 t34) (tb a) w) 1 q122 Pb_156 Pn_156 Pc_156 0 bs_156 (by omega) (by omega) hfb156 (by omega) (by omega) (by omega)) ⟨rfl, by decide, by decide, by decide +kernel⟩ wm_7_39 wm_4_188 wm_4_189 wm_1_18 wm_4_190 ⟨Nat.le_of_ble_eq_true rfl, Nat.le_of_ble_eq_true rfl⟩ ⟨by dsimp only [Rm]; omega, by dsimp only [Rm]; omega⟩ rfl rfl rfl rfl hl.1 rfl (Nat.le_of_ble_eq_true rfl) dX10_rest_179 (fun o w' H locs hp hB => ?_)
                        obtain ⟨q175, n176, F177, c178, rfl, hf179, hf180, hw9⟩ := hp
                        replace hB : Bd κ A s (bA κ q175 n176 F177 :: (q122, .inr (1, [.ref q175, .int 0, .int 0, .int (nI c178)])) :: iA κ q37 R17 bq37_103 :: lA κ q16 (R17 * 5) F19 :: gO q15 R17 C18 q16 :: mw κ a r f (va_up (va_up q 3 t11) 3 t34) (tb a) w) H locs := by rw [hw9] at hB; exact hB
                        have hsl181 := sL_le (i := 1) (by omega)
                        refine W.eq (g2 := F0 m 182 ls [.ref q122]) rfl ?_
                        refine lv_aload hx hb dX10_rest_182 (lv_at hl 3 rfl) ?_
                        refine lv_iload hx hb dX10_rest_184 (lv_at hl 0 rfl) ?_
                        refine ialdN (k0 := 2) (k := y8_156) hX hB rfl (by omega) (by omega) dX10_rest_186 ?_
                        refine lv_topi (fun u182 eu182 => ?_)
                        refine call_V (n := 1) (k0 := 1) (As := [.int u182]) (rest := []) hX hB (k_J4_append_bf812 κ l (iA κ q37 R17 bq37_103 :: lA κ q16 (R17 * 5) F19 :: gO q15 R17 C18 q16 :: mw κ a r f (va_up (va_up q 3 t11) 3 t34) (tb a) w) q122 q175 n176 c178 0 F177 u182 (by omega) (by omega) hf180 (by omega) (by omega)) ⟨rfl, by decide, by decide, by decide +kernel⟩ wm_7_151 wm_4_113 wm_4_114 wm_1_18 wm_4_115 ⟨Nat.le_of_ble_eq_true rfl, Nat.le_of_ble_eq_true rfl⟩ ⟨by dsimp only [Rm]; omega, by dsimp only [Rm]; omega⟩ rfl rfl rfl rfl hl.1 rfl (Nat.le_of_ble_eq_true rfl) dX10_rest_187 (fun o w' H locs hp hB => ?_)
                        obtain ⟨q183, n184, F185, c186, rfl, hf187, hf188, hw9⟩ := hp
                        replace hB : Bd κ A s (bA κ q183 n184 F185 :: (q122, .inr (1, [.ref q183, .int 0, .int 0, .int (nI c186)])) :: iA κ q37 R17 bq37_103 :: lA κ q16 (R17 * 5) F19 :: gO q15 R17 C18 q16 :: mw κ a r f (va_up (va_up q 3 t11) 3 t34) (tb a) w) H locs := by rw [hw9] at hB; exact hB
                        refine W.eq (g2 := F0 m 190 ls [.ref q122]) rfl ?_
                        refine lv_pop hx hb dX10_rest_190 rfl ?_
                        refine lv_iinc (v := nI (y8_156 + 1)) (lv' := [(8, .int (nI (y8_156 + 1))), (7, .ref q122), (5, .long y5_103), (4, .ref q37), (3, .ref q15), (0, .ref (a 0)), (1, .int y), (2, .int z)]) hx hb dX10_rest_191 hl (k := 0) rfl (nI_add y8_156 1) (by decide) rfl (fun ls hl => ?_)
                        refine lv_goto (tgt := 156) hx hb dX10_rest_194 (by decide) ?_
                        refine W.widen (k := 8 + (y8_156 + 1) * 2) (n := 1058 + (y8_156 + 1) * 1640) (by omega) (by omega) ?_
                        exact ih156 (y8_156 + 1) q183 c186 n184 F185 _ _ (by omega) (⟨by omega, by omega, by omega, by omega⟩) hf188 (by omega) hB _ hl
                      · replace c174 : nI y8_156 = nI 0 := c174
                        rw [neqP (by omega) (by omega)] at c174
                        refine ldcT (i := 0) hX hX.2.1.2.2.1.2.1.1 dX10_rest_172 ?_
                        refine lv_goto (tgt := 179) hx hb dX10_rest_174 (by decide) ?_
                        refine call_V (n := 1) (k0 := 1) (As := [.ref (adK κ 0)]) (rest := []) hX hB (k_J4_append_15ec4 κ l (iA κ q37 R17 bq37_103 :: lA κ q16 (R17 * 5) F19 :: gO q15 R17 C18 q16 :: mw κ a r f (va_up (va_up q 3 t11) 3 t34) (tb a) w) 0 q122 Pb_156 Pn_156 Pc_156 0 bs_156 (by omega) (by omega) hfb156 (by omega) (by omega) (by omega)) ⟨rfl, by decide, by decide, by decide +kernel⟩ wm_7_39 wm_4_188 wm_4_189 wm_1_18 wm_4_190 ⟨Nat.le_of_ble_eq_true rfl, Nat.le_of_ble_eq_true rfl⟩ ⟨by dsimp only [Rm]; omega, by dsimp only [Rm]; omega⟩ rfl rfl rfl rfl hl.1 rfl (Nat.le_of_ble_eq_true rfl) dX10_rest_179 (fun o w' H locs hp hB => ?_)
                        obtain ⟨q189, n190, F191, c192, rfl, hf193, hf194, hw9⟩ := hp
                        replace hB : Bd κ A s (bA κ q189 n190 F191 :: (q122, .inr (1, [.ref q189, .int 0, .int 0, .int (nI c192)])) :: iA κ q37 R17 bq37_103 :: lA κ q16 (R17 * 5) F19 :: gO q15 R17 C18 q16 :: mw κ a r f (va_up (va_up q 3 t11) 3 t34) (tb a) w) H locs := by rw [hw9] at hB; exact hB
                        have hsl195 := sL_le (i := 0) (by omega)
                        refine W.eq (g2 := F0 m 182 ls [.ref q122]) rfl ?_
                        refine lv_aload hx hb dX10_rest_182 (lv_at hl 3 rfl) ?_
                        refine lv_iload hx hb dX10_rest_184 (lv_at hl 0 rfl) ?_
                        refine ialdN (k0 := 2) (k := y8_156) hX hB rfl (by omega) (by omega) dX10_rest_186 ?_
                        refine lv_topi (fun u196 eu196 => ?_)
                        refine call_V (n := 1) (k0 := 1) (As := [.int u196]) (rest := []) hX hB (k_J4_append_bf812 κ l (iA κ q37 R17 bq37_103 :: lA κ q16 (R17 * 5) F19 :: gO q15 R17 C18 q16 :: mw κ a r f (va_up (va_up q 3 t11) 3 t34) (tb a) w) q122 q189 n190 c192 0 F191 u196 (by omega) (by omega) hf194 (by omega) (by omega)) ⟨rfl, by decide, by decide, by decide +kernel⟩ wm_7_151 wm_4_113 wm_4_114 wm_1_18 wm_4_115 ⟨Nat.le_of_ble_eq_true rfl, Nat.le_of_ble_eq_true rfl⟩ ⟨by dsimp only [Rm]; omega, by dsimp only [Rm]; omega⟩ rfl rfl rfl rfl hl.1 rfl (Nat.le_of_ble_eq_true rfl) dX10_rest_187 (fun o w' H locs hp hB => ?_)
                        obtain ⟨q197, n198, F199, c200, rfl, hf201, hf202, hw9⟩ := hp
                        replace hB : Bd κ A s (bA κ q197 n198 F199 :: (q122, .inr (1, [.ref q197, .int 0, .int 0, .int (nI c200)])) :: iA κ q37 R17 bq37_103 :: lA κ q16 (R17 * 5) F19 :: gO q15 R17 C18 q16 :: mw κ a r f (va_up (va_up q 3 t11) 3 t34) (tb a) w) H locs := by rw [hw9] at hB; exact hB
                        refine W.eq (g2 := F0 m 190 ls [.ref q122]) rfl ?_
                        refine lv_pop hx hb dX10_rest_190 rfl ?_
                        refine lv_iinc (v := nI (y8_156 + 1)) (lv' := [(8, .int (nI (y8_156 + 1))), (7, .ref q122), (5, .long y5_103), (4, .ref q37), (3, .ref q15), (0, .ref (a 0)), (1, .int y), (2, .int z)]) hx hb dX10_rest_191 hl (k := 0) rfl (nI_add y8_156 1) (by decide) rfl (fun ls hl => ?_)
                        refine lv_goto (tgt := 156) hx hb dX10_rest_194 (by decide) ?_
                        refine W.widen (k := 8 + (y8_156 + 1) * 2) (n := 1058 + (y8_156 + 1) * 1640) (by omega) (by omega) ?_
                        exact ih156 (y8_156 + 1) q197 c200 n198 F199 _ _ (by omega) (⟨by omega, by omega, by omega, by omega⟩) hf202 (by omega) hB _ hl
                refine W.widen (k := 8 + 0 * 2) (n := 1058 + 0 * 1640) (by omega) (by omega) ?_
                exact lp156 _ 0 b123 0 16 (fun _ => 0) _ _ (by omega) (⟨by omega, by omega, by omega, by omega⟩) sb_fit0 (Nat.lt_succ_self _) hB _ hl
              · have hcn := nlt_of c121 (by omega) hcb
                refine lv_aload hx hb dX10_rest_108 (lv_at hl 2 rfl) ?_
                refine lv_iload hx hb dX10_rest_110 (lv_at hl 0 rfl) ?_
                refine lv_lload hx hb dX10_rest_112 (lv_at hl 1 rfl) ?_
                refine lv_aload_n hx hb dX10_rest_114 rfl (lv_at hl 3 rfl) ?_
                refine lv_iload hx hb dX10_rest_115 (lv_at hl 0 rfl) ?_
                refine lv_iload hx hb dX10_rest_117 (lv_at hl 0 rfl) ?_
                refine call_V (n := 2) (k0 := 2) (As := [.int y7_103, .int y7_103]) (rest := [.long y5_103, .int y7_103, .ref q37]) hX hB (k_X7_at κ l (iA κ q37 R17 bq37_103 :: lA κ q16 (R17 * 5) F19 :: gO q15 R17 C18 q16 :: mw κ a r f (va_up (va_up q 3 t11) 3 t34) (tb a) w) 2 1 q15 q16 R17 C18 F19 y7_103 ((y7_103).toNatClampNeg) y7_103 ((y7_103).toNatClampNeg) rfl rfl ⟨by omega, by omega, by omega, by omega⟩ (nI_rep (Int32.not_lt.mp (by assumption))) (nI_rep (Int32.not_lt.mp (by assumption))) (by omega)) ⟨rfl, by decide, by decide, by decide +kernel⟩ wm_5_237 wm_5_238 wm_5_239 wm_1_7 wm_6_0 ⟨Nat.le_of_ble_eq_true rfl, Nat.le_of_ble_eq_true rfl⟩ ⟨Nat.le_of_ble_eq_true rfl, Nat.le_of_ble_eq_true rfl⟩ rfl rfl rfl rfl hl.1 rfl (Nat.le_of_ble_eq_true rfl) dX10_rest_119 (fun o w' H locs hp hB => ?_)
                obtain ⟨rfl, hw9⟩ := hp
                replace hB : Bd κ A s (iA κ q37 R17 bq37_103 :: lA κ q16 (R17 * 5) F19 :: gO q15 R17 C18 q16 :: mw κ a r f (va_up (va_up q 3 t11) 3 t34) (tb a) w) H locs := by rw [hw9] at hB; exact hB
                refine W.eq (g2 := F0 m 122 ls [.long (F19 (((y7_103).toNatClampNeg) * 5 + ((y7_103).toNatClampNeg))), .long y5_103, .int y7_103, .ref q37]) rfl ?_
                refine lv_lrem hx hb dX10_rest_122 (hdN _ (by omega)) ?_
                refine lv_l2i hx hb dX10_rest_123 rfl ?_
                refine iastG (k0 := 0) hX hB rfl (vp_in_c (by assumption) hcn) (w1 := iA κ q37 R17 (upd bq37_103 y7_103.toNatClampNeg (((y5_103 - y5_103 / (F19 (((y7_103).toNatClampNeg) * 5 + ((y7_103).toNatClampNeg))) * (F19 (((y7_103).toNatClampNeg) * 5 + ((y7_103).toNatClampNeg))))).toInt32)) :: lA κ q16 (R17 * 5) F19 :: gO q15 R17 C18 q16 :: mw κ a r f (va_up (va_up q 3 t11) 3 t34) (tb a) w) rfl dX10_rest_124 (fun H locs hB => ?_)
                refine lv_lload hx hb dX10_rest_125 (lv_at hl 1 rfl) ?_
                refine lv_aload_n hx hb dX10_rest_127 rfl (lv_at hl 3 rfl) ?_
                refine lv_iload hx hb dX10_rest_128 (lv_at hl 0 rfl) ?_
                refine lv_iload hx hb dX10_rest_130 (lv_at hl 0 rfl) ?_
                refine call_V (n := 2) (k0 := 2) (As := [.int y7_103, .int y7_103]) (rest := [.long y5_103]) hX hB (k_X7_at κ l (iA κ q37 R17 (upd bq37_103 y7_103.toNatClampNeg (((y5_103 - y5_103 / (F19 (((y7_103).toNatClampNeg) * 5 + ((y7_103).toNatClampNeg))) * (F19 (((y7_103).toNatClampNeg) * 5 + ((y7_103).toNatClampNeg))))).toInt32)) :: lA κ q16 (R17 * 5) F19 :: gO q15 R17 C18 q16 :: mw κ a r f (va_up (va_up q 3 t11) 3 t34) (tb a) w) 2 1 q15 q16 R17 C18 F19 y7_103 ((y7_103).toNatClampNeg) y7_103 ((y7_103).toNatClampNeg) rfl rfl ⟨by omega, by omega, by omega, by omega⟩ (nI_rep (Int32.not_lt.mp (by assumption))) (nI_rep (Int32.not_lt.mp (by assumption))) (by omega)) ⟨rfl, by decide, by decide, by decide +kernel⟩ wm_5_237 wm_5_238 wm_5_239 wm_1_7 wm_6_0 ⟨Nat.le_of_ble_eq_true rfl, Nat.le_of_ble_eq_true rfl⟩ ⟨Nat.le_of_ble_eq_true rfl, Nat.le_of_ble_eq_true rfl⟩ rfl rfl rfl rfl hl.1 rfl (Nat.le_of_ble_eq_true rfl) dX10_rest_132 (fun o w' H locs hp hB => ?_)
                obtain ⟨rfl, hw9⟩ := hp
                replace hB : Bd κ A s (iA κ q37 R17 (upd bq37_103 y7_103.toNatClampNeg (((y5_103 - y5_103 / (F19 (((y7_103).toNatClampNeg) * 5 + ((y7_103).toNatClampNeg))) * (F19 (((y7_103).toNatClampNeg) * 5 + ((y7_103).toNatClampNeg))))).toInt32)) :: lA κ q16 (R17 * 5) F19 :: gO q15 R17 C18 q16 :: mw κ a r f (va_up (va_up q 3 t11) 3 t34) (tb a) w) H locs := by rw [hw9] at hB; exact hB
                refine W.eq (g2 := F0 m 135 ls [.long (F19 (((y7_103).toNatClampNeg) * 5 + ((y7_103).toNatClampNeg))), .long y5_103]) rfl ?_
                refine lv_ldiv hx hb dX10_rest_135 (hdN _ (by omega)) ?_
                refine lv_lstore (lv' := [(5, .long (y5_103 / (F19 (((y7_103).toNatClampNeg) * 5 + ((y7_103).toNatClampNeg))))), (7, .int y7_103), (4, .ref q37), (3, .ref q15), (0, .ref (a 0)), (1, .int y), (2, .int z)]) hx hb dX10_rest_136 hl (by decide) rfl (fun ls hl => ?_)
                refine lv_iinc (v := y7_103 + -1) (lv' := [(7, .int (y7_103 + -1)), (5, .long (y5_103 / (F19 (((y7_103).toNatClampNeg) * 5 + ((y7_103).toNatClampNeg))))), (4, .ref q37), (3, .ref q15), (0, .ref (a 0)), (1, .int y), (2, .int z)]) hx hb dX10_rest_138 hl (k := 1) rfl rfl (by decide) rfl (fun ls hl => ?_)
                refine lv_goto (tgt := 103) hx hb dX10_rest_141 (by decide) ?_
                exact ih103 (y7_103 + -1) (y5_103 / (F19 (((y7_103).toNatClampNeg) * 5 + ((y7_103).toNatClampNeg)))) (upd bq37_103 y7_103.toNatClampNeg (((y5_103 - y5_103 / (F19 (((y7_103).toNatClampNeg) * 5 + ((y7_103).toNatClampNeg))) * (F19 (((y7_103).toNatClampNeg) * 5 + ((y7_103).toNatClampNeg))))).toInt32)) _ _ (dec_lt hcb c121) (gapd_step c121 hμ103) hB _ hl
          exact lp103 _ (nI (R17 - 1)) ((z).toInt64) (fun _ => 0) _ _ (by rw [nleP (by omega) (by omega)]; omega) (Nat.lt_succ_self _) hB _ hl
        · refine lv_iconst (v := 1) hx hb dX10_rest_69 (by decide) ?_
          refine lv_goto (tgt := 74) hx hb dX10_rest_70 (by decide) ?_
          refine call_V (n := 3) (k0 := 2) (As := [.int 0, .int 0, .int 1]) (rest := []) hX hB (o_X10_isThrown κ l (lA κ q16 (R17 * 5) F19 :: gO q15 R17 C18 q16 :: mw κ a r f (va_up q 3 t11) (tb a) w) 2 (a 0) (a 1) ((va_up q 3 t11) 0) ((va_up q 3 t11) 1) ((va_up q 3 t11) 2) ((va_up q 3 t11) 3) 0 0 1 (mw0x (a := a) (r := r) (f := f) (q := (va_up q 3 t11)) (T := tb a) (w := w) rfl)) ⟨rfl, by decide, by decide, by decide +kernel⟩ wm_5_196 wm_5_198 wp_28 wm_1_6 wm_5_199 ⟨Nat.le_of_ble_eq_true rfl, Nat.le_of_ble_eq_true rfl⟩ ⟨Nat.le_of_ble_eq_true rfl, Nat.le_of_ble_eq_true rfl⟩ (mw0x (a := a) (r := r) (f := f) (q := (va_up q 3 t11)) (T := tb a) (w := w) rfl) rfl rfl rfl hl.1 rfl (Nat.le_of_ble_eq_true rfl) dX10_rest_74 (fun o w' H locs hp hB => ?_)
          obtain ⟨x203, t204, rfl, hf205, hw9⟩ := hp
          replace hB : Bd κ A s (lA κ q16 (R17 * 5) F19 :: gO q15 R17 C18 q16 :: mw κ a r f (va_up (va_up q 3 t11) 3 t204) (tb a) w) H locs := by exact Bd_eq (congrArg (List.cons _) (congrArg (List.cons _) (mwQ3x rfl _))) (by rw [hw9] at hB; exact hB)
          obtain rfl : x203 = 1 := hf205.trans (by decide)
          refine W.eq (g2 := F0 m 77 ls [.int 1]) rfl ?_
          refine lv_if_eq (tgt := 83) hx hb dX10_rest_77 (by decide) (fun c206 => False.elim (by revert c206; decide)) (fun _ => ?_)
          refine ldcT (i := 0) hX hX.2.1.2.2.1.2.1.1 dX10_rest_80 ?_
          replace hB : Bd κ A s (lA κ q16 (R17 * 5) F19 :: mw κ a r f (va_up (va_up q 3 t11) 3 t204) (tb a) w) H locs := Bd_del 1 hB
          replace hB : Bd κ A s (mw κ a r f (va_up (va_up q 3 t11) 3 t204) (tb a) w) H locs := Bd_del 0 hB
          rw [← hQ]
          exact end_a hX hB hA3 rfl (Or.inr ⟨_, rfl⟩) ⟨(adK κ 0), (va_up (va_up q 3 t11) 3 t204), rfl, ⟨rfl, rfl, rfl⟩, rfl⟩ (Nat.le_of_ble_eq_true rfl) (Nat.le_of_ble_eq_true rfl) dX10_rest_82
set_option maxHeartbeats 4000000 in
set_option maxRecDepth 100000 in
theorem k_X10_thrown (κ : Kt) (l : Launch) (w : va_W) (a r : Nat → Nat) (f : Nat → Nat → Int64) (q : Nat → Int32) (hm : mok r f) : CM κ l yX10_thrown cX10_thrown 1 (some .int) 0 0 0 0 [.ref (a 0)] (mw κ a r f q (tb a) w) (fun o w' => o = some (.int (q 3)) ∧ w' = mw κ a r f q (tb a) w) := by
  refine CM_begin (plainFor_of_name (by decide)) (Nat.le_of_ble_eq_true rfl) ?_
  intro p e s m args below meth c A Q hX hnm hA3 hQ hB ls hl
  have hx := hX.1.1
  have hb := hX.1.2.1
  have hl : lv_has ls 1 [(0, .ref (a 0))] := hl
  refine lv_aload_n hx hb dX10_thrown_0 rfl (lv_at hl 0 rfl) ?_
  refine gf (k0 := 0) hX hB (mw0x (a := a) (r := r) (f := f) (q := q) (T := tb a) (w := w) rfl) rfl in10 4 (by decide) wm_5_166 rfl rfl dX10_thrown_1 ?_
  rw [← hQ]
  exact end_i hX hB hA3 rfl rfl ⟨rfl, rfl⟩ (Nat.le_of_ble_eq_true rfl) (Nat.le_of_ble_eq_true rfl) dX10_thrown_4
