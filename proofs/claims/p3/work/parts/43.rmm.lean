theorem mwGx {κ : Kt} {a r : Nat → Nat} {f : Nat → Nat → Int64} {q : Nat → Int32} {T : Nat → Option Nat} {w : va_W} {i g : Nat} (hi : i < 4) (h : a (2 + 2 * i) = g) : (mw κ a r f q T w)[2 + 2 * i]? = some (gO g (r (2 * i)) (r (2 * i + 1)) (a (3 + 2 * i))) := by subst h; exact mwG hi
theorem mw0x {κ : Kt} {a r : Nat → Nat} {f : Nat → Nat → Int64} {q : Nat → Int32} {T : Nat → Option Nat} {w : va_W} {x : Nat} (h : a 0 = x) : (mw κ a r f q T w)[0]? = some (x, .inr (11, [.ref (a 1), .int (q 0), .int (q 1), .int (q 2), .int (q 3)])) := by subst h; exact mw0
section MWX
variable {κ : Kt} {a r : Nat → Nat} {f : Nat → Nat → Int64} {q : Nat → Int32} {T : Nat → Option Nat} {w : va_W} {y : Nat}
theorem mwQ0x (h : a 0 = y) (x : Int32) : (mw κ a r f q T w).set 0 (y, .inr (11, [.ref (a 1), .int x, .int (q 1), .int (q 2), .int (q 3)])) = mw κ a r f (va_up q 0 x) T w := by subst h; exact mwQ0 x
theorem mwQ1x (h : a 0 = y) (x : Int32) : (mw κ a r f q T w).set 0 (y, .inr (11, [.ref (a 1), .int (q 0), .int x, .int (q 2), .int (q 3)])) = mw κ a r f (va_up q 1 x) T w := by subst h; exact mwQ1 x
theorem mwQ2x (h : a 0 = y) (x : Int32) : (mw κ a r f q T w).set 0 (y, .inr (11, [.ref (a 1), .int (q 0), .int (q 1), .int x, .int (q 3)])) = mw κ a r f (va_up q 2 x) T w := by subst h; exact mwQ2 x
theorem mwQ3x (h : a 0 = y) (x : Int32) : (mw κ a r f q T w).set 0 (y, .inr (11, [.ref (a 1), .int (q 0), .int (q 1), .int (q 2), .int x])) = mw κ a r f (va_up q 3 x) T w := by subst h; exact mwQ3 x
end MWX
theorem Bd_repl2 {s : State} {H : Heap} {locs : List Loc} {A : Nat → Prop} {κ : Kt} {a r : Nat → Nat} {f : Nat → Nat → Int64} {q : Nat → Int32} {w : va_W} {t g b R C : Nat} {F : Nat → Int64} (ht : t < 4) (hB : Bd κ A s (lA κ b (R * 5) F :: gO g R C b :: mw κ a r f q (va_up (tb a) t (some g)) w) H locs) : ∃ a1 : Nat → Nat, a1 0 = a 0 ∧ a1 (2 + 2 * t) = g ∧ Bd κ A s (mw κ a1 (va_up (va_up r (2 * t) R) (2 * t + 1) C) (va_up f t F) q (tb a1) w) H locs :=
  ⟨_, by unfold va_up; rw [if_neg (by omega), if_neg (by omega)], by unfold va_up; rw [if_neg (by omega), if_pos rfl], Bd_repl ht hB⟩
theorem Bd_swap2 {s : State} {H : Heap} {locs : List Loc} {A : Nat → Prop} {κ : Kt} {a r : Nat → Nat} {f : Nat → Nat → Int64} {q : Nat → Int32} {w : va_W} {t u : Nat} (ht : t < 4) (hu : u < 4) (hB : Bd κ A s (mw κ a r f q (va_up (va_up (tb a) t (some (a (2 + 2 * u)))) u (some (a (2 + 2 * t)))) w) H locs) : ∃ a1 : Nat → Nat, a1 0 = a 0 ∧ Bd κ A s (mw κ a1 (fun k => r (swr t u k)) (fun k => f (sw1 t u k)) q (tb a1) w) H locs :=
  ⟨fun k => a (sw2 t u k), by show a (sw2 t u 0) = a 0; congr 1; unfold sw2; (repeat' split) <;> omega, Bd_swap ht hu hB⟩
theorem mok_r {r : Nat → Nat} {f : Nat → Nat → Int64} (h : mok r f) : ∀ i, i < 4 → 1 ≤ r (2 * i) ∧ r (2 * i) ≤ 4 ∧ 1 ≤ r (2 * i + 1) ∧ r (2 * i + 1) ≤ 4 := fun i hi => (h i hi).1

noncomputable def D_X10_isRow (r : Nat → Nat) (f : Nat → Nat → Int64) (q : Nat → Int32) (y : Int32) (z : Int32) : Int32 := bnd1 (D_X10_isTable y) (fun (z1 : Int32) => (if z1 = 0 then 0 else (if z < 0 then 0 else (if (nI (r (2 * y.toNatClampNeg))) ≤ z then 0 else 1))))
theorem D_X10_isRow_s {r : Nat → Nat} {f : Nat → Nat → Int64} {q : Nat → Int32} {y : Int32} {z : Int32} : D_X10_isRow r f q y z = bnd1 (D_X10_isTable y) (fun (z1 : Int32) => (if z1 = 0 then 0 else (if z < 0 then 0 else (if (nI (r (2 * y.toNatClampNeg))) ≤ z then 0 else 1)))) := rfl
set_option maxHeartbeats 4000000 in
set_option maxRecDepth 100000 in
theorem k_X10_isRow (κ : Kt) (l : Launch) (w : va_W) (a r : Nat → Nat) (f : Nat → Nat → Int64) (q : Nat → Int32) (y : Int32) (z : Int32) (hm : mok r f) (o_x : Int32) (hR : D_X10_isRow r f q y z = o_x) : CM κ l yX10_isRow cX10_isRow 3 (some .boolean) 1 20 0 0 [.ref (a 0), .int y, .int z] (mw κ a r f q (tb a) w) (fun o w' => o = some (.int o_x) ∧ (o_x = 0 ∨ o_x = 1 ∧ 0 ≤ y ∧ y.toNatClampNeg < 4 ∧ 0 ≤ z ∧ z.toNatClampNeg < r (2 * y.toNatClampNeg)) ∧ w' = mw κ a r f q (tb a) w) := by
  refine CM_begin (plainFor_of_name (by decide)) (Nat.le_of_ble_eq_true rfl) ?_
  intro p e s m args below meth c A Q hX hnm hA3 hQ hB ls hl
  have hx := hX.1.1
  have hb := hX.1.2.1
  have hl : lv_has ls 3 [(0, .ref (a 0)), (1, .int y), (2, .int z)] := hl
  replace hR := (D_X10_isRow_s).symm.trans hR
  refine lv_iload_n hx hb dX10_isRow_0 rfl (lv_at hl 1 rfl) ?_
  obtain ⟨z1, hd2⟩ := ex1 (D_X10_isTable y)
  replace hR := bnd1_use hd2 hR
  refine call_S (n := 1) (As := [.int y]) (rest := []) hX hB (k_X10_isTable κ l (mw κ a r f q (tb a) w) y z1 hd2) ⟨by decide, by decide, by decide +kernel⟩ wm_5_186 wm_5_187 wm_1_6 wm_5_188 ⟨Nat.le_of_ble_eq_true rfl, Nat.le_of_ble_eq_true rfl⟩ ⟨Nat.le_of_ble_eq_true rfl, Nat.le_of_ble_eq_true rfl⟩ rfl hl.1 rfl (Nat.le_of_ble_eq_true rfl) dX10_isRow_1 (fun o w' H locs hp hB => ?_)
  obtain ⟨rfl, hf3, hw9⟩ := hp
  replace hB : Bd κ A s (mw κ a r f q (tb a) w) H locs := by rw [hw9] at hB; exact hB
  rcases hf3 with rfl | ⟨rfl, hz4a, hz4b⟩
  · replace hR := ifp rfl hR
    refine W.eq (g2 := F0 m 4 ls [.int 0]) rfl ?_
    refine lv_if_eq (tgt := 28) hx hb dX10_isRow_4 (by decide) (fun _ => ?_) (fun c5 => False.elim (by revert c5; decide))
    refine lv_iconst (v := 0) hx hb dX10_isRow_28 (by decide) ?_
    rw [← hQ]
    exact end_i hX hB hA3 rfl rfl (by obtain rfl := hR; exact ⟨rfl, (Or.inl rfl), rfl⟩) (Nat.le_of_ble_eq_true rfl) (Nat.le_of_ble_eq_true rfl) dX10_isRow_29
  · replace hR := ifn (by decide) hR
    refine W.eq (g2 := F0 m 4 ls [.int 1]) rfl ?_
    refine lv_if_eq (tgt := 28) hx hb dX10_isRow_4 (by decide) (fun c6 => False.elim (by revert c6; decide)) (fun _ => ?_)
    refine lv_iload_n hx hb dX10_isRow_7 rfl (lv_at hl 2 rfl) ?_
    refine lv_if_lt (tgt := 28) hx hb dX10_isRow_8 (by decide) (fun c7 => ?_) (fun c7 => ?_)
    · replace hR := ifp c7 hR
      refine lv_iconst (v := 0) hx hb dX10_isRow_28 (by decide) ?_
      rw [← hQ]
      exact end_i hX hB hA3 rfl rfl (by obtain rfl := hR; exact ⟨rfl, (Or.inl rfl), rfl⟩) (Nat.le_of_ble_eq_true rfl) (Nat.le_of_ble_eq_true rfl) dX10_isRow_29
    · replace hR := ifn c7 hR
      refine lv_iload_n hx hb dX10_isRow_11 rfl (lv_at hl 2 rfl) ?_
      refine lv_aload_n hx hb dX10_isRow_12 rfl (lv_at hl 0 rfl) ?_
      refine gf (k0 := 0) hX hB (mw0x (a := a) (r := r) (f := f) (q := q) (T := tb a) (w := w) rfl) rfl in10 0 (by decide) wm_5_162 rfl rfl dX10_isRow_13 ?_
      refine lv_iload_n hx hb dX10_isRow_16 rfl (lv_at hl 1 rfl) ?_
      refine aaldM (k0 := 1) hX hB (mw1 (a := a) (r := r) (f := f) (q := q) (T := tb a) (w := w)) (vp_in_mk (by assumption) (by assumption)) rfl dX10_isRow_17 ?_
      have hb8 := mok_r hm y.toNatClampNeg (by omega)
      refine gf (k0 := 2 + 2 * y.toNatClampNeg) hX hB (mwG (i := y.toNatClampNeg) (a := a) (r := r) (f := f) (q := q) (T := tb a) (w := w) (by omega)) rfl in7 0 (by decide) wm_5_148 rfl rfl dX10_isRow_18 ?_
      refine lv_icmp_ge (tgt := 28) hx hb dX10_isRow_21 (by decide) (fun c10 => ?_) (fun c10 => ?_)
      · replace hR := ifp c10 hR
        refine lv_iconst (v := 0) hx hb dX10_isRow_28 (by decide) ?_
        rw [← hQ]
        exact end_i hX hB hA3 rfl rfl (by obtain rfl := hR; exact ⟨rfl, (Or.inl rfl), rfl⟩) (Nat.le_of_ble_eq_true rfl) (Nat.le_of_ble_eq_true rfl) dX10_isRow_29
      · replace hR := ifn c10 hR
        have hq9 := nlt_of (x := z) (n := r (2 * y.toNatClampNeg)) c7 (by omega) c10
        refine lv_iconst (v := 1) hx hb dX10_isRow_24 (by decide) ?_
        refine lv_goto (tgt := 29) hx hb dX10_isRow_25 (by decide) ?_
        rw [← hQ]
        exact end_i hX hB hA3 rfl rfl (by obtain rfl := hR; exact ⟨rfl, (Or.inr ⟨rfl, by assumption, by assumption, Int32.not_lt.mp (by assumption), nlt_of (by assumption) (by omega) (by assumption)⟩), rfl⟩) (Nat.le_of_ble_eq_true rfl) (Nat.le_of_ble_eq_true rfl) dX10_isRow_29
noncomputable def D_X10_isColumn (r : Nat → Nat) (f : Nat → Nat → Int64) (q : Nat → Int32) (y : Int32) (z : Int32) : Int32 := bnd1 (D_X10_isTable y) (fun (z1 : Int32) => (if z1 = 0 then 0 else (if z < 0 then 0 else (if (nI (r (2 * y.toNatClampNeg + 1))) ≤ z then 0 else 1))))
theorem D_X10_isColumn_s {r : Nat → Nat} {f : Nat → Nat → Int64} {q : Nat → Int32} {y : Int32} {z : Int32} : D_X10_isColumn r f q y z = bnd1 (D_X10_isTable y) (fun (z1 : Int32) => (if z1 = 0 then 0 else (if z < 0 then 0 else (if (nI (r (2 * y.toNatClampNeg + 1))) ≤ z then 0 else 1)))) := rfl
set_option maxHeartbeats 4000000 in
set_option maxRecDepth 100000 in
theorem k_X10_isColumn (κ : Kt) (l : Launch) (w : va_W) (a r : Nat → Nat) (f : Nat → Nat → Int64) (q : Nat → Int32) (y : Int32) (z : Int32) (hm : mok r f) (o_x : Int32) (hR : D_X10_isColumn r f q y z = o_x) : CM κ l yX10_isColumn cX10_isColumn 3 (some .boolean) 1 20 0 0 [.ref (a 0), .int y, .int z] (mw κ a r f q (tb a) w) (fun o w' => o = some (.int o_x) ∧ (o_x = 0 ∨ o_x = 1 ∧ 0 ≤ y ∧ y.toNatClampNeg < 4 ∧ 0 ≤ z ∧ z.toNatClampNeg < r (2 * y.toNatClampNeg + 1)) ∧ w' = mw κ a r f q (tb a) w) := by
  refine CM_begin (plainFor_of_name (by decide)) (Nat.le_of_ble_eq_true rfl) ?_
  intro p e s m args below meth c A Q hX hnm hA3 hQ hB ls hl
  have hx := hX.1.1
  have hb := hX.1.2.1
  have hl : lv_has ls 3 [(0, .ref (a 0)), (1, .int y), (2, .int z)] := hl
  replace hR := (D_X10_isColumn_s).symm.trans hR
  refine lv_iload_n hx hb dX10_isColumn_0 rfl (lv_at hl 1 rfl) ?_
  obtain ⟨z1, hd2⟩ := ex1 (D_X10_isTable y)
  replace hR := bnd1_use hd2 hR
  refine call_S (n := 1) (As := [.int y]) (rest := []) hX hB (k_X10_isTable κ l (mw κ a r f q (tb a) w) y z1 hd2) ⟨by decide, by decide, by decide +kernel⟩ wm_5_186 wm_5_187 wm_1_6 wm_5_188 ⟨Nat.le_of_ble_eq_true rfl, Nat.le_of_ble_eq_true rfl⟩ ⟨Nat.le_of_ble_eq_true rfl, Nat.le_of_ble_eq_true rfl⟩ rfl hl.1 rfl (Nat.le_of_ble_eq_true rfl) dX10_isColumn_1 (fun o w' H locs hp hB => ?_)
  obtain ⟨rfl, hf3, hw9⟩ := hp
  replace hB : Bd κ A s (mw κ a r f q (tb a) w) H locs := by rw [hw9] at hB; exact hB
  rcases hf3 with rfl | ⟨rfl, hz4a, hz4b⟩
  · replace hR := ifp rfl hR
    refine W.eq (g2 := F0 m 4 ls [.int 0]) rfl ?_
    refine lv_if_eq (tgt := 28) hx hb dX10_isColumn_4 (by decide) (fun _ => ?_) (fun c5 => False.elim (by revert c5; decide))
    refine lv_iconst (v := 0) hx hb dX10_isColumn_28 (by decide) ?_
    rw [← hQ]
    exact end_i hX hB hA3 rfl rfl (by obtain rfl := hR; exact ⟨rfl, (Or.inl rfl), rfl⟩) (Nat.le_of_ble_eq_true rfl) (Nat.le_of_ble_eq_true rfl) dX10_isColumn_29
  · replace hR := ifn (by decide) hR
    refine W.eq (g2 := F0 m 4 ls [.int 1]) rfl ?_
    refine lv_if_eq (tgt := 28) hx hb dX10_isColumn_4 (by decide) (fun c6 => False.elim (by revert c6; decide)) (fun _ => ?_)
    refine lv_iload_n hx hb dX10_isColumn_7 rfl (lv_at hl 2 rfl) ?_
    refine lv_if_lt (tgt := 28) hx hb dX10_isColumn_8 (by decide) (fun c7 => ?_) (fun c7 => ?_)
    · replace hR := ifp c7 hR
      refine lv_iconst (v := 0) hx hb dX10_isColumn_28 (by decide) ?_
      rw [← hQ]
      exact end_i hX hB hA3 rfl rfl (by obtain rfl := hR; exact ⟨rfl, (Or.inl rfl), rfl⟩) (Nat.le_of_ble_eq_true rfl) (Nat.le_of_ble_eq_true rfl) dX10_isColumn_29
    · replace hR := ifn c7 hR
      refine lv_iload_n hx hb dX10_isColumn_11 rfl (lv_at hl 2 rfl) ?_
      refine lv_aload_n hx hb dX10_isColumn_12 rfl (lv_at hl 0 rfl) ?_
      refine gf (k0 := 0) hX hB (mw0x (a := a) (r := r) (f := f) (q := q) (T := tb a) (w := w) rfl) rfl in10 0 (by decide) wm_5_162 rfl rfl dX10_isColumn_13 ?_
      refine lv_iload_n hx hb dX10_isColumn_16 rfl (lv_at hl 1 rfl) ?_
      refine aaldM (k0 := 1) hX hB (mw1 (a := a) (r := r) (f := f) (q := q) (T := tb a) (w := w)) (vp_in_mk (by assumption) (by assumption)) rfl dX10_isColumn_17 ?_
      have hb8 := mok_r hm y.toNatClampNeg (by omega)
      refine gf (k0 := 2 + 2 * y.toNatClampNeg) hX hB (mwG (i := y.toNatClampNeg) (a := a) (r := r) (f := f) (q := q) (T := tb a) (w := w) (by omega)) rfl in7 1 (by decide) wm_5_152 rfl rfl dX10_isColumn_18 ?_
      refine lv_icmp_ge (tgt := 28) hx hb dX10_isColumn_21 (by decide) (fun c10 => ?_) (fun c10 => ?_)
      · replace hR := ifp c10 hR
        refine lv_iconst (v := 0) hx hb dX10_isColumn_28 (by decide) ?_
        rw [← hQ]
        exact end_i hX hB hA3 rfl rfl (by obtain rfl := hR; exact ⟨rfl, (Or.inl rfl), rfl⟩) (Nat.le_of_ble_eq_true rfl) (Nat.le_of_ble_eq_true rfl) dX10_isColumn_29
      · replace hR := ifn c10 hR
        have hq9 := nlt_of (x := z) (n := r (2 * y.toNatClampNeg + 1)) c7 (by omega) c10
        refine lv_iconst (v := 1) hx hb dX10_isColumn_24 (by decide) ?_
        refine lv_goto (tgt := 29) hx hb dX10_isColumn_25 (by decide) ?_
        rw [← hQ]
        exact end_i hX hB hA3 rfl rfl (by obtain rfl := hR; exact ⟨rfl, (Or.inr ⟨rfl, by assumption, by assumption, Int32.not_lt.mp (by assumption), nlt_of (by assumption) (by omega) (by assumption)⟩), rfl⟩) (Nat.le_of_ble_eq_true rfl) (Nat.le_of_ble_eq_true rfl) dX10_isColumn_29
