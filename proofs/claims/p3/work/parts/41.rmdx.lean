theorem nlt_of {x : Int32} {n : Nat} (h0 : ¬ x < 0) (hn : n < 2 ^ 31) (h : ¬ nI n ≤ x) : x.toNatClampNeg < n := by
  obtain ⟨j, hj, rfl⟩ := nI_of h0
  rw [nI_leI hn hj] at h
  rw [nI_clamp hj]
  omega
theorem wset0 {w : va_W} {k : Nat} {c : Nat × va_E} (h : w[k]? = some c) : w.set k c = w := by
  apply List.ext_getElem?
  intro j
  by_cases e1 : k = j
  · subst e1
    rw [List.getElem?_set_self (List.getElem?_eq_some_iff.mp h).1, h]
  · rw [List.getElem?_set_ne e1]
theorem wset1 {w : va_W} {k : Nat} {c d : Nat × va_E} (h : w[k]? = some c) : (w.set k d)[k]? = some d := List.getElem?_set_self (List.getElem?_eq_some_iff.mp h).1
def thr (b1 b2 b3 : Int32) : Int32 := if b1 = 0 ∧ b2 = 0 ∧ b3 = 0 then 0 else 1
theorem thr_0 {b1 b2 b3 : Int32} (h1 : b1 = 0) (h2 : b2 = 0) (h3 : b3 = 0) : 0 = thr b1 b2 b3 := by unfold thr; rw [if_pos ⟨h1, h2, h3⟩]
theorem thr_1 {b1 b2 b3 : Int32} (h : ¬ b1 = 0) : 1 = thr b1 b2 b3 := by unfold thr; rw [if_neg (fun z => h z.1)]
theorem thr_2 {b1 b2 b3 : Int32} (h : ¬ b2 = 0) : 1 = thr b1 b2 b3 := by unfold thr; rw [if_neg (fun z => h z.2.1)]
theorem thr_3 {b1 b2 b3 : Int32} (h : ¬ b3 = 0) : 1 = thr b1 b2 b3 := by unfold thr; rw [if_neg (fun z => h z.2.2)]
theorem thr_cases {x b1 b2 b3 : Int32} (h : x = thr b1 b2 b3) : x = 0 ∧ b1 = 0 ∧ b2 = 0 ∧ b3 = 0 ∨ x = 1 ∧ ¬ (b1 = 0 ∧ b2 = 0 ∧ b3 = 0) := by
  unfold thr at h
  by_cases c : b1 = 0 ∧ b2 = 0 ∧ b3 = 0
  · rw [if_pos c] at h; exact Or.inl ⟨h, c⟩
  · rw [if_neg c] at h; exact Or.inr ⟨h, c⟩
theorem thr_01 {x b1 b2 b3 : Int32} (h : x = thr b1 b2 b3) : x = 0 ∨ x = 1 := (thr_cases h).elim (fun z => Or.inl z.1) (fun z => Or.inr z.1)
theorem in_4 {x : Int32} (h0 : ¬ x < 0) (h1 : ¬ 4 ≤ x) : (1 : Int32) = 1 ∧ 0 ≤ x ∧ x.toNatClampNeg < 4 := by
  obtain ⟨j, h2, rfl⟩ := nI_of h0
  have h1 : ¬ nI 4 ≤ nI j := h1
  rw [nI_leI (by omega) h2] at h1
  rw [nI_clamp h2]
  exact ⟨rfl, nI_pos' h2, by omega⟩
theorem in_s {x : Int32} (h0 : ¬ x < 1) (h1 : ¬ 4 < x) : (1 : Int32) = 1 ∧ 0 ≤ x ∧ 1 ≤ x.toNatClampNeg ∧ x.toNatClampNeg ≤ 4 := by
  have hn : ¬ x < 0 := fun z => h0 (Int32.lt_trans z (by decide))
  obtain ⟨j, h2, rfl⟩ := nI_of hn
  have h1 : ¬ nI 4 < nI j := h1
  have h0 : ¬ nI j < nI 1 := h0
  rw [nI_ltI (by omega) h2] at h1
  rw [nI_ltI h2 (by omega)] at h0
  rw [nI_clamp h2]
  exact ⟨rfl, nI_pos' h2, by omega, by omega⟩
theorem Bd_eq {s : State} {H : Heap} {locs : List Loc} {A : Nat → Prop} {κ : Kt} {w w1 : va_W} (e : w = w1) (hB : Bd κ A s w H locs) : Bd κ A s w1 H locs := e ▸ hB

noncomputable def D_X10_isThrown (i1 : Int32) (i2 : Int32) (i3 : Int32) (i4 : Int32) (b1 : Int32) (b2 : Int32) (b3 : Int32) : Int32 × Int32 := (if b1 = 0 then (if b2 = 0 then (if b3 = 0 then (0, 0) else (1, 3)) else (1, 2)) else (1, 1))
theorem D_X10_isThrown_s {i1 : Int32} {i2 : Int32} {i3 : Int32} {i4 : Int32} {b1 : Int32} {b2 : Int32} {b3 : Int32} : D_X10_isThrown i1 i2 i3 i4 b1 b2 b3 = (if b1 = 0 then (if b2 = 0 then (if b3 = 0 then (0, 0) else (1, 3)) else (1, 2)) else (1, 1)) := rfl
set_option maxHeartbeats 4000000 in
set_option maxRecDepth 100000 in
theorem k_X10_isThrown (κ : Kt) (l : Launch) (w : va_W) (k0 x0 t0 : Nat) (i1 i2 i3 i4 : Int32) (b1 : Int32) (b2 : Int32) (b3 : Int32) (h0 : w[k0]? = some (x0, .inr (11, [.ref t0, .int i1, .int i2, .int i3, .int i4]))) (o_x : Int32) (o_tv : Int32) (hR : D_X10_isThrown i1 i2 i3 i4 b1 b2 b3 = (o_x, o_tv)) : CM κ l yX10_isThrown cX10_isThrown 4 (some .boolean) 0 0 0 0 [.ref x0, .int b1, .int b2, .int b3] (w) (fun o w' => o = some (.int o_x) ∧ (o_x = thr b1 b2 b3) ∧ w' = w.set k0 (x0, .inr (11, [.ref t0, .int i1, .int i2, .int i3, .int o_tv]))) := by
  refine CM_begin (plainFor_of_name (by decide)) (Nat.le_of_ble_eq_true rfl) ?_
  intro p e s m args below meth c A Q hX hnm hA3 hQ hB ls hl
  have hx := hX.1.1
  have hb := hX.1.2.1
  have hl : lv_has ls 4 [(0, .ref x0), (1, .int b1), (2, .int b2), (3, .int b3)] := hl
  have hB : Bd κ A s (w.set k0 (x0, .inr (11, [.ref t0, .int i1, .int i2, .int i3, .int i4]))) s.heap [] := by rw [wset0 h0]; exact hB
  replace hR := (D_X10_isThrown_s).symm.trans hR
  refine lv_aload_n hx hb dX10_isThrown_0 rfl (lv_at hl 0 rfl) ?_
  refine lv_iload_n hx hb dX10_isThrown_1 rfl (lv_at hl 1 rfl) ?_
  refine lv_if_eq (tgt := 9) hx hb dX10_isThrown_2 (by decide) (fun c1 => ?_) (fun c1 => ?_)
  · replace hR := ifp c1 hR
    refine lv_iload_n hx hb dX10_isThrown_9 rfl (lv_at hl 2 rfl) ?_
    refine lv_if_eq (tgt := 17) hx hb dX10_isThrown_10 (by decide) (fun c2 => ?_) (fun c2 => ?_)
    · replace hR := ifp c2 hR
      refine lv_iload_n hx hb dX10_isThrown_17 rfl (lv_at hl 3 rfl) ?_
      refine lv_if_eq (tgt := 25) hx hb dX10_isThrown_18 (by decide) (fun c3 => ?_) (fun c3 => ?_)
      · replace hR := ifp c3 hR
        refine lv_iconst (v := 0) hx hb dX10_isThrown_25 (by decide) ?_
        refine pf (ty := .int) (k0 := k0) hX hB (wset1 h0) rfl in10 tyX10_ok nmX10 4 (by decide) wm_5_166 rfl rfl rfl rfl rfl (Nat.le_of_ble_eq_true rfl) (w1 := w.set k0 (x0, .inr (11, [.ref t0, .int i1, .int i2, .int i3, .int 0]))) (List.set_set _) dX10_isThrown_26 (fun H locs hB => ?_)
        refine lv_aload_n hx hb dX10_isThrown_29 rfl (lv_at hl 0 rfl) ?_
        refine gf (k0 := k0) hX hB (wset1 h0) rfl in10 4 (by decide) wm_5_166 rfl rfl dX10_isThrown_30 ?_
        refine lv_if_le (tgt := 40) hx hb dX10_isThrown_33 (by decide) (fun _ => ?_) (fun c4 => False.elim (by revert c4; decide))
        refine lv_iconst (v := 0) hx hb dX10_isThrown_40 (by decide) ?_
        rw [← hQ]
        exact end_i hX hB hA3 rfl rfl (by obtain ⟨rfl, rfl⟩ := pr2 hR; exact ⟨rfl, (by first | exact thr_0 (by assumption) (by assumption) (by assumption) | exact thr_1 (by assumption) | exact thr_2 (by assumption) | exact thr_3 (by assumption)), rfl⟩) (Nat.le_of_ble_eq_true rfl) (Nat.le_of_ble_eq_true rfl) dX10_isThrown_41
      · replace hR := ifn c3 hR
        refine lv_iconst (v := 3) hx hb dX10_isThrown_21 (by decide) ?_
        refine lv_goto (tgt := 26) hx hb dX10_isThrown_22 (by decide) ?_
        refine pf (ty := .int) (k0 := k0) hX hB (wset1 h0) rfl in10 tyX10_ok nmX10 4 (by decide) wm_5_166 rfl rfl rfl rfl rfl (Nat.le_of_ble_eq_true rfl) (w1 := w.set k0 (x0, .inr (11, [.ref t0, .int i1, .int i2, .int i3, .int 3]))) (List.set_set _) dX10_isThrown_26 (fun H locs hB => ?_)
        refine lv_aload_n hx hb dX10_isThrown_29 rfl (lv_at hl 0 rfl) ?_
        refine gf (k0 := k0) hX hB (wset1 h0) rfl in10 4 (by decide) wm_5_166 rfl rfl dX10_isThrown_30 ?_
        refine lv_if_le (tgt := 40) hx hb dX10_isThrown_33 (by decide) (fun c5 => False.elim (by revert c5; decide)) (fun _ => ?_)
        refine lv_iconst (v := 1) hx hb dX10_isThrown_36 (by decide) ?_
        refine lv_goto (tgt := 41) hx hb dX10_isThrown_37 (by decide) ?_
        rw [← hQ]
        exact end_i hX hB hA3 rfl rfl (by obtain ⟨rfl, rfl⟩ := pr2 hR; exact ⟨rfl, (by first | exact thr_0 (by assumption) (by assumption) (by assumption) | exact thr_1 (by assumption) | exact thr_2 (by assumption) | exact thr_3 (by assumption)), rfl⟩) (Nat.le_of_ble_eq_true rfl) (Nat.le_of_ble_eq_true rfl) dX10_isThrown_41
    · replace hR := ifn c2 hR
      refine lv_iconst (v := 2) hx hb dX10_isThrown_13 (by decide) ?_
      refine lv_goto (tgt := 26) hx hb dX10_isThrown_14 (by decide) ?_
      refine pf (ty := .int) (k0 := k0) hX hB (wset1 h0) rfl in10 tyX10_ok nmX10 4 (by decide) wm_5_166 rfl rfl rfl rfl rfl (Nat.le_of_ble_eq_true rfl) (w1 := w.set k0 (x0, .inr (11, [.ref t0, .int i1, .int i2, .int i3, .int 2]))) (List.set_set _) dX10_isThrown_26 (fun H locs hB => ?_)
      refine lv_aload_n hx hb dX10_isThrown_29 rfl (lv_at hl 0 rfl) ?_
      refine gf (k0 := k0) hX hB (wset1 h0) rfl in10 4 (by decide) wm_5_166 rfl rfl dX10_isThrown_30 ?_
      refine lv_if_le (tgt := 40) hx hb dX10_isThrown_33 (by decide) (fun c6 => False.elim (by revert c6; decide)) (fun _ => ?_)
      refine lv_iconst (v := 1) hx hb dX10_isThrown_36 (by decide) ?_
      refine lv_goto (tgt := 41) hx hb dX10_isThrown_37 (by decide) ?_
      rw [← hQ]
      exact end_i hX hB hA3 rfl rfl (by obtain ⟨rfl, rfl⟩ := pr2 hR; exact ⟨rfl, (by first | exact thr_0 (by assumption) (by assumption) (by assumption) | exact thr_1 (by assumption) | exact thr_2 (by assumption) | exact thr_3 (by assumption)), rfl⟩) (Nat.le_of_ble_eq_true rfl) (Nat.le_of_ble_eq_true rfl) dX10_isThrown_41
  · replace hR := ifn c1 hR
    refine lv_iconst (v := 1) hx hb dX10_isThrown_5 (by decide) ?_
    refine lv_goto (tgt := 26) hx hb dX10_isThrown_6 (by decide) ?_
    refine pf (ty := .int) (k0 := k0) hX hB (wset1 h0) rfl in10 tyX10_ok nmX10 4 (by decide) wm_5_166 rfl rfl rfl rfl rfl (Nat.le_of_ble_eq_true rfl) (w1 := w.set k0 (x0, .inr (11, [.ref t0, .int i1, .int i2, .int i3, .int 1]))) (List.set_set _) dX10_isThrown_26 (fun H locs hB => ?_)
    refine lv_aload_n hx hb dX10_isThrown_29 rfl (lv_at hl 0 rfl) ?_
    refine gf (k0 := k0) hX hB (wset1 h0) rfl in10 4 (by decide) wm_5_166 rfl rfl dX10_isThrown_30 ?_
    refine lv_if_le (tgt := 40) hx hb dX10_isThrown_33 (by decide) (fun c7 => False.elim (by revert c7; decide)) (fun _ => ?_)
    refine lv_iconst (v := 1) hx hb dX10_isThrown_36 (by decide) ?_
    refine lv_goto (tgt := 41) hx hb dX10_isThrown_37 (by decide) ?_
    rw [← hQ]
    exact end_i hX hB hA3 rfl rfl (by obtain ⟨rfl, rfl⟩ := pr2 hR; exact ⟨rfl, (by first | exact thr_0 (by assumption) (by assumption) (by assumption) | exact thr_1 (by assumption) | exact thr_2 (by assumption) | exact thr_3 (by assumption)), rfl⟩) (Nat.le_of_ble_eq_true rfl) (Nat.le_of_ble_eq_true rfl) dX10_isThrown_41
noncomputable def D_X10_isThrown_ (i1 : Int32) (i2 : Int32) (i3 : Int32) (i4 : Int32) (b1 : Int32) (b2 : Int32) : Int32 × Int32 := bnd2 (D_X10_isThrown i1 i2 i3 i4 b1 b2 0) (fun (x1 : Int32) (t2 : Int32) => (x1, t2))
theorem D_X10_isThrown__s {i1 : Int32} {i2 : Int32} {i3 : Int32} {i4 : Int32} {b1 : Int32} {b2 : Int32} : D_X10_isThrown_ i1 i2 i3 i4 b1 b2 = bnd2 (D_X10_isThrown i1 i2 i3 i4 b1 b2 0) (fun (x1 : Int32) (t2 : Int32) => (x1, t2)) := rfl
set_option maxHeartbeats 4000000 in
set_option maxRecDepth 100000 in
theorem k_X10_isThrown_ (κ : Kt) (l : Launch) (w : va_W) (k0 x0 t0 : Nat) (i1 i2 i3 i4 : Int32) (b1 : Int32) (b2 : Int32) (h0 : w[k0]? = some (x0, .inr (11, [.ref t0, .int i1, .int i2, .int i3, .int i4]))) (o_x : Int32) (o_tv : Int32) (hR : D_X10_isThrown_ i1 i2 i3 i4 b1 b2 = (o_x, o_tv)) : CM κ l yX10_isThrown_ cX10_isThrown_ 3 (some .boolean) 1 23 0 0 [.ref x0, .int b1, .int b2] (w) (fun o w' => o = some (.int o_x) ∧ (o_x = thr b1 b2 0) ∧ w' = w.set k0 (x0, .inr (11, [.ref t0, .int i1, .int i2, .int i3, .int o_tv]))) := by
  refine CM_begin (plainFor_of_name (by decide)) (Nat.le_of_ble_eq_true rfl) ?_
  intro p e s m args below meth c A Q hX hnm hA3 hQ hB ls hl
  have hx := hX.1.1
  have hb := hX.1.2.1
  have hl : lv_has ls 3 [(0, .ref x0), (1, .int b1), (2, .int b2)] := hl
  have hB : Bd κ A s (w.set k0 (x0, .inr (11, [.ref t0, .int i1, .int i2, .int i3, .int i4]))) s.heap [] := by rw [wset0 h0]; exact hB
  replace hR := (D_X10_isThrown__s).symm.trans hR
  refine lv_aload_n hx hb dX10_isThrown__0 rfl (lv_at hl 0 rfl) ?_
  refine lv_iload_n hx hb dX10_isThrown__1 rfl (lv_at hl 1 rfl) ?_
  refine lv_iload_n hx hb dX10_isThrown__2 rfl (lv_at hl 2 rfl) ?_
  refine lv_iconst (v := 0) hx hb dX10_isThrown__3 (by decide) ?_
  obtain ⟨x1, t2, hd3⟩ := ex2 (D_X10_isThrown i1 i2 i3 i4 b1 b2 0)
  replace hR := bnd2_use hd3 hR
  refine call_V (n := 3) (k0 := k0) (As := [.int b1, .int b2, .int 0]) (rest := []) hX hB (k_X10_isThrown κ l (w.set k0 (x0, .inr (11, [.ref t0, .int i1, .int i2, .int i3, .int i4]))) k0 x0 t0 i1 i2 i3 i4 b1 b2 0 (wset1 h0) x1 t2 hd3) ⟨rfl, by decide, by decide, by decide +kernel⟩ wm_5_196 wm_5_198 wp_28 wm_1_6 wm_5_199 ⟨Nat.le_of_ble_eq_true rfl, Nat.le_of_ble_eq_true rfl⟩ ⟨Nat.le_of_ble_eq_true rfl, Nat.le_of_ble_eq_true rfl⟩ (wset1 h0) rfl rfl rfl hl.1 rfl (Nat.le_of_ble_eq_true rfl) dX10_isThrown__4 (fun o w' H locs hp hB => ?_)
  obtain ⟨rfl, hf4, hw9⟩ := hp
  replace hB : Bd κ A s (w.set k0 (x0, .inr (11, [.ref t0, .int i1, .int i2, .int i3, .int t2]))) H locs := by rw [hw9, List.set_set] at hB; exact hB
  refine W.eq (g2 := F0 m 7 ls [.int x1]) rfl ?_
  rw [← hQ]
  exact end_i hX hB hA3 rfl (nbz (thr_01 hf4)) (by obtain ⟨rfl, rfl⟩ := pr2 hR; exact ⟨rfl, hf4, rfl⟩) (Nat.le_of_ble_eq_true rfl) (Nat.le_of_ble_eq_true rfl) dX10_isThrown__7
noncomputable def D_X10_isThrown__ (i1 : Int32) (i2 : Int32) (i3 : Int32) (i4 : Int32) (b1 : Int32) : Int32 × Int32 := bnd2 (D_X10_isThrown i1 i2 i3 i4 b1 0 0) (fun (x1 : Int32) (t2 : Int32) => (x1, t2))
theorem D_X10_isThrown___s {i1 : Int32} {i2 : Int32} {i3 : Int32} {i4 : Int32} {b1 : Int32} : D_X10_isThrown__ i1 i2 i3 i4 b1 = bnd2 (D_X10_isThrown i1 i2 i3 i4 b1 0 0) (fun (x1 : Int32) (t2 : Int32) => (x1, t2)) := rfl
set_option maxHeartbeats 4000000 in
set_option maxRecDepth 100000 in
theorem k_X10_isThrown__ (κ : Kt) (l : Launch) (w : va_W) (k0 x0 t0 : Nat) (i1 i2 i3 i4 : Int32) (b1 : Int32) (h0 : w[k0]? = some (x0, .inr (11, [.ref t0, .int i1, .int i2, .int i3, .int i4]))) (o_x : Int32) (o_tv : Int32) (hR : D_X10_isThrown__ i1 i2 i3 i4 b1 = (o_x, o_tv)) : CM κ l yX10_isThrown__ cX10_isThrown__ 2 (some .boolean) 1 23 0 0 [.ref x0, .int b1] (w) (fun o w' => o = some (.int o_x) ∧ (o_x = thr b1 0 0) ∧ w' = w.set k0 (x0, .inr (11, [.ref t0, .int i1, .int i2, .int i3, .int o_tv]))) := by
  refine CM_begin (plainFor_of_name (by decide)) (Nat.le_of_ble_eq_true rfl) ?_
  intro p e s m args below meth c A Q hX hnm hA3 hQ hB ls hl
  have hx := hX.1.1
  have hb := hX.1.2.1
  have hl : lv_has ls 2 [(0, .ref x0), (1, .int b1)] := hl
  have hB : Bd κ A s (w.set k0 (x0, .inr (11, [.ref t0, .int i1, .int i2, .int i3, .int i4]))) s.heap [] := by rw [wset0 h0]; exact hB
  replace hR := (D_X10_isThrown___s).symm.trans hR
  refine lv_aload_n hx hb dX10_isThrown___0 rfl (lv_at hl 0 rfl) ?_
  refine lv_iload_n hx hb dX10_isThrown___1 rfl (lv_at hl 1 rfl) ?_
  refine lv_iconst (v := 0) hx hb dX10_isThrown___2 (by decide) ?_
  refine lv_iconst (v := 0) hx hb dX10_isThrown___3 (by decide) ?_
  obtain ⟨x1, t2, hd3⟩ := ex2 (D_X10_isThrown i1 i2 i3 i4 b1 0 0)
  replace hR := bnd2_use hd3 hR
  refine call_V (n := 3) (k0 := k0) (As := [.int b1, .int 0, .int 0]) (rest := []) hX hB (k_X10_isThrown κ l (w.set k0 (x0, .inr (11, [.ref t0, .int i1, .int i2, .int i3, .int i4]))) k0 x0 t0 i1 i2 i3 i4 b1 0 0 (wset1 h0) x1 t2 hd3) ⟨rfl, by decide, by decide, by decide +kernel⟩ wm_5_196 wm_5_198 wp_28 wm_1_6 wm_5_199 ⟨Nat.le_of_ble_eq_true rfl, Nat.le_of_ble_eq_true rfl⟩ ⟨Nat.le_of_ble_eq_true rfl, Nat.le_of_ble_eq_true rfl⟩ (wset1 h0) rfl rfl rfl hl.1 rfl (Nat.le_of_ble_eq_true rfl) dX10_isThrown___4 (fun o w' H locs hp hB => ?_)
  obtain ⟨rfl, hf4, hw9⟩ := hp
  replace hB : Bd κ A s (w.set k0 (x0, .inr (11, [.ref t0, .int i1, .int i2, .int i3, .int t2]))) H locs := by rw [hw9, List.set_set] at hB; exact hB
  refine W.eq (g2 := F0 m 7 ls [.int x1]) rfl ?_
  rw [← hQ]
  exact end_i hX hB hA3 rfl (nbz (thr_01 hf4)) (by obtain ⟨rfl, rfl⟩ := pr2 hR; exact ⟨rfl, hf4, rfl⟩) (Nat.le_of_ble_eq_true rfl) (Nat.le_of_ble_eq_true rfl) dX10_isThrown___7
set_option maxHeartbeats 4000000 in
set_option maxRecDepth 100000 in
theorem k_X10_told (κ : Kt) (l : Launch) (w : va_W) (k0 x0 t0 : Nat) (i1 i2 i3 i4 : Int32) (x : Int32) (h0 : w[k0]? = some (x0, .inr (11, [.ref t0, .int i1, .int i2, .int i3, .int i4]))) : CM κ l yX10_told cX10_told 2 (some .int) 0 0 0 0 [.ref x0, .int x] (w) (fun o w' => o = some (.int x) ∧ w' = w.set k0 (x0, .inr (11, [.ref t0, .int (i1 + 1), .int i2, .int i3, .int i4]))) := by
  refine CM_begin (plainFor_of_name (by decide)) (Nat.le_of_ble_eq_true rfl) ?_
  intro p e s m args below meth c A Q hX hnm hA3 hQ hB ls hl
  have hx := hX.1.1
  have hb := hX.1.2.1
  have hl : lv_has ls 2 [(0, .ref x0), (1, .int x)] := hl
  have hB : Bd κ A s (w.set k0 (x0, .inr (11, [.ref t0, .int i1, .int i2, .int i3, .int i4]))) s.heap [] := by rw [wset0 h0]; exact hB
  refine lv_aload_n hx hb dX10_told_0 rfl (lv_at hl 0 rfl) ?_
  refine lv_dup hx hb dX10_told_1 rfl ?_
  refine gf (k0 := k0) hX hB (wset1 h0) rfl in10 1 (by decide) wm_5_163 rfl rfl dX10_told_2 ?_
  refine lv_iconst (v := 1) hx hb dX10_told_5 (by decide) ?_
  refine lv_iadd hx hb dX10_told_6 ?_
  refine pf (ty := .int) (k0 := k0) hX hB (wset1 h0) rfl in10 tyX10_ok nmX10 1 (by decide) wm_5_163 rfl rfl rfl rfl rfl (Nat.le_of_ble_eq_true rfl) (w1 := w.set k0 (x0, .inr (11, [.ref t0, .int (i1 + 1), .int i2, .int i3, .int i4]))) (List.set_set _) dX10_told_7 (fun H locs hB => ?_)
  refine lv_iload_n hx hb dX10_told_10 rfl (lv_at hl 1 rfl) ?_
  rw [← hQ]
  exact end_i hX hB hA3 rfl rfl ⟨rfl, rfl⟩ (Nat.le_of_ble_eq_true rfl) (Nat.le_of_ble_eq_true rfl) dX10_told_11
set_option maxHeartbeats 4000000 in
set_option maxRecDepth 100000 in
theorem k_X10_no (κ : Kt) (l : Launch) (w : va_W) (k0 x0 t0 : Nat) (i1 i2 i3 i4 : Int32) (h0 : w[k0]? = some (x0, .inr (11, [.ref t0, .int i1, .int i2, .int i3, .int i4]))) : CM κ l yX10_no cX10_no 1 (some .int) 0 0 0 0 [.ref x0] (w) (fun o w' => o = some (.int (-9)) ∧ w' = w.set k0 (x0, .inr (11, [.ref t0, .int i1, .int (i2 + 1), .int i3, .int i4]))) := by
  refine CM_begin (plainFor_of_name (by decide)) (Nat.le_of_ble_eq_true rfl) ?_
  intro p e s m args below meth c A Q hX hnm hA3 hQ hB ls hl
  have hx := hX.1.1
  have hb := hX.1.2.1
  have hl : lv_has ls 1 [(0, .ref x0)] := hl
  have hB : Bd κ A s (w.set k0 (x0, .inr (11, [.ref t0, .int i1, .int i2, .int i3, .int i4]))) s.heap [] := by rw [wset0 h0]; exact hB
  refine lv_aload_n hx hb dX10_no_0 rfl (lv_at hl 0 rfl) ?_
  refine lv_dup hx hb dX10_no_1 rfl ?_
  refine gf (k0 := k0) hX hB (wset1 h0) rfl in10 2 (by decide) wm_5_164 rfl rfl dX10_no_2 ?_
  refine lv_iconst (v := 1) hx hb dX10_no_5 (by decide) ?_
  refine lv_iadd hx hb dX10_no_6 ?_
  refine pf (ty := .int) (k0 := k0) hX hB (wset1 h0) rfl in10 tyX10_ok nmX10 2 (by decide) wm_5_164 rfl rfl rfl rfl rfl (Nat.le_of_ble_eq_true rfl) (w1 := w.set k0 (x0, .inr (11, [.ref t0, .int i1, .int (i2 + 1), .int i3, .int i4]))) (List.set_set _) dX10_no_7 (fun H locs hB => ?_)
  refine lv_bipush (v := (-9)) hx hb dX10_no_10 (by decide) ?_
  rw [← hQ]
  exact end_i hX hB hA3 rfl rfl ⟨rfl, rfl⟩ (Nat.le_of_ble_eq_true rfl) (Nat.le_of_ble_eq_true rfl) dX10_no_12
noncomputable def D_X10_isTable (x : Int32) : Int32 := (if x < 0 then 0 else (if 4 ≤ x then 0 else 1))
theorem D_X10_isTable_s {x : Int32} : D_X10_isTable x = (if x < 0 then 0 else (if 4 ≤ x then 0 else 1)) := rfl
set_option maxHeartbeats 4000000 in
set_option maxRecDepth 100000 in
theorem k_X10_isTable (κ : Kt) (l : Launch) (w : va_W) (x : Int32)  (o_z : Int32) (hR : D_X10_isTable x = o_z) : CM κ l yX10_isTable cX10_isTable 1 (some .boolean) 0 0 0 0 [.int x] (w) (fun o w' => o = some (.int o_z) ∧ (o_z = 0 ∨ o_z = 1 ∧ 0 ≤ x ∧ x.toNatClampNeg < 4) ∧ w' = w) := by
  refine CM_begin (plainFor_of_name (by decide)) (Nat.le_of_ble_eq_true rfl) ?_
  intro p e s m args below meth c A Q hX hnm hA3 hQ hB ls hl
  have hx := hX.1.1
  have hb := hX.1.2.1
  have hl : lv_has ls 1 [(0, .int x)] := hl
  replace hR := (D_X10_isTable_s).symm.trans hR
  refine lv_iload_n hx hb dX10_isTable_0 rfl (lv_at hl 0 rfl) ?_
  refine lv_if_lt (tgt := 13) hx hb dX10_isTable_1 (by decide) (fun c1 => ?_) (fun c1 => ?_)
  · replace hR := ifp c1 hR
    refine lv_iconst (v := 0) hx hb dX10_isTable_13 (by decide) ?_
    rw [← hQ]
    exact end_i hX hB hA3 rfl rfl (by obtain rfl := hR; exact ⟨rfl, Or.inl rfl, rfl⟩) (Nat.le_of_ble_eq_true rfl) (Nat.le_of_ble_eq_true rfl) dX10_isTable_14
  · replace hR := ifn c1 hR
    refine lv_iload_n hx hb dX10_isTable_4 rfl (lv_at hl 0 rfl) ?_
    refine lv_iconst (v := 4) hx hb dX10_isTable_5 (by decide) ?_
    refine lv_icmp_ge (tgt := 13) hx hb dX10_isTable_6 (by decide) (fun c3 => ?_) (fun c3 => ?_)
    · replace hR := ifp c3 hR
      refine lv_iconst (v := 0) hx hb dX10_isTable_13 (by decide) ?_
      rw [← hQ]
      exact end_i hX hB hA3 rfl rfl (by obtain rfl := hR; exact ⟨rfl, Or.inl rfl, rfl⟩) (Nat.le_of_ble_eq_true rfl) (Nat.le_of_ble_eq_true rfl) dX10_isTable_14
    · replace hR := ifn c3 hR
      have hq2 := nlt_of (x := x) (n := 4) c1 (by omega) c3
      refine lv_iconst (v := 1) hx hb dX10_isTable_9 (by decide) ?_
      refine lv_goto (tgt := 14) hx hb dX10_isTable_10 (by decide) ?_
      rw [← hQ]
      exact end_i hX hB hA3 rfl rfl (by obtain rfl := hR; exact ⟨rfl, Or.inr (in_4 (by assumption) (by assumption)), rfl⟩) (Nat.le_of_ble_eq_true rfl) (Nat.le_of_ble_eq_true rfl) dX10_isTable_14
noncomputable def D_X10_isShort (x : Int32) : Int32 := (if x < 1 then 0 else (if 4 < x then 0 else 1))
theorem D_X10_isShort_s {x : Int32} : D_X10_isShort x = (if x < 1 then 0 else (if 4 < x then 0 else 1)) := rfl
set_option maxHeartbeats 4000000 in
set_option maxRecDepth 100000 in
theorem k_X10_isShort (κ : Kt) (l : Launch) (w : va_W) (x : Int32)  (o_z : Int32) (hR : D_X10_isShort x = o_z) : CM κ l yX10_isShort cX10_isShort 1 (some .boolean) 0 0 0 0 [.int x] (w) (fun o w' => o = some (.int o_z) ∧ (o_z = 0 ∨ o_z = 1 ∧ 0 ≤ x ∧ 1 ≤ x.toNatClampNeg ∧ x.toNatClampNeg ≤ 4) ∧ w' = w) := by
  refine CM_begin (plainFor_of_name (by decide)) (Nat.le_of_ble_eq_true rfl) ?_
  intro p e s m args below meth c A Q hX hnm hA3 hQ hB ls hl
  have hx := hX.1.1
  have hb := hX.1.2.1
  have hl : lv_has ls 1 [(0, .int x)] := hl
  replace hR := (D_X10_isShort_s).symm.trans hR
  refine lv_iload_n hx hb dX10_isShort_0 rfl (lv_at hl 0 rfl) ?_
  refine lv_iconst (v := 1) hx hb dX10_isShort_1 (by decide) ?_
  refine lv_icmp_lt (tgt := 14) hx hb dX10_isShort_2 (by decide) (fun c1 => ?_) (fun c1 => ?_)
  · replace hR := ifp c1 hR
    refine lv_iconst (v := 0) hx hb dX10_isShort_14 (by decide) ?_
    rw [← hQ]
    exact end_i hX hB hA3 rfl rfl (by obtain rfl := hR; exact ⟨rfl, Or.inl rfl, rfl⟩) (Nat.le_of_ble_eq_true rfl) (Nat.le_of_ble_eq_true rfl) dX10_isShort_15
  · replace hR := ifn c1 hR
    refine lv_iload_n hx hb dX10_isShort_5 rfl (lv_at hl 0 rfl) ?_
    refine lv_iconst (v := 4) hx hb dX10_isShort_6 (by decide) ?_
    refine lv_icmp_gt (tgt := 14) hx hb dX10_isShort_7 (by decide) (fun c2 => ?_) (fun c2 => ?_)
    · replace hR := ifp c2 hR
      refine lv_iconst (v := 0) hx hb dX10_isShort_14 (by decide) ?_
      rw [← hQ]
      exact end_i hX hB hA3 rfl rfl (by obtain rfl := hR; exact ⟨rfl, Or.inl rfl, rfl⟩) (Nat.le_of_ble_eq_true rfl) (Nat.le_of_ble_eq_true rfl) dX10_isShort_15
    · replace hR := ifn c2 hR
      refine lv_iconst (v := 1) hx hb dX10_isShort_10 (by decide) ?_
      refine lv_goto (tgt := 15) hx hb dX10_isShort_11 (by decide) ?_
      rw [← hQ]
      exact end_i hX hB hA3 rfl rfl (by obtain rfl := hR; exact ⟨rfl, Or.inr (in_s (by assumption) (by assumption)), rfl⟩) (Nat.le_of_ble_eq_true rfl) (Nat.le_of_ble_eq_true rfl) dX10_isShort_15
