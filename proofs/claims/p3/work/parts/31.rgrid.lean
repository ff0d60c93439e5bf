theorem wUU {κ : Kt} {w : va_W} {k b n : Nat} {f1 f2 : Nat → Int64} : wU κ (wU κ w k b n f1) k b n f2 = wU κ w k b n f2 := List.set_set _
theorem df8 : ∀ j, j < 3 → defaultValue (tyX7 j) = vp_V [.int 0, .int 0, .null] j := by
  intro j hj
  match j, hj with
  | 0, _ => rfl
  | 1, _ => rfl
  | 2, _ => rfl
theorem df9 : ∀ j, j < 4 → defaultValue (tyX8 j) = vp_V [.null, .null, .int 0, .int 0] j := by
  intro j hj
  match j, hj with
  | 0, _ => rfl
  | 1, _ => rfl
  | 2, _ => rfl
  | 3, _ => rfl
theorem df10 : ∀ j, j < 7 → defaultValue (tyX9 j) = vp_V [.null, .null, .null, .int 0, .int 0, .int 0, .int 0] j := by
  intro j hj
  match j, hj with
  | 0, _ => rfl
  | 1, _ => rfl
  | 2, _ => rfl
  | 3, _ => rfl
  | 4, _ => rfl
  | 5, _ => rfl
  | 6, _ => rfl
theorem upd_inv {f g : Nat → Int64} {y : Nat} (h : ∀ k, k < y → g k = f k) : ∀ k, k < y + 1 → vp_updL g y (f y) k = f k := by
  intro k hk
  unfold vp_updL
  by_cases e : k = y
  · rw [if_pos e, e]
  · rw [if_neg e]; exact h k (by omega)
theorem upd_01 {g : Nat → Int64} {y : Nat} (h : ∀ k, g k = 0 ∨ g k = 1) : ∀ k, vp_updL g y 1 k = 0 ∨ vp_updL g y 1 k = 1 := by
  intro k
  unfold vp_updL
  by_cases e : k = y
  · rw [if_pos e]; exact Or.inr rfl
  · rw [if_neg e]; exact h k
/-- rows, columns changed: what stands in a grid behind it -/
def xr (C i j : Nat) (f : Nat → Int64) : Nat → Int64 := fun k => if k % 5 < C ∧ k / 5 = i then f (j * 5 + k % 5) else if k % 5 < C ∧ k / 5 = j then f (i * 5 + k % 5) else f k
def xc (R i j : Nat) (f : Nat → Int64) : Nat → Int64 := fun k => if k / 5 < R ∧ k % 5 = i then f (k / 5 * 5 + j) else if k / 5 < R ∧ k % 5 = j then f (k / 5 * 5 + i) else f k
def tr (C i : Nat) (f : Nat → Int64) : Nat → Int64 := fun k => if k % 5 < C ∧ k / 5 = i then -f k else f k
def ar (C i j : Nat) (t : Int64) (f : Nat → Int64) : Nat → Int64 := fun k => if k % 5 < C ∧ k / 5 = i then f k + t * f (j * 5 + k % 5) else f k
def ac (R i j : Nat) (t : Int64) (f : Nat → Int64) : Nat → Int64 := fun k => if k / 5 < R ∧ k % 5 = i then f k + t * f (k / 5 * 5 + j) else f k
section GRL
variable {f : Nat → Int64} {i j y : Nat} {t : Int64}
theorem xr0 : xr 0 i j f = f := by funext k; unfold xr; rw [if_neg (by omega), if_neg (by omega)]
theorem xc0 : xc 0 i j f = f := by funext k; unfold xc; rw [if_neg (by omega), if_neg (by omega)]
theorem tr0 : tr 0 i f = f := by funext k; unfold tr; rw [if_neg (by omega)]
theorem ar0 : ar 0 i j t f = f := by funext k; unfold ar; rw [if_neg (by omega)]
theorem ac0 : ac 0 i j t f = f := by funext k; unfold ac; rw [if_neg (by omega)]
theorem xr_at (a : Nat) : xr y i j f (a * 5 + y) = f (a * 5 + y) ∨ 5 ≤ y := by
  by_cases h : 5 ≤ y
  · exact Or.inr h
  · refine Or.inl ?_
    unfold xr
    rw [if_neg (by omega), if_neg (by omega)]
theorem xr_step (hy : y < 5) (_ : i < 5) (_ : j < 5) : vp_updL (vp_updL (xr y i j f) (i * 5 + y) (xr y i j f (j * 5 + y))) (j * 5 + y) (xr y i j f (i * 5 + y)) = xr (y + 1) i j f := by
  have e1 : xr y i j f (j * 5 + y) = f (j * 5 + y) := (xr_at j).resolve_right (by omega)
  have e2 : xr y i j f (i * 5 + y) = f (i * 5 + y) := (xr_at i).resolve_right (by omega)
  rw [e1, e2]
  funext k
  unfold vp_updL
  by_cases a1 : k = j * 5 + y
  · subst a1
    rw [if_pos rfl]
    unfold xr
    by_cases e : (j * 5 + y) / 5 = i
    · rw [if_pos ⟨by omega, e⟩]
      congr 1
      omega
    · rw [if_neg (fun h => e h.2), if_pos (by omega)]
      congr 1
      omega
  · rw [if_neg a1]
    by_cases a2 : k = i * 5 + y
    · subst a2
      rw [if_pos rfl]
      unfold xr
      rw [if_pos (by omega)]
      congr 1
      omega
    · rw [if_neg a2]
      unfold xr
      by_cases b1 : k % 5 < y ∧ k / 5 = i
      · rw [if_pos b1, if_pos (by omega)]
      · rw [if_neg b1]
        by_cases b2 : k % 5 < y ∧ k / 5 = j
        · rw [if_pos b2, if_neg (by omega), if_pos (by omega)]
        · rw [if_neg b2, if_neg (by omega), if_neg (by omega)]
theorem xc_at (a : Nat) : xc y i j f (y * 5 + a) = f (y * 5 + a) ∨ 5 ≤ a := by
  by_cases h : 5 ≤ a
  · exact Or.inr h
  · refine Or.inl ?_
    unfold xc
    rw [if_neg (by omega), if_neg (by omega)]
theorem xc_step (hi : i < 5) (hj : j < 5) (_ : i < 5) : vp_updL (vp_updL (xc y i j f) (y * 5 + i) (xc y i j f (y * 5 + j))) (y * 5 + j) (xc y i j f (y * 5 + i)) = xc (y + 1) i j f := by
  have e1 : xc y i j f (y * 5 + j) = f (y * 5 + j) := (xc_at j).resolve_right (by omega)
  have e2 : xc y i j f (y * 5 + i) = f (y * 5 + i) := (xc_at i).resolve_right (by omega)
  rw [e1, e2]
  funext k
  unfold vp_updL
  by_cases a1 : k = y * 5 + j
  · subst a1
    rw [if_pos rfl]
    unfold xc
    by_cases e : (y * 5 + j) % 5 = i
    · rw [if_pos ⟨by omega, e⟩]
      congr 1
      omega
    · rw [if_neg (fun h => e h.2), if_pos (by omega)]
      congr 1
      omega
  · rw [if_neg a1]
    by_cases a2 : k = y * 5 + i
    · subst a2
      rw [if_pos rfl]
      unfold xc
      rw [if_pos (by omega)]
      congr 1
      omega
    · rw [if_neg a2]
      unfold xc
      by_cases b1 : k / 5 < y ∧ k % 5 = i
      · rw [if_pos b1, if_pos (by omega)]
      · rw [if_neg b1]
        by_cases b2 : k / 5 < y ∧ k % 5 = j
        · rw [if_pos b2, if_neg (by omega), if_pos (by omega)]
        · rw [if_neg b2, if_neg (by omega), if_neg (by omega)]
theorem tr_step (hy : y < 5) (_ : i < 5) (_ : i < 5) : vp_updL (tr y i f) (i * 5 + y) (-(tr y i f (i * 5 + y))) = tr (y + 1) i f := by
  have e1 : tr y i f (i * 5 + y) = f (i * 5 + y) := by unfold tr; rw [if_neg (by omega)]
  rw [e1]
  funext k
  unfold vp_updL
  by_cases a1 : k = i * 5 + y
  · subst a1
    rw [if_pos rfl]
    unfold tr
    rw [if_pos (by omega)]
  · rw [if_neg a1]
    unfold tr
    by_cases b1 : k % 5 < y ∧ k / 5 = i
    · rw [if_pos b1, if_pos (by omega)]
    · rw [if_neg b1, if_neg (by omega)]
theorem ar_step (hy : y < 5) (hij : i ≠ j) (_ : i < 5) : vp_updL (ar y i j t f) (i * 5 + y) (ar y i j t f (i * 5 + y) + t * ar y i j t f (j * 5 + y)) = ar (y + 1) i j t f := by
  have e1 : ar y i j t f (i * 5 + y) = f (i * 5 + y) := by unfold ar; rw [if_neg (by omega)]
  have e2 : ar y i j t f (j * 5 + y) = f (j * 5 + y) := by unfold ar; rw [if_neg (by omega)]
  rw [e1, e2]
  funext k
  unfold vp_updL
  by_cases a1 : k = i * 5 + y
  · subst a1
    rw [if_pos rfl]
    unfold ar
    rw [if_pos (by omega), show (i * 5 + y) % 5 = y by omega]
  · rw [if_neg a1]
    unfold ar
    by_cases b1 : k % 5 < y ∧ k / 5 = i
    · rw [if_pos b1, if_pos (by omega)]
    · rw [if_neg b1, if_neg (by omega)]
theorem ac_step (hi : i < 5) (hj : j < 5) (hij : i ≠ j) : vp_updL (ac y i j t f) (y * 5 + i) (ac y i j t f (y * 5 + i) + t * ac y i j t f (y * 5 + j)) = ac (y + 1) i j t f := by
  have e1 : ac y i j t f (y * 5 + i) = f (y * 5 + i) := by unfold ac; rw [if_neg (by omega)]
  have e2 : ac y i j t f (y * 5 + j) = f (y * 5 + j) := by unfold ac; rw [if_neg (by omega)]
  rw [e1, e2]
  funext k
  unfold vp_updL
  by_cases a1 : k = y * 5 + i
  · subst a1
    rw [if_pos rfl]
    unfold ac
    rw [if_pos (by omega), show (y * 5 + i) / 5 = y by omega]
  · rw [if_neg a1]
    unfold ac
    by_cases b1 : k / 5 < y ∧ k % 5 = i
    · rw [if_pos b1, if_pos (by omega)]
    · rw [if_neg b1, if_neg (by omega)]
end GRL
/-- not great; let into a table -/
def ng (x : Int64) : Prop := -1000000000 ≤ x ∧ x ≤ 1000000000
def sm (x : Int64) : Prop := -20 ≤ x ∧ x ≤ 20
theorem cmp_le {x y : Int64} (h : lg_cmp x y ≤ 0) : x ≤ y := (lg_cmp_le x y).mp h
theorem cmp_ge {x y : Int64} (h : 0 ≤ lg_cmp x y) : y ≤ x := (lg_cmp_ge x y).mp h
theorem ng_of {x : Int64} (h1 : ¬ 0 < lg_cmp x 1000000000) (h2 : 0 ≤ lg_cmp x (-1000000000)) : ng x := ⟨cmp_ge h2, Int64.not_lt.mp (fun h => h1 ((lg_cmp_gt _ _).mpr h))⟩
theorem sm_of {x : Int64} (h1 : ¬ 0 < lg_cmp x 20) (h2 : 0 ≤ lg_cmp x (-20)) : sm x := ⟨cmp_ge h2, Int64.not_lt.mp (fun h => h1 ((lg_cmp_gt _ _).mpr h))⟩

set_option maxHeartbeats 4000000 in
set_option maxRecDepth 100000 in
theorem k_X7_init (κ : Kt) (l : Launch) (w : va_W) (g : Nat) (xR : Int32) (R : Nat) (xC : Int32) (C : Nat) (hxR : xR = nI R) (hxC : xC = nI C) (hR : R * 5 ≤ 20) : CM κ l yX7_init cX7_init 3 (none) 1 20 1 20 [.ref g, .int xR, .int xC] ((g, .inr (8, [.int 0, .int 0, .null])) :: w) (fun o w' => ∃ (b : Nat), o = none ∧ w' = lA κ b (R * 5) (fun _ => 0) :: gO g R C b :: w) := by
  subst hxR
  subst hxC
  refine CM_begin (plainFor_of_name (by decide)) (Nat.le_of_ble_eq_true rfl) ?_
  intro p e s m args below meth c A Q hX hnm hA3 hQ hB ls hl
  have hx := hX.1.1
  have hb := hX.1.2.1
  have hl : lv_has ls 3 [(0, .ref g), (1, .int (nI R)), (2, .int (nI C))] := hl
  refine lv_aload_n hx hb dX7_init_0 rfl (lv_at hl 0 rfl) ?_
  refine W.objInit hx hb hX.1.2.2.2.1 (hX.1.2.2.2.2 _ wm_5_144) (hX.1.2.2.2.2 _ wm_1_36) (hX.1.2.2.2.2 _ wm_1_37) rfl (by rw [hX.1.2.2.1]; exact hl.1) rfl dX7_init_1 (Nat.le_of_ble_eq_true rfl) (Nat.le_of_ble_eq_true rfl) ?_
  refine W.eq (g2 := F0 m 4 ls []) rfl ?_
  refine lv_aload_n hx hb dX7_init_4 rfl (lv_at hl 0 rfl) ?_
  refine lv_iload_n hx hb dX7_init_5 rfl (lv_at hl 1 rfl) ?_
  refine pfF (ty := .int) (k0 := 0) hX hnm hB rfl rfl in7 tyX7_ok nmX7 0 (by decide) wm_5_145 rfl rfl rfl rfl rfl rfl (Nat.le_of_ble_eq_true rfl) (w1 := (g, .inr (8, [.int (nI R), .int 0, .null])) :: w) rfl dX7_init_6 (fun H locs hB => ?_)
  refine lv_aload_n hx hb dX7_init_9 rfl (lv_at hl 0 rfl) ?_
  refine lv_iload_n hx hb dX7_init_10 rfl (lv_at hl 2 rfl) ?_
  refine pfF (ty := .int) (k0 := 0) hX hnm hB rfl rfl in7 tyX7_ok nmX7 1 (by decide) wm_5_149 rfl rfl rfl rfl rfl rfl (Nat.le_of_ble_eq_true rfl) (w1 := (g, .inr (8, [.int (nI R), .int (nI C), .null])) :: w) rfl dX7_init_11 (fun H locs hB => ?_)
  refine lv_aload_n hx hb dX7_init_14 rfl (lv_at hl 0 rfl) ?_
  refine lv_iload_n hx hb dX7_init_15 rfl (lv_at hl 1 rfl) ?_
  refine lv_iconst (v := 5) hx hb dX7_init_16 (by decide) ?_
  refine lv_imul hx hb dX7_init_17 ?_
  refine eqi (y := nI (R * 5)) (nI_mul R 5) ?_
  refine newA (t0 := 0) (ty := .long) (N := R * 5) (mx := 20) (a0 := ((R * 5), .inr (.inl (fun _ => 0)))) hX hB rfl rfl (fun h => h) wm_1_65 (fun _ => rfl) (nI_pos (n := R * 5) (by omega)) (nI_clamp (n := R * 5) (by omega)) (by omega) (Nat.le_of_ble_eq_true rfl) (Nat.le_of_ble_eq_true rfl) (Nat.le_of_ble_eq_true rfl) dX7_init_18 (fun q1 H hB => ?_)
  refine pfF (ty := .array .long) (k0 := 1) hX hnm hB rfl rfl in7 tyX7_ok nmX7 2 (by decide) wm_5_153 rfl rfl rfl rfl rfl rfl (Nat.le_of_ble_eq_true rfl) (w1 := lA κ q1 (R * 5) (fun _ => 0) :: gO g R C q1 :: w) rfl dX7_init_20 (fun H locs hB => ?_)
  rw [← hQ]
  exact end_v hX hB hA3 rfl ⟨q1, rfl, rfl⟩ (Nat.le_of_ble_eq_true rfl) (Nat.le_of_ble_eq_true rfl) dX7_init_23
set_option maxHeartbeats 4000000 in
set_option maxRecDepth 100000 in
theorem k_X7_at (κ : Kt) (l : Launch) (w : va_W) (k1 k2 g b R C : Nat) (f : Nat → Int64) (xi : Int32) (i : Nat) (xj : Int32) (j : Nat) (h1 : w[k1]? = some (gO g R C b)) (h2 : w[k2]? = some (lA κ b (R * 5) f)) (hs : shp R C) (hxi : xi = nI i) (hxj : xj = nI j) (hi : i * 5 + j < R * 5) : CM κ l yX7_at cX7_at 3 (some .long) 0 0 0 0 [.ref g, .int xi, .int xj] (w) (fun o w' => o = some (.long (f (i * 5 + j))) ∧ w' = w) := by
  have hs0 := hs
  obtain ⟨hs1, hs2, hs3, hs4⟩ := hs0
  subst hxi
  subst hxj
  refine CM_begin (plainFor_of_name (by decide)) (Nat.le_of_ble_eq_true rfl) ?_
  intro p e s m args below meth c A Q hX hnm hA3 hQ hB ls hl
  have hx := hX.1.1
  have hb := hX.1.2.1
  have hl : lv_has ls 3 [(0, .ref g), (1, .int (nI i)), (2, .int (nI j))] := hl
  refine lv_aload_n hx hb dX7_at_0 rfl (lv_at hl 0 rfl) ?_
  refine gf (k0 := k1) hX hB h1 rfl in7 2 (by decide) wm_5_153 rfl rfl dX7_at_1 ?_
  refine lv_iload_n hx hb dX7_at_4 rfl (lv_at hl 1 rfl) ?_
  refine lv_iconst (v := 5) hx hb dX7_at_5 (by decide) ?_
  refine lv_imul hx hb dX7_at_6 ?_
  refine eqi (y := nI (i * 5)) (nI_mul i 5) ?_
  refine lv_iload_n hx hb dX7_at_7 rfl (lv_at hl 2 rfl) ?_
  refine lv_iadd hx hb dX7_at_8 ?_
  refine eqi (y := nI ((i * 5) + j)) (nI_add (i * 5) j) ?_
  refine laldN (k0 := k2) (k := (i * 5) + j) hX hB h2 (by omega) (by omega) dX7_at_9 ?_
  rw [← hQ]
  exact end_l hX hB hA3 rfl ⟨rfl, rfl⟩ (Nat.le_of_ble_eq_true rfl) (Nat.le_of_ble_eq_true rfl) dX7_at_10
set_option maxHeartbeats 4000000 in
set_option maxRecDepth 100000 in
theorem k_X7_put (κ : Kt) (l : Launch) (w : va_W) (k1 k2 g b R C : Nat) (f : Nat → Int64) (xi : Int32) (i : Nat) (xj : Int32) (j : Nat) (x : Int64) (h1 : w[k1]? = some (gO g R C b)) (h2 : w[k2]? = some (lA κ b (R * 5) f)) (hs : shp R C) (hxi : xi = nI i) (hxj : xj = nI j) (hi : i * 5 + j < R * 5) : CM κ l yX7_put cX7_put 5 (none) 0 0 0 0 [.ref g, .int xi, .int xj, .long x] (w) (fun o w' => o = none ∧ w' = wU κ w k2 b (R * 5) (vp_updL f (i * 5 + j) x)) := by
  have hs0 := hs
  obtain ⟨hs1, hs2, hs3, hs4⟩ := hs0
  subst hxi
  subst hxj
  refine CM_begin (plainFor_of_name (by decide)) (Nat.le_of_ble_eq_true rfl) ?_
  intro p e s m args below meth c A Q hX hnm hA3 hQ hB ls hl
  have hx := hX.1.1
  have hb := hX.1.2.1
  have hl : lv_has ls 5 [(0, .ref g), (1, .int (nI i)), (2, .int (nI j)), (3, .long x)] := hl
  have hB : Bd κ A s (wU κ w k2 b (R * 5) f) s.heap [] := by rw [wU0 h2]; exact hB
  
  refine lv_aload_n hx hb dX7_put_0 rfl (lv_at hl 0 rfl) ?_
  refine gf (k0 := k1) hX hB (wU1 h1 h2) rfl in7 2 (by decide) wm_5_153 rfl rfl dX7_put_1 ?_
  refine lv_iload_n hx hb dX7_put_4 rfl (lv_at hl 1 rfl) ?_
  refine lv_iconst (v := 5) hx hb dX7_put_5 (by decide) ?_
  refine lv_imul hx hb dX7_put_6 ?_
  refine eqi (y := nI (i * 5)) (nI_mul i 5) ?_
  refine lv_iload_n hx hb dX7_put_7 rfl (lv_at hl 2 rfl) ?_
  refine lv_iadd hx hb dX7_put_8 ?_
  refine eqi (y := nI ((i * 5) + j)) (nI_add (i * 5) j) ?_
  refine lv_lload_n hx hb dX7_put_9 rfl (lv_at hl 3 rfl) ?_
  refine lastN (k0 := k2) (k := (i * 5) + j) hX hB (wU2 h2) (by omega) (by omega) (w1 := wU κ w k2 b (R * 5) (vp_updL f ((i * 5) + j) x)) wUS dX7_put_10 (fun H locs hB => ?_)
  rw [← hQ]
  exact end_v hX hB hA3 rfl ⟨rfl, rfl⟩ (Nat.le_of_ble_eq_true rfl) (Nat.le_of_ble_eq_true rfl) dX7_put_11
noncomputable def D_X7_copy_18 (R : Nat) (f : Nat → Int64) (nn : Nat) : Nat → (Nat → Int64) → (Nat → Int64) := @Nat.rec (fun _ => Nat → (Nat → Int64) → (Nat → Int64)) (fun _ _ => default) (fun _ lb18 (y2_18 : Nat) (fb2_18 : Nat → Int64) => (if (R * 5) ≤ y2_18 then fb2_18 else (lb18 (y2_18 + 1) (vp_updL fb2_18 y2_18 (f y2_18))))) nn
theorem D_X7_copy_18_s {R : Nat} {f : Nat → Int64} {nn : Nat} {y2_18 : Nat} {fb2_18 : Nat → Int64} : D_X7_copy_18 R f (nn + 1) y2_18 fb2_18 = (if (R * 5) ≤ y2_18 then fb2_18 else ((D_X7_copy_18 R f nn) (y2_18 + 1) (vp_updL fb2_18 y2_18 (f y2_18)))) := rfl
noncomputable def D_X7_copy (R : Nat) (C : Nat) (f : Nat → Int64) : (Nat → Int64) := (D_X7_copy_18 R f ((R * 5) + 1 - 0 + 1) 0 (fun _ => 0))
theorem D_X7_copy_s {R : Nat} {C : Nat} {f : Nat → Int64} : D_X7_copy R C f = (D_X7_copy_18 R f ((R * 5) + 1 - 0 + 1) 0 (fun _ => 0)) := rfl
set_option maxHeartbeats 4000000 in
set_option maxRecDepth 100000 in
theorem k_X7_copy (κ : Kt) (l : Launch) (w : va_W) (k1 k2 g b R C : Nat) (f : Nat → Int64) (h1 : w[k1]? = some (gO g R C b)) (h2 : w[k2]? = some (lA κ b (R * 5) f)) (hs : shp R C) (o_F : Nat → Int64) (hR : D_X7_copy R C f = o_F) : CM κ l yX7_copy cX7_copy 3 (some (.object "GridmenderModel$Grid")) 2 42 2 23 [.ref g] (w) (fun o w' => ∃ (q1 : Nat) (q2 : Nat), o = some (.ref q1) ∧ (∀ k, k < R * 5 → o_F k = f k) ∧ w' = lA κ q2 (R * 5) o_F :: gO q1 R C q2 :: w) := by
  have hs0 := hs
  obtain ⟨hs1, hs2, hs3, hs4⟩ := hs0
  refine CM_begin (plainFor_of_name (by decide)) (Nat.le_of_ble_eq_true rfl) ?_
  intro p e s m args below meth c A Q hX hnm hA3 hQ hB ls hl
  have hx := hX.1.1
  have hb := hX.1.2.1
  have hl : lv_has ls 3 [(0, .ref g)] := hl
  replace hR := (D_X7_copy_s).symm.trans hR
  refine newO (fs := [.int 0, .int 0, .null]) hX hB (ci := 8) rfl in7 tyX7_ok wm_5_219 wm_5_140 wm_1_7 df8 (Nat.le_of_ble_eq_true rfl) (Nat.le_of_ble_eq_true rfl) dX7_copy_0 (fun q1 H hB => ?_)
  refine lv_dup hx hb dX7_copy_3 rfl ?_
  refine lv_aload_n hx hb dX7_copy_4 rfl (lv_at hl 0 rfl) ?_
  refine gf (k0 := k1 + 1) hX hB h1 rfl in7 0 (by decide) wm_5_145 rfl rfl dX7_copy_5 ?_
  refine lv_aload_n hx hb dX7_copy_8 rfl (lv_at hl 0 rfl) ?_
  refine gf (k0 := k1 + 1) hX hB h1 rfl in7 1 (by decide) wm_5_149 rfl rfl dX7_copy_9 ?_
  refine call_I (n := 2) (As := [.int (nI R), .int (nI C)]) (rest := [.ref q1]) hX hB (k_X7_init κ l (w) q1 (nI R) R (nI C) C rfl rfl (by omega)) ⟨by decide, by decide, by decide +kernel⟩ rfl wm_5_220 wm_5_142 wm_1_7 wm_5_143 ⟨Nat.le_of_ble_eq_true rfl, Nat.le_of_ble_eq_true rfl⟩ ⟨Nat.le_of_ble_eq_true rfl, Nat.le_of_ble_eq_true rfl⟩ rfl hl.1 rfl (Nat.le_of_ble_eq_true rfl) dX7_copy_12 (fun o w' H locs hp hB => ?_)
  obtain ⟨b2, rfl, hw9⟩ := hp
  replace hB : Bd κ A s (lA κ b2 (R * 5) (fun _ => 0) :: gO q1 R C b2 :: w) H locs := by rw [hw9] at hB; exact hB
  refine W.eq (g2 := F0 m 15 ls [.ref q1]) rfl ?_
  refine lv_astore_n (lv' := [(1, .ref q1), (0, .ref g)]) hx hb dX7_copy_15 rfl hl (by decide) rfl (fun ls hl => ?_)
  refine lv_iconst (v := 0) hx hb dX7_copy_16 (by decide) ?_
  refine lv_istore_n (lv' := [(2, .int 0), (1, .ref q1), (0, .ref g)]) hx hb dX7_copy_17 rfl hl (by decide) rfl (fun ls hl => ?_)
  have lp18 : ∀ (nn18 : Nat) (y2_18 : Nat) (fb2_18 : Nat → Int64) (H : Heap) (locs : List Loc), (y2_18 ≤ (R * 5)) → (∀ k, k < y2_18 → fb2_18 k = f k) → (R * 5) + 1 - y2_18 < nn18 → D_X7_copy_18 R f nn18 y2_18 fb2_18 = o_F → Bd κ A s (lA κ b2 (R * 5) fb2_18 :: gO q1 R C b2 :: w) H locs → ∀ ls : Array Slot, lv_has ls 3 [(2, .int (nI y2_18)), (1, .ref q1), (0, .ref g)] → W p l e (Rm 2 42 2 23) s m args below meth c H locs (2) (23) Q (F0 m 18 ls []) := by
    intro nn18
    induction nn18 with
    | zero => intro y2_18 fb2_18 H locs hn2_18 hi_18 hμ; exact absurd hμ (Nat.not_lt_zero _)
    | succ nn18 ih18 =>
      intro y2_18 fb2_18 H locs hn2_18 hi_18 hμ18 hR hB ls hl
      replace hR := (D_X7_copy_18_s).symm.trans hR
      refine lv_iload_n hx hb dX7_copy_18 rfl (lv_at hl 0 rfl) ?_
      refine lv_aload_n hx hb dX7_copy_19 rfl (lv_at hl 2 rfl) ?_
      refine gf (k0 := k1 + 2) hX hB h1 rfl in7 2 (by decide) wm_5_153 rfl rfl dX7_copy_20 ?_
      refine alenL (k0 := k2 + 2) (v := nI (R * 5)) hX hB h2 rfl dX7_copy_23 ?_
      refine lv_icmp_ge (tgt := 45) hx hb dX7_copy_24 (by decide) (fun c5 => ?_) (fun c5 => ?_)
      · rw [nleP (a := R * 5) (b := y2_18) (by omega) (by omega)] at c5
        replace hR := ifp c5 hR
        refine lv_aload_n hx hb dX7_copy_45 rfl (lv_at hl 1 rfl) ?_
        rw [← hQ]
        exact end_a hX hB hA3 rfl (Or.inr ⟨_, rfl⟩) (by obtain rfl := hR; exact ⟨q1, b2, rfl, (fun k hk => hi_18 k (by omega)), rfl⟩) (Nat.le_of_ble_eq_true rfl) (Nat.le_of_ble_eq_true rfl) dX7_copy_46
      · rw [nleP (a := R * 5) (b := y2_18) (by omega) (by omega)] at c5
        replace hR := ifn c5 hR
        refine lv_aload_n hx hb dX7_copy_27 rfl (lv_at hl 1 rfl) ?_
        refine gf (k0 := 1) hX hB rfl rfl in7 2 (by decide) wm_5_153 rfl rfl dX7_copy_28 ?_
        refine lv_iload_n hx hb dX7_copy_31 rfl (lv_at hl 0 rfl) ?_
        refine lv_aload_n hx hb dX7_copy_32 rfl (lv_at hl 2 rfl) ?_
        refine gf (k0 := k1 + 2) hX hB h1 rfl in7 2 (by decide) wm_5_153 rfl rfl dX7_copy_33 ?_
        refine lv_iload_n hx hb dX7_copy_36 rfl (lv_at hl 0 rfl) ?_
        refine laldN (k0 := k2 + 2) (k := y2_18) hX hB h2 (by omega) (by omega) dX7_copy_37 ?_
        refine lastN (k0 := 0) (k := y2_18) hX hB rfl (by omega) (by omega) (w1 := lA κ b2 (R * 5) (vp_updL fb2_18 y2_18 (f y2_18)) :: gO q1 R C b2 :: w) rfl dX7_copy_38 (fun H locs hB => ?_)
        refine lv_iinc (v := nI (y2_18 + 1)) (lv' := [(2, .int (nI (y2_18 + 1))), (1, .ref q1), (0, .ref g)]) hx hb dX7_copy_39 hl (k := 0) rfl (nI_add y2_18 1) (by decide) rfl (fun ls hl => ?_)
        refine lv_goto (tgt := 18) hx hb dX7_copy_42 (by decide) ?_
        exact ih18 (y2_18 + 1) (vp_updL fb2_18 y2_18 (f y2_18)) _ _ (by omega) (upd_inv hi_18) (by omega) hR hB _ hl
  exact lp18 _ 0 (fun _ => 0) _ _ (by omega) (fun k hk => absurd hk (by omega)) (Nat.lt_succ_self _) hR hB _ hl
noncomputable def D_X7_unit_12 (n : Nat) (nn : Nat) : Nat → (Nat → Int64) → (Nat → Int64) := @Nat.rec (fun _ => Nat → (Nat → Int64) → (Nat → Int64)) (fun _ _ => default) (fun _ lb12 (y2_12 : Nat) (fb2_12 : Nat → Int64) => (if n ≤ y2_12 then fb2_12 else (lb12 (y2_12 + 1) (vp_updL fb2_12 (y2_12 * 5 + y2_12) 1)))) nn
theorem D_X7_unit_12_s {n : Nat} {nn : Nat} {y2_12 : Nat} {fb2_12 : Nat → Int64} : D_X7_unit_12 n (nn + 1) y2_12 fb2_12 = (if n ≤ y2_12 then fb2_12 else ((D_X7_unit_12 n nn) (y2_12 + 1) (vp_updL fb2_12 (y2_12 * 5 + y2_12) 1))) := rfl
noncomputable def D_X7_unit (n : Nat) : (Nat → Int64) := (D_X7_unit_12 n (n + 1 - 0 + 1) 0 (fun _ => 0))
theorem D_X7_unit_s {n : Nat} : D_X7_unit n = (D_X7_unit_12 n (n + 1 - 0 + 1) 0 (fun _ => 0)) := rfl
set_option maxHeartbeats 4000000 in
set_option maxRecDepth 100000 in
theorem k_X7_unit (κ : Kt) (l : Launch) (w : va_W) (xn : Int32) (n : Nat) (hxn : xn = nI n) (hn : 1 ≤ n) (hn4 : n ≤ 4) (o_F : Nat → Int64) (hR : D_X7_unit n = o_F) : CM κ l yX7_unit cX7_unit 3 (some (.object "GridmenderModel$Grid")) 2 42 2 23 [.int xn] (w) (fun o w' => ∃ (q1 : Nat) (q2 : Nat), o = some (.ref q1) ∧ (∀ k, o_F k = 0 ∨ o_F k = 1) ∧ w' = lA κ q2 (n * 5) o_F :: gO q1 n n q2 :: w) := by
  
  subst hxn
  refine CM_begin (plainFor_of_name (by decide)) (Nat.le_of_ble_eq_true rfl) ?_
  intro p e s m args below meth c A Q hX hnm hA3 hQ hB ls hl
  have hx := hX.1.1
  have hb := hX.1.2.1
  have hl : lv_has ls 3 [(0, .int (nI n))] := hl
  replace hR := (D_X7_unit_s).symm.trans hR
  refine newO (fs := [.int 0, .int 0, .null]) hX hB (ci := 8) rfl in7 tyX7_ok wm_5_219 wm_5_140 wm_1_7 df8 (Nat.le_of_ble_eq_true rfl) (Nat.le_of_ble_eq_true rfl) dX7_unit_0 (fun q1 H hB => ?_)
  refine lv_dup hx hb dX7_unit_3 rfl ?_
  refine lv_iload_n hx hb dX7_unit_4 rfl (lv_at hl 0 rfl) ?_
  refine lv_iload_n hx hb dX7_unit_5 rfl (lv_at hl 0 rfl) ?_
  refine call_I (n := 2) (As := [.int (nI n), .int (nI n)]) (rest := [.ref q1]) hX hB (k_X7_init κ l (w) q1 (nI n) n (nI n) n rfl rfl (by omega)) ⟨by decide, by decide, by decide +kernel⟩ rfl wm_5_220 wm_5_142 wm_1_7 wm_5_143 ⟨Nat.le_of_ble_eq_true rfl, Nat.le_of_ble_eq_true rfl⟩ ⟨Nat.le_of_ble_eq_true rfl, Nat.le_of_ble_eq_true rfl⟩ rfl hl.1 rfl (Nat.le_of_ble_eq_true rfl) dX7_unit_6 (fun o w' H locs hp hB => ?_)
  obtain ⟨b2, rfl, hw9⟩ := hp
  replace hB : Bd κ A s (lA κ b2 (n * 5) (fun _ => 0) :: gO q1 n n b2 :: w) H locs := by rw [hw9] at hB; exact hB
  refine W.eq (g2 := F0 m 9 ls [.ref q1]) rfl ?_
  refine lv_astore_n (lv' := [(1, .ref q1), (0, .int (nI n))]) hx hb dX7_unit_9 rfl hl (by decide) rfl (fun ls hl => ?_)
  refine lv_iconst (v := 0) hx hb dX7_unit_10 (by decide) ?_
  refine lv_istore_n (lv' := [(2, .int 0), (1, .ref q1), (0, .int (nI n))]) hx hb dX7_unit_11 rfl hl (by decide) rfl (fun ls hl => ?_)
  have lp12 : ∀ (nn12 : Nat) (y2_12 : Nat) (fb2_12 : Nat → Int64) (H : Heap) (locs : List Loc), (y2_12 ≤ n) → (∀ k, fb2_12 k = 0 ∨ fb2_12 k = 1) → n + 1 - y2_12 < nn12 → D_X7_unit_12 n nn12 y2_12 fb2_12 = o_F → Bd κ A s (lA κ b2 (n * 5) fb2_12 :: gO q1 n n b2 :: w) H locs → ∀ ls : Array Slot, lv_has ls 3 [(2, .int (nI y2_12)), (1, .ref q1), (0, .int (nI n))] → W p l e (Rm 2 42 2 23) s m args below meth c H locs (2) (23) Q (F0 m 12 ls []) := by
    intro nn12
    induction nn12 with
    | zero => intro y2_12 fb2_12 H locs hn2_12 hi_12 hμ; exact absurd hμ (Nat.not_lt_zero _)
    | succ nn12 ih12 =>
      intro y2_12 fb2_12 H locs hn2_12 hi_12 hμ12 hR hB ls hl
      replace hR := (D_X7_unit_12_s).symm.trans hR
      refine lv_iload_n hx hb dX7_unit_12 rfl (lv_at hl 0 rfl) ?_
      refine lv_iload_n hx hb dX7_unit_13 rfl (lv_at hl 2 rfl) ?_
      refine lv_icmp_ge (tgt := 30) hx hb dX7_unit_14 (by decide) (fun c5 => ?_) (fun c5 => ?_)
      · rw [nleP (a := n) (b := y2_12) (by omega) (by omega)] at c5
        replace hR := ifp c5 hR
        refine lv_aload_n hx hb dX7_unit_30 rfl (lv_at hl 1 rfl) ?_
        rw [← hQ]
        exact end_a hX hB hA3 rfl (Or.inr ⟨_, rfl⟩) (by obtain rfl := hR; exact ⟨q1, b2, rfl, hi_12, rfl⟩) (Nat.le_of_ble_eq_true rfl) (Nat.le_of_ble_eq_true rfl) dX7_unit_31
      · rw [nleP (a := n) (b := y2_12) (by omega) (by omega)] at c5
        replace hR := ifn c5 hR
        refine lv_aload_n hx hb dX7_unit_17 rfl (lv_at hl 1 rfl) ?_
        refine lv_iload_n hx hb dX7_unit_18 rfl (lv_at hl 0 rfl) ?_
        refine lv_iload_n hx hb dX7_unit_19 rfl (lv_at hl 0 rfl) ?_
        refine lv_lconst (v := 1) hx hb dX7_unit_20 (by decide) ?_
        refine call_V (n := 3) (k0 := 1) (As := [.int (nI y2_12), .int (nI y2_12), .long 1]) (rest := []) hX hB (k_X7_put κ l (lA κ b2 (n * 5) fb2_12 :: gO q1 n n b2 :: w) 1 0 q1 b2 n n fb2_12 (nI y2_12) y2_12 (nI y2_12) y2_12 1 rfl rfl ⟨by omega, by omega, by omega, by omega⟩ rfl rfl (by omega)) ⟨rfl, by decide, by decide, by decide +kernel⟩ wm_5_221 wm_5_222 wm_5_223 wm_1_7 wm_5_224 ⟨Nat.le_of_ble_eq_true rfl, Nat.le_of_ble_eq_true rfl⟩ ⟨Nat.le_of_ble_eq_true rfl, Nat.le_of_ble_eq_true rfl⟩ rfl rfl rfl rfl hl.1 rfl (Nat.le_of_ble_eq_true rfl) dX7_unit_21 (fun o w' H locs hp hB => ?_)
        obtain ⟨rfl, hw9⟩ := hp
        replace hB : Bd κ A s (lA κ b2 (n * 5) (vp_updL fb2_12 (y2_12 * 5 + y2_12) 1) :: gO q1 n n b2 :: w) H locs := by rw [hw9] at hB; exact hB
        refine W.eq (g2 := F0 m 24 ls []) rfl ?_
        refine lv_iinc (v := nI (y2_12 + 1)) (lv' := [(2, .int (nI (y2_12 + 1))), (1, .ref q1), (0, .int (nI n))]) hx hb dX7_unit_24 hl (k := 0) rfl (nI_add y2_12 1) (by decide) rfl (fun ls hl => ?_)
        refine lv_goto (tgt := 12) hx hb dX7_unit_27 (by decide) ?_
        exact ih12 (y2_12 + 1) (vp_updL fb2_12 (y2_12 * 5 + y2_12) 1) _ _ (by omega) (upd_01 hi_12) (by omega) hR hB _ hl
  exact lp12 _ 0 (fun _ => 0) _ _ (by omega) (fun k => Or.inl rfl) (Nat.lt_succ_self _) hR hB _ hl
set_option maxHeartbeats 4000000 in
set_option maxRecDepth 100000 in
theorem k_X7_exchangeRows (κ : Kt) (l : Launch) (w : va_W) (k1 k2 g b R C : Nat) (f : Nat → Int64) (xi : Int32) (i : Nat) (xj : Int32) (j : Nat) (h1 : w[k1]? = some (gO g R C b)) (h2 : w[k2]? = some (lA κ b (R * 5) f)) (hs : shp R C) (hxi : xi = nI i) (hxj : xj = nI j) (hi : i < R) (hj : j < R) : CM κ l yX7_exchangeRows cX7_exchangeRows 6 (none) 1 24 0 0 [.ref g, .int xi, .int xj] (w) (fun o w' => o = none ∧ w' = wU κ w k2 b (R * 5) (xr C i j f)) := by
  have hs0 := hs
  obtain ⟨hs1, hs2, hs3, hs4⟩ := hs0
  subst hxi
  subst hxj
  refine CM_begin (plainFor_of_name (by decide)) (Nat.le_of_ble_eq_true rfl) ?_
  intro p e s m args below meth c A Q hX hnm hA3 hQ hB ls hl
  have hx := hX.1.1
  have hb := hX.1.2.1
  have hl : lv_has ls 6 [(0, .ref g), (1, .int (nI i)), (2, .int (nI j))] := hl
  have hB : Bd κ A s (wU κ w k2 b (R * 5) f) s.heap [] := by rw [wU0 h2]; exact hB
  
  refine lv_iconst (v := 0) hx hb dX7_exchangeRows_0 (by decide) ?_
  refine lv_istore_n (lv' := [(3, .int 0), (0, .ref g), (1, .int (nI i)), (2, .int (nI j))]) hx hb dX7_exchangeRows_1 rfl hl (by decide) rfl (fun ls hl => ?_)
  have lp2 : ∀ (nn2 : Nat) (y3_2 : Nat) (f_2 : Nat → Int64) (H : Heap) (locs : List Loc), (y3_2 ≤ C) → (f_2 = xr y3_2 i j f) → C + 1 - y3_2 < nn2 → Bd κ A s (wU κ w k2 b (R * 5) f_2) H locs → ∀ ls : Array Slot, lv_has ls 6 [(3, .int (nI y3_2)), (0, .ref g), (1, .int (nI i)), (2, .int (nI j))] → W p l e (Rm 1 24 0 0) s m args below meth c H locs (0) (0) Q (F0 m 2 ls []) := by
    intro nn2
    induction nn2 with
    | zero => intro y3_2 f_2 H locs hn3_2 hi_2 hμ; exact absurd hμ (Nat.not_lt_zero _)
    | succ nn2 ih2 =>
      intro y3_2 f_2 H locs hn3_2 hi_2 hμ2 hB ls hl
      refine lv_iload_n hx hb dX7_exchangeRows_2 rfl (lv_at hl 0 rfl) ?_
      refine lv_aload_n hx hb dX7_exchangeRows_3 rfl (lv_at hl 1 rfl) ?_
      refine gf (k0 := k1) hX hB (wU1 h1 h2) rfl in7 1 (by decide) wm_5_149 rfl rfl dX7_exchangeRows_4 ?_
      refine lv_icmp_ge (tgt := 44) hx hb dX7_exchangeRows_7 (by decide) (fun c3 => ?_) (fun c3 => ?_)
      · rw [nleP (a := C) (b := y3_2) (by omega) (by omega)] at c3
        rw [← hQ]
        exact end_v hX hB hA3 rfl ⟨rfl, (by rw [hi_2, show y3_2 = C by omega])⟩ (Nat.le_of_ble_eq_true rfl) (Nat.le_of_ble_eq_true rfl) dX7_exchangeRows_44
      · rw [nleP (a := C) (b := y3_2) (by omega) (by omega)] at c3
        refine lv_aload_n hx hb dX7_exchangeRows_10 rfl (lv_at hl 1 rfl) ?_
        refine lv_iload_n hx hb dX7_exchangeRows_11 rfl (lv_at hl 2 rfl) ?_
        refine lv_iload_n hx hb dX7_exchangeRows_12 rfl (lv_at hl 0 rfl) ?_
        refine call_V (n := 2) (k0 := k1) (As := [.int (nI i), .int (nI y3_2)]) (rest := []) hX hB (k_X7_at κ l (wU κ w k2 b (R * 5) f_2) k1 k2 g b R C f_2 (nI i) i (nI y3_2) y3_2 (wU1 h1 h2) (wU2 h2) hs rfl rfl (by omega)) ⟨rfl, by decide, by decide, by decide +kernel⟩ wm_6_50 wm_5_238 wm_5_239 wm_1_7 wm_6_0 ⟨Nat.le_of_ble_eq_true rfl, Nat.le_of_ble_eq_true rfl⟩ ⟨Nat.le_of_ble_eq_true rfl, Nat.le_of_ble_eq_true rfl⟩ (wU1 h1 h2) rfl rfl rfl hl.1 rfl (Nat.le_of_ble_eq_true rfl) dX7_exchangeRows_13 (fun o w' H locs hp hB => ?_)
        obtain ⟨rfl, hw9⟩ := hp
        replace hB : Bd κ A s (wU κ w k2 b (R * 5) f_2) H locs := by rw [hw9] at hB; exact hB
        refine W.eq (g2 := F0 m 16 ls [.long (f_2 (i * 5 + y3_2))]) rfl ?_
        refine lv_lstore (lv' := [(4, .long (f_2 (i * 5 + y3_2))), (3, .int (nI y3_2)), (0, .ref g), (1, .int (nI i)), (2, .int (nI j))]) hx hb dX7_exchangeRows_16 hl (by decide) rfl (fun ls hl => ?_)
        refine lv_aload_n hx hb dX7_exchangeRows_18 rfl (lv_at hl 2 rfl) ?_
        refine lv_iload_n hx hb dX7_exchangeRows_19 rfl (lv_at hl 3 rfl) ?_
        refine lv_iload_n hx hb dX7_exchangeRows_20 rfl (lv_at hl 1 rfl) ?_
        refine lv_aload_n hx hb dX7_exchangeRows_21 rfl (lv_at hl 2 rfl) ?_
        refine lv_iload_n hx hb dX7_exchangeRows_22 rfl (lv_at hl 4 rfl) ?_
        refine lv_iload_n hx hb dX7_exchangeRows_23 rfl (lv_at hl 1 rfl) ?_
        refine call_V (n := 2) (k0 := k1) (As := [.int (nI j), .int (nI y3_2)]) (rest := [.int (nI y3_2), .int (nI i), .ref g]) hX hB (k_X7_at κ l (wU κ w k2 b (R * 5) f_2) k1 k2 g b R C f_2 (nI j) j (nI y3_2) y3_2 (wU1 h1 h2) (wU2 h2) hs rfl rfl (by omega)) ⟨rfl, by decide, by decide, by decide +kernel⟩ wm_6_50 wm_5_238 wm_5_239 wm_1_7 wm_6_0 ⟨Nat.le_of_ble_eq_true rfl, Nat.le_of_ble_eq_true rfl⟩ ⟨Nat.le_of_ble_eq_true rfl, Nat.le_of_ble_eq_true rfl⟩ (wU1 h1 h2) rfl rfl rfl hl.1 rfl (Nat.le_of_ble_eq_true rfl) dX7_exchangeRows_24 (fun o w' H locs hp hB => ?_)
        obtain ⟨rfl, hw9⟩ := hp
        replace hB : Bd κ A s (wU κ w k2 b (R * 5) f_2) H locs := by rw [hw9] at hB; exact hB
        refine W.eq (g2 := F0 m 27 ls [.long (f_2 (j * 5 + y3_2)), .int (nI y3_2), .int (nI i), .ref g]) rfl ?_
        refine call_V (n := 3) (k0 := k1) (As := [.int (nI i), .int (nI y3_2), .long (f_2 (j * 5 + y3_2))]) (rest := []) hX hB (k_X7_put κ l (wU κ w k2 b (R * 5) f_2) k1 k2 g b R C f_2 (nI i) i (nI y3_2) y3_2 (f_2 (j * 5 + y3_2)) (wU1 h1 h2) (wU2 h2) hs rfl rfl (by omega)) ⟨rfl, by decide, by decide, by decide +kernel⟩ wm_5_221 wm_5_222 wm_5_223 wm_1_7 wm_5_224 ⟨Nat.le_of_ble_eq_true rfl, Nat.le_of_ble_eq_true rfl⟩ ⟨Nat.le_of_ble_eq_true rfl, Nat.le_of_ble_eq_true rfl⟩ (wU1 h1 h2) rfl rfl rfl hl.1 rfl (Nat.le_of_ble_eq_true rfl) dX7_exchangeRows_27 (fun o w' H locs hp hB => ?_)
        obtain ⟨rfl, hw9⟩ := hp
        replace hB : Bd κ A s (wU κ w k2 b (R * 5) (vp_updL f_2 (i * 5 + y3_2) (f_2 (j * 5 + y3_2)))) H locs := by rw [hw9, wUU] at hB; exact hB
        refine W.eq (g2 := F0 m 30 ls []) rfl ?_
        refine lv_aload_n hx hb dX7_exchangeRows_30 rfl (lv_at hl 2 rfl) ?_
        refine lv_iload_n hx hb dX7_exchangeRows_31 rfl (lv_at hl 4 rfl) ?_
        refine lv_iload_n hx hb dX7_exchangeRows_32 rfl (lv_at hl 1 rfl) ?_
        refine lv_lload hx hb dX7_exchangeRows_33 (lv_at hl 0 rfl) ?_
        refine call_V (n := 3) (k0 := k1) (As := [.int (nI j), .int (nI y3_2), .long (f_2 (i * 5 + y3_2))]) (rest := []) hX hB (k_X7_put κ l (wU κ w k2 b (R * 5) (vp_updL f_2 (i * 5 + y3_2) (f_2 (j * 5 + y3_2)))) k1 k2 g b R C (vp_updL f_2 (i * 5 + y3_2) (f_2 (j * 5 + y3_2))) (nI j) j (nI y3_2) y3_2 (f_2 (i * 5 + y3_2)) (wU1 h1 h2) (wU2 h2) hs rfl rfl (by omega)) ⟨rfl, by decide, by decide, by decide +kernel⟩ wm_5_221 wm_5_222 wm_5_223 wm_1_7 wm_5_224 ⟨Nat.le_of_ble_eq_true rfl, Nat.le_of_ble_eq_true rfl⟩ ⟨Nat.le_of_ble_eq_true rfl, Nat.le_of_ble_eq_true rfl⟩ (wU1 h1 h2) rfl rfl rfl hl.1 rfl (Nat.le_of_ble_eq_true rfl) dX7_exchangeRows_35 (fun o w' H locs hp hB => ?_)
        obtain ⟨rfl, hw9⟩ := hp
        replace hB : Bd κ A s (wU κ w k2 b (R * 5) (vp_updL (vp_updL f_2 (i * 5 + y3_2) (f_2 (j * 5 + y3_2))) (j * 5 + y3_2) (f_2 (i * 5 + y3_2)))) H locs := by rw [hw9, wUU] at hB; exact hB
        refine W.eq (g2 := F0 m 38 ls []) rfl ?_
        refine lv_iinc (v := nI (y3_2 + 1)) (lv' := [(3, .int (nI (y3_2 + 1))), (4, .long (f_2 (i * 5 + y3_2))), (0, .ref g), (1, .int (nI i)), (2, .int (nI j))]) hx hb dX7_exchangeRows_38 hl (k := 1) rfl (nI_add y3_2 1) (by decide) rfl (fun ls hl => ?_)
        refine lv_goto (tgt := 2) hx hb dX7_exchangeRows_41 (by decide) ?_
        exact ih2 (y3_2 + 1) (vp_updL (vp_updL f_2 (i * 5 + y3_2) (f_2 (j * 5 + y3_2))) (j * 5 + y3_2) (f_2 (i * 5 + y3_2))) _ _ (by omega) (by rw [hi_2]; exact xr_step (by omega) (by omega) (by omega)) (by omega) hB _ (lv_sub hl [0, 2, 3, 4] rfl)
  exact lp2 _ 0 f _ _ (by omega) ((xr0).symm) (Nat.lt_succ_self _) hB _ hl
set_option maxHeartbeats 4000000 in
set_option maxRecDepth 100000 in
theorem k_X7_exchangeColumns (κ : Kt) (l : Launch) (w : va_W) (k1 k2 g b R C : Nat) (f : Nat → Int64) (xi : Int32) (i : Nat) (xj : Int32) (j : Nat) (h1 : w[k1]? = some (gO g R C b)) (h2 : w[k2]? = some (lA κ b (R * 5) f)) (hs : shp R C) (hxi : xi = nI i) (hxj : xj = nI j) (hi : i < 5) (hj : j < 5) : CM κ l yX7_exchangeColumns cX7_exchangeColumns 6 (none) 1 24 0 0 [.ref g, .int xi, .int xj] (w) (fun o w' => o = none ∧ w' = wU κ w k2 b (R * 5) (xc R i j f)) := by
  have hs0 := hs
  obtain ⟨hs1, hs2, hs3, hs4⟩ := hs0
  subst hxi
  subst hxj
  refine CM_begin (plainFor_of_name (by decide)) (Nat.le_of_ble_eq_true rfl) ?_
  intro p e s m args below meth c A Q hX hnm hA3 hQ hB ls hl
  have hx := hX.1.1
  have hb := hX.1.2.1
  have hl : lv_has ls 6 [(0, .ref g), (1, .int (nI i)), (2, .int (nI j))] := hl
  have hB : Bd κ A s (wU κ w k2 b (R * 5) f) s.heap [] := by rw [wU0 h2]; exact hB
  
  refine lv_iconst (v := 0) hx hb dX7_exchangeColumns_0 (by decide) ?_
  refine lv_istore_n (lv' := [(3, .int 0), (0, .ref g), (1, .int (nI i)), (2, .int (nI j))]) hx hb dX7_exchangeColumns_1 rfl hl (by decide) rfl (fun ls hl => ?_)
  have lp2 : ∀ (nn2 : Nat) (y3_2 : Nat) (f_2 : Nat → Int64) (H : Heap) (locs : List Loc), (y3_2 ≤ R) → (f_2 = xc y3_2 i j f) → R + 1 - y3_2 < nn2 → Bd κ A s (wU κ w k2 b (R * 5) f_2) H locs → ∀ ls : Array Slot, lv_has ls 6 [(3, .int (nI y3_2)), (0, .ref g), (1, .int (nI i)), (2, .int (nI j))] → W p l e (Rm 1 24 0 0) s m args below meth c H locs (0) (0) Q (F0 m 2 ls []) := by
    intro nn2
    induction nn2 with
    | zero => intro y3_2 f_2 H locs hn3_2 hi_2 hμ; exact absurd hμ (Nat.not_lt_zero _)
    | succ nn2 ih2 =>
      intro y3_2 f_2 H locs hn3_2 hi_2 hμ2 hB ls hl
      refine lv_iload_n hx hb dX7_exchangeColumns_2 rfl (lv_at hl 0 rfl) ?_
      refine lv_aload_n hx hb dX7_exchangeColumns_3 rfl (lv_at hl 1 rfl) ?_
      refine gf (k0 := k1) hX hB (wU1 h1 h2) rfl in7 0 (by decide) wm_5_145 rfl rfl dX7_exchangeColumns_4 ?_
      refine lv_icmp_ge (tgt := 44) hx hb dX7_exchangeColumns_7 (by decide) (fun c3 => ?_) (fun c3 => ?_)
      · rw [nleP (a := R) (b := y3_2) (by omega) (by omega)] at c3
        rw [← hQ]
        exact end_v hX hB hA3 rfl ⟨rfl, (by rw [hi_2, show y3_2 = R by omega])⟩ (Nat.le_of_ble_eq_true rfl) (Nat.le_of_ble_eq_true rfl) dX7_exchangeColumns_44
      · rw [nleP (a := R) (b := y3_2) (by omega) (by omega)] at c3
        refine lv_aload_n hx hb dX7_exchangeColumns_10 rfl (lv_at hl 1 rfl) ?_
        refine lv_iload_n hx hb dX7_exchangeColumns_11 rfl (lv_at hl 0 rfl) ?_
        refine lv_iload_n hx hb dX7_exchangeColumns_12 rfl (lv_at hl 2 rfl) ?_
        refine call_V (n := 2) (k0 := k1) (As := [.int (nI y3_2), .int (nI i)]) (rest := []) hX hB (k_X7_at κ l (wU κ w k2 b (R * 5) f_2) k1 k2 g b R C f_2 (nI y3_2) y3_2 (nI i) i (wU1 h1 h2) (wU2 h2) hs rfl rfl (by omega)) ⟨rfl, by decide, by decide, by decide +kernel⟩ wm_6_50 wm_5_238 wm_5_239 wm_1_7 wm_6_0 ⟨Nat.le_of_ble_eq_true rfl, Nat.le_of_ble_eq_true rfl⟩ ⟨Nat.le_of_ble_eq_true rfl, Nat.le_of_ble_eq_true rfl⟩ (wU1 h1 h2) rfl rfl rfl hl.1 rfl (Nat.le_of_ble_eq_true rfl) dX7_exchangeColumns_13 (fun o w' H locs hp hB => ?_)
        obtain ⟨rfl, hw9⟩ := hp
        replace hB : Bd κ A s (wU κ w k2 b (R * 5) f_2) H locs := by rw [hw9] at hB; exact hB
        refine W.eq (g2 := F0 m 16 ls [.long (f_2 (y3_2 * 5 + i))]) rfl ?_
        refine lv_lstore (lv' := [(4, .long (f_2 (y3_2 * 5 + i))), (3, .int (nI y3_2)), (0, .ref g), (1, .int (nI i)), (2, .int (nI j))]) hx hb dX7_exchangeColumns_16 hl (by decide) rfl (fun ls hl => ?_)
        refine lv_aload_n hx hb dX7_exchangeColumns_18 rfl (lv_at hl 2 rfl) ?_
        refine lv_iload_n hx hb dX7_exchangeColumns_19 rfl (lv_at hl 1 rfl) ?_
        refine lv_iload_n hx hb dX7_exchangeColumns_20 rfl (lv_at hl 3 rfl) ?_
        refine lv_aload_n hx hb dX7_exchangeColumns_21 rfl (lv_at hl 2 rfl) ?_
        refine lv_iload_n hx hb dX7_exchangeColumns_22 rfl (lv_at hl 1 rfl) ?_
        refine lv_iload_n hx hb dX7_exchangeColumns_23 rfl (lv_at hl 4 rfl) ?_
        refine call_V (n := 2) (k0 := k1) (As := [.int (nI y3_2), .int (nI j)]) (rest := [.int (nI i), .int (nI y3_2), .ref g]) hX hB (k_X7_at κ l (wU κ w k2 b (R * 5) f_2) k1 k2 g b R C f_2 (nI y3_2) y3_2 (nI j) j (wU1 h1 h2) (wU2 h2) hs rfl rfl (by omega)) ⟨rfl, by decide, by decide, by decide +kernel⟩ wm_6_50 wm_5_238 wm_5_239 wm_1_7 wm_6_0 ⟨Nat.le_of_ble_eq_true rfl, Nat.le_of_ble_eq_true rfl⟩ ⟨Nat.le_of_ble_eq_true rfl, Nat.le_of_ble_eq_true rfl⟩ (wU1 h1 h2) rfl rfl rfl hl.1 rfl (Nat.le_of_ble_eq_true rfl) dX7_exchangeColumns_24 (fun o w' H locs hp hB => ?_)
        obtain ⟨rfl, hw9⟩ := hp
        replace hB : Bd κ A s (wU κ w k2 b (R * 5) f_2) H locs := by rw [hw9] at hB; exact hB
        refine W.eq (g2 := F0 m 27 ls [.long (f_2 (y3_2 * 5 + j)), .int (nI i), .int (nI y3_2), .ref g]) rfl ?_
        refine call_V (n := 3) (k0 := k1) (As := [.int (nI y3_2), .int (nI i), .long (f_2 (y3_2 * 5 + j))]) (rest := []) hX hB (k_X7_put κ l (wU κ w k2 b (R * 5) f_2) k1 k2 g b R C f_2 (nI y3_2) y3_2 (nI i) i (f_2 (y3_2 * 5 + j)) (wU1 h1 h2) (wU2 h2) hs rfl rfl (by omega)) ⟨rfl, by decide, by decide, by decide +kernel⟩ wm_5_221 wm_5_222 wm_5_223 wm_1_7 wm_5_224 ⟨Nat.le_of_ble_eq_true rfl, Nat.le_of_ble_eq_true rfl⟩ ⟨Nat.le_of_ble_eq_true rfl, Nat.le_of_ble_eq_true rfl⟩ (wU1 h1 h2) rfl rfl rfl hl.1 rfl (Nat.le_of_ble_eq_true rfl) dX7_exchangeColumns_27 (fun o w' H locs hp hB => ?_)
        obtain ⟨rfl, hw9⟩ := hp
        replace hB : Bd κ A s (wU κ w k2 b (R * 5) (vp_updL f_2 (y3_2 * 5 + i) (f_2 (y3_2 * 5 + j)))) H locs := by rw [hw9, wUU] at hB; exact hB
        refine W.eq (g2 := F0 m 30 ls []) rfl ?_
        refine lv_aload_n hx hb dX7_exchangeColumns_30 rfl (lv_at hl 2 rfl) ?_
        refine lv_iload_n hx hb dX7_exchangeColumns_31 rfl (lv_at hl 1 rfl) ?_
        refine lv_iload_n hx hb dX7_exchangeColumns_32 rfl (lv_at hl 4 rfl) ?_
        refine lv_lload hx hb dX7_exchangeColumns_33 (lv_at hl 0 rfl) ?_
        refine call_V (n := 3) (k0 := k1) (As := [.int (nI y3_2), .int (nI j), .long (f_2 (y3_2 * 5 + i))]) (rest := []) hX hB (k_X7_put κ l (wU κ w k2 b (R * 5) (vp_updL f_2 (y3_2 * 5 + i) (f_2 (y3_2 * 5 + j)))) k1 k2 g b R C (vp_updL f_2 (y3_2 * 5 + i) (f_2 (y3_2 * 5 + j))) (nI y3_2) y3_2 (nI j) j (f_2 (y3_2 * 5 + i)) (wU1 h1 h2) (wU2 h2) hs rfl rfl (by omega)) ⟨rfl, by decide, by decide, by decide +kernel⟩ wm_5_221 wm_5_222 wm_5_223 wm_1_7 wm_5_224 ⟨Nat.le_of_ble_eq_true rfl, Nat.le_of_ble_eq_true rfl⟩ ⟨Nat.le_of_ble_eq_true rfl, Nat.le_of_ble_eq_true rfl⟩ (wU1 h1 h2) rfl rfl rfl hl.1 rfl (Nat.le_of_ble_eq_true rfl) dX7_exchangeColumns_35 (fun o w' H locs hp hB => ?_)
        obtain ⟨rfl, hw9⟩ := hp
        replace hB : Bd κ A s (wU κ w k2 b (R * 5) (vp_updL (vp_updL f_2 (y3_2 * 5 + i) (f_2 (y3_2 * 5 + j))) (y3_2 * 5 + j) (f_2 (y3_2 * 5 + i)))) H locs := by rw [hw9, wUU] at hB; exact hB
        refine W.eq (g2 := F0 m 38 ls []) rfl ?_
        refine lv_iinc (v := nI (y3_2 + 1)) (lv' := [(3, .int (nI (y3_2 + 1))), (4, .long (f_2 (y3_2 * 5 + i))), (0, .ref g), (1, .int (nI i)), (2, .int (nI j))]) hx hb dX7_exchangeColumns_38 hl (k := 1) rfl (nI_add y3_2 1) (by decide) rfl (fun ls hl => ?_)
        refine lv_goto (tgt := 2) hx hb dX7_exchangeColumns_41 (by decide) ?_
        exact ih2 (y3_2 + 1) (vp_updL (vp_updL f_2 (y3_2 * 5 + i) (f_2 (y3_2 * 5 + j))) (y3_2 * 5 + j) (f_2 (y3_2 * 5 + i))) _ _ (by omega) (by rw [hi_2]; exact xc_step (by omega) (by omega) (by omega)) (by omega) hB _ (lv_sub hl [0, 2, 3, 4] rfl)
  exact lp2 _ 0 f _ _ (by omega) ((xc0).symm) (Nat.lt_succ_self _) hB _ hl
set_option maxHeartbeats 4000000 in
set_option maxRecDepth 100000 in
theorem k_X7_turnRow (κ : Kt) (l : Launch) (w : va_W) (k1 k2 g b R C : Nat) (f : Nat → Int64) (xi : Int32) (i : Nat) (h1 : w[k1]? = some (gO g R C b)) (h2 : w[k2]? = some (lA κ b (R * 5) f)) (hs : shp R C) (hxi : xi = nI i) (hi : i < R) : CM κ l yX7_turnRow cX7_turnRow 3 (none) 1 24 0 0 [.ref g, .int xi] (w) (fun o w' => o = none ∧ w' = wU κ w k2 b (R * 5) (tr C i f)) := by
  have hs0 := hs
  obtain ⟨hs1, hs2, hs3, hs4⟩ := hs0
  subst hxi
  refine CM_begin (plainFor_of_name (by decide)) (Nat.le_of_ble_eq_true rfl) ?_
  intro p e s m args below meth c A Q hX hnm hA3 hQ hB ls hl
  have hx := hX.1.1
  have hb := hX.1.2.1
  have hl : lv_has ls 3 [(0, .ref g), (1, .int (nI i))] := hl
  have hB : Bd κ A s (wU κ w k2 b (R * 5) f) s.heap [] := by rw [wU0 h2]; exact hB
  
  refine lv_iconst (v := 0) hx hb dX7_turnRow_0 (by decide) ?_
  refine lv_istore_n (lv' := [(2, .int 0), (0, .ref g), (1, .int (nI i))]) hx hb dX7_turnRow_1 rfl hl (by decide) rfl (fun ls hl => ?_)
  have lp2 : ∀ (nn2 : Nat) (y2_2 : Nat) (f_2 : Nat → Int64) (H : Heap) (locs : List Loc), (y2_2 ≤ C) → (f_2 = tr y2_2 i f) → C + 1 - y2_2 < nn2 → Bd κ A s (wU κ w k2 b (R * 5) f_2) H locs → ∀ ls : Array Slot, lv_has ls 3 [(2, .int (nI y2_2)), (0, .ref g), (1, .int (nI i))] → W p l e (Rm 1 24 0 0) s m args below meth c H locs (0) (0) Q (F0 m 2 ls []) := by
    intro nn2
    induction nn2 with
    | zero => intro y2_2 f_2 H locs hn2_2 hi_2 hμ; exact absurd hμ (Nat.not_lt_zero _)
    | succ nn2 ih2 =>
      intro y2_2 f_2 H locs hn2_2 hi_2 hμ2 hB ls hl
      refine lv_iload_n hx hb dX7_turnRow_2 rfl (lv_at hl 0 rfl) ?_
      refine lv_aload_n hx hb dX7_turnRow_3 rfl (lv_at hl 1 rfl) ?_
      refine gf (k0 := k1) hX hB (wU1 h1 h2) rfl in7 1 (by decide) wm_5_149 rfl rfl dX7_turnRow_4 ?_
      refine lv_icmp_ge (tgt := 29) hx hb dX7_turnRow_7 (by decide) (fun c3 => ?_) (fun c3 => ?_)
      · rw [nleP (a := C) (b := y2_2) (by omega) (by omega)] at c3
        rw [← hQ]
        exact end_v hX hB hA3 rfl ⟨rfl, (by rw [hi_2, show y2_2 = C by omega])⟩ (Nat.le_of_ble_eq_true rfl) (Nat.le_of_ble_eq_true rfl) dX7_turnRow_29
      · rw [nleP (a := C) (b := y2_2) (by omega) (by omega)] at c3
        refine lv_aload_n hx hb dX7_turnRow_10 rfl (lv_at hl 1 rfl) ?_
        refine lv_iload_n hx hb dX7_turnRow_11 rfl (lv_at hl 2 rfl) ?_
        refine lv_iload_n hx hb dX7_turnRow_12 rfl (lv_at hl 0 rfl) ?_
        refine lv_aload_n hx hb dX7_turnRow_13 rfl (lv_at hl 1 rfl) ?_
        refine lv_iload_n hx hb dX7_turnRow_14 rfl (lv_at hl 2 rfl) ?_
        refine lv_iload_n hx hb dX7_turnRow_15 rfl (lv_at hl 0 rfl) ?_
        refine call_V (n := 2) (k0 := k1) (As := [.int (nI i), .int (nI y2_2)]) (rest := [.int (nI y2_2), .int (nI i), .ref g]) hX hB (k_X7_at κ l (wU κ w k2 b (R * 5) f_2) k1 k2 g b R C f_2 (nI i) i (nI y2_2) y2_2 (wU1 h1 h2) (wU2 h2) hs rfl rfl (by omega)) ⟨rfl, by decide, by decide, by decide +kernel⟩ wm_6_50 wm_5_238 wm_5_239 wm_1_7 wm_6_0 ⟨Nat.le_of_ble_eq_true rfl, Nat.le_of_ble_eq_true rfl⟩ ⟨Nat.le_of_ble_eq_true rfl, Nat.le_of_ble_eq_true rfl⟩ (wU1 h1 h2) rfl rfl rfl hl.1 rfl (Nat.le_of_ble_eq_true rfl) dX7_turnRow_16 (fun o w' H locs hp hB => ?_)
        obtain ⟨rfl, hw9⟩ := hp
        replace hB : Bd κ A s (wU κ w k2 b (R * 5) f_2) H locs := by rw [hw9] at hB; exact hB
        refine W.eq (g2 := F0 m 19 ls [.long (f_2 (i * 5 + y2_2)), .int (nI y2_2), .int (nI i), .ref g]) rfl ?_
        refine lv_lneg hx hb dX7_turnRow_19 ?_
        refine call_V (n := 3) (k0 := k1) (As := [.int (nI i), .int (nI y2_2), .long (-(f_2 (i * 5 + y2_2)))]) (rest := []) hX hB (k_X7_put κ l (wU κ w k2 b (R * 5) f_2) k1 k2 g b R C f_2 (nI i) i (nI y2_2) y2_2 (-(f_2 (i * 5 + y2_2))) (wU1 h1 h2) (wU2 h2) hs rfl rfl (by omega)) ⟨rfl, by decide, by decide, by decide +kernel⟩ wm_5_221 wm_5_222 wm_5_223 wm_1_7 wm_5_224 ⟨Nat.le_of_ble_eq_true rfl, Nat.le_of_ble_eq_true rfl⟩ ⟨Nat.le_of_ble_eq_true rfl, Nat.le_of_ble_eq_true rfl⟩ (wU1 h1 h2) rfl rfl rfl hl.1 rfl (Nat.le_of_ble_eq_true rfl) dX7_turnRow_20 (fun o w' H locs hp hB => ?_)
        obtain ⟨rfl, hw9⟩ := hp
        replace hB : Bd κ A s (wU κ w k2 b (R * 5) (vp_updL f_2 (i * 5 + y2_2) (-(f_2 (i * 5 + y2_2))))) H locs := by rw [hw9, wUU] at hB; exact hB
        refine W.eq (g2 := F0 m 23 ls []) rfl ?_
        refine lv_iinc (v := nI (y2_2 + 1)) (lv' := [(2, .int (nI (y2_2 + 1))), (0, .ref g), (1, .int (nI i))]) hx hb dX7_turnRow_23 hl (k := 0) rfl (nI_add y2_2 1) (by decide) rfl (fun ls hl => ?_)
        refine lv_goto (tgt := 2) hx hb dX7_turnRow_26 (by decide) ?_
        exact ih2 (y2_2 + 1) (vp_updL f_2 (i * 5 + y2_2) (-(f_2 (i * 5 + y2_2)))) _ _ (by omega) (by rw [hi_2]; exact tr_step (by omega) (by omega) (by omega)) (by omega) hB _ hl
  exact lp2 _ 0 f _ _ (by omega) ((tr0).symm) (Nat.lt_succ_self _) hB _ hl
set_option maxHeartbeats 4000000 in
set_option maxRecDepth 100000 in
theorem k_X7_addRow (κ : Kt) (l : Launch) (w : va_W) (k1 k2 g b R C : Nat) (f : Nat → Int64) (xi : Int32) (i : Nat) (xj : Int32) (j : Nat) (t : Int64) (h1 : w[k1]? = some (gO g R C b)) (h2 : w[k2]? = some (lA κ b (R * 5) f)) (hs : shp R C) (hxi : xi = nI i) (hxj : xj = nI j) (hi : i < R) (hj : j < R) (hne : i ≠ j) : CM κ l yX7_addRow cX7_addRow 6 (none) 1 24 0 0 [.ref g, .int xi, .int xj, .long t] (w) (fun o w' => o = none ∧ w' = wU κ w k2 b (R * 5) (ar C i j t f)) := by
  have hs0 := hs
  obtain ⟨hs1, hs2, hs3, hs4⟩ := hs0
  subst hxi
  subst hxj
  refine CM_begin (plainFor_of_name (by decide)) (Nat.le_of_ble_eq_true rfl) ?_
  intro p e s m args below meth c A Q hX hnm hA3 hQ hB ls hl
  have hx := hX.1.1
  have hb := hX.1.2.1
  have hl : lv_has ls 6 [(0, .ref g), (1, .int (nI i)), (2, .int (nI j)), (3, .long t)] := hl
  have hB : Bd κ A s (wU κ w k2 b (R * 5) f) s.heap [] := by rw [wU0 h2]; exact hB
  
  refine lv_iconst (v := 0) hx hb dX7_addRow_0 (by decide) ?_
  refine lv_istore (lv' := [(5, .int 0), (0, .ref g), (1, .int (nI i)), (2, .int (nI j)), (3, .long t)]) hx hb dX7_addRow_1 hl (by decide) rfl (fun ls hl => ?_)
  have lp3 : ∀ (nn3 : Nat) (y5_3 : Nat) (f_3 : Nat → Int64) (H : Heap) (locs : List Loc), (y5_3 ≤ C) → (f_3 = ar y5_3 i j t f) → C + 1 - y5_3 < nn3 → Bd κ A s (wU κ w k2 b (R * 5) f_3) H locs → ∀ ls : Array Slot, lv_has ls 6 [(5, .int (nI y5_3)), (0, .ref g), (1, .int (nI i)), (2, .int (nI j)), (3, .long t)] → W p l e (Rm 1 24 0 0) s m args below meth c H locs (0) (0) Q (F0 m 3 ls []) := by
    intro nn3
    induction nn3 with
    | zero => intro y5_3 f_3 H locs hn5_3 hi_3 hμ; exact absurd hμ (Nat.not_lt_zero _)
    | succ nn3 ih3 =>
      intro y5_3 f_3 H locs hn5_3 hi_3 hμ3 hB ls hl
      refine lv_iload hx hb dX7_addRow_3 (lv_at hl 0 rfl) ?_
      refine lv_aload_n hx hb dX7_addRow_5 rfl (lv_at hl 1 rfl) ?_
      refine gf (k0 := k1) hX hB (wU1 h1 h2) rfl in7 1 (by decide) wm_5_149 rfl rfl dX7_addRow_6 ?_
      refine lv_icmp_ge (tgt := 42) hx hb dX7_addRow_9 (by decide) (fun c3 => ?_) (fun c3 => ?_)
      · rw [nleP (a := C) (b := y5_3) (by omega) (by omega)] at c3
        rw [← hQ]
        exact end_v hX hB hA3 rfl ⟨rfl, (by rw [hi_3, show y5_3 = C by omega])⟩ (Nat.le_of_ble_eq_true rfl) (Nat.le_of_ble_eq_true rfl) dX7_addRow_42
      · rw [nleP (a := C) (b := y5_3) (by omega) (by omega)] at c3
        refine lv_aload_n hx hb dX7_addRow_12 rfl (lv_at hl 1 rfl) ?_
        refine lv_iload_n hx hb dX7_addRow_13 rfl (lv_at hl 2 rfl) ?_
        refine lv_iload hx hb dX7_addRow_14 (lv_at hl 0 rfl) ?_
        refine lv_aload_n hx hb dX7_addRow_16 rfl (lv_at hl 1 rfl) ?_
        refine lv_iload_n hx hb dX7_addRow_17 rfl (lv_at hl 2 rfl) ?_
        refine lv_iload hx hb dX7_addRow_18 (lv_at hl 0 rfl) ?_
        refine call_V (n := 2) (k0 := k1) (As := [.int (nI i), .int (nI y5_3)]) (rest := [.int (nI y5_3), .int (nI i), .ref g]) hX hB (k_X7_at κ l (wU κ w k2 b (R * 5) f_3) k1 k2 g b R C f_3 (nI i) i (nI y5_3) y5_3 (wU1 h1 h2) (wU2 h2) hs rfl rfl (by omega)) ⟨rfl, by decide, by decide, by decide +kernel⟩ wm_6_50 wm_5_238 wm_5_239 wm_1_7 wm_6_0 ⟨Nat.le_of_ble_eq_true rfl, Nat.le_of_ble_eq_true rfl⟩ ⟨Nat.le_of_ble_eq_true rfl, Nat.le_of_ble_eq_true rfl⟩ (wU1 h1 h2) rfl rfl rfl hl.1 rfl (Nat.le_of_ble_eq_true rfl) dX7_addRow_20 (fun o w' H locs hp hB => ?_)
        obtain ⟨rfl, hw9⟩ := hp
        replace hB : Bd κ A s (wU κ w k2 b (R * 5) f_3) H locs := by rw [hw9] at hB; exact hB
        refine W.eq (g2 := F0 m 23 ls [.long (f_3 (i * 5 + y5_3)), .int (nI y5_3), .int (nI i), .ref g]) rfl ?_
        refine lv_lload_n hx hb dX7_addRow_23 rfl (lv_at hl 4 rfl) ?_
        refine lv_aload_n hx hb dX7_addRow_24 rfl (lv_at hl 1 rfl) ?_
        refine lv_iload_n hx hb dX7_addRow_25 rfl (lv_at hl 3 rfl) ?_
        refine lv_iload hx hb dX7_addRow_26 (lv_at hl 0 rfl) ?_
        refine call_V (n := 2) (k0 := k1) (As := [.int (nI j), .int (nI y5_3)]) (rest := [.long t, .long (f_3 (i * 5 + y5_3)), .int (nI y5_3), .int (nI i), .ref g]) hX hB (k_X7_at κ l (wU κ w k2 b (R * 5) f_3) k1 k2 g b R C f_3 (nI j) j (nI y5_3) y5_3 (wU1 h1 h2) (wU2 h2) hs rfl rfl (by omega)) ⟨rfl, by decide, by decide, by decide +kernel⟩ wm_6_50 wm_5_238 wm_5_239 wm_1_7 wm_6_0 ⟨Nat.le_of_ble_eq_true rfl, Nat.le_of_ble_eq_true rfl⟩ ⟨Nat.le_of_ble_eq_true rfl, Nat.le_of_ble_eq_true rfl⟩ (wU1 h1 h2) rfl rfl rfl hl.1 rfl (Nat.le_of_ble_eq_true rfl) dX7_addRow_28 (fun o w' H locs hp hB => ?_)
        obtain ⟨rfl, hw9⟩ := hp
        replace hB : Bd κ A s (wU κ w k2 b (R * 5) f_3) H locs := by rw [hw9] at hB; exact hB
        refine W.eq (g2 := F0 m 31 ls [.long (f_3 (j * 5 + y5_3)), .long t, .long (f_3 (i * 5 + y5_3)), .int (nI y5_3), .int (nI i), .ref g]) rfl ?_
        refine lv_lmul hx hb dX7_addRow_31 ?_
        refine lv_ladd hx hb dX7_addRow_32 ?_
        refine call_V (n := 3) (k0 := k1) (As := [.int (nI i), .int (nI y5_3), .long ((f_3 (i * 5 + y5_3)) + (t * (f_3 (j * 5 + y5_3))))]) (rest := []) hX hB (k_X7_put κ l (wU κ w k2 b (R * 5) f_3) k1 k2 g b R C f_3 (nI i) i (nI y5_3) y5_3 ((f_3 (i * 5 + y5_3)) + (t * (f_3 (j * 5 + y5_3)))) (wU1 h1 h2) (wU2 h2) hs rfl rfl (by omega)) ⟨rfl, by decide, by decide, by decide +kernel⟩ wm_5_221 wm_5_222 wm_5_223 wm_1_7 wm_5_224 ⟨Nat.le_of_ble_eq_true rfl, Nat.le_of_ble_eq_true rfl⟩ ⟨Nat.le_of_ble_eq_true rfl, Nat.le_of_ble_eq_true rfl⟩ (wU1 h1 h2) rfl rfl rfl hl.1 rfl (Nat.le_of_ble_eq_true rfl) dX7_addRow_33 (fun o w' H locs hp hB => ?_)
        obtain ⟨rfl, hw9⟩ := hp
        replace hB : Bd κ A s (wU κ w k2 b (R * 5) (vp_updL f_3 (i * 5 + y5_3) ((f_3 (i * 5 + y5_3)) + (t * (f_3 (j * 5 + y5_3)))))) H locs := by rw [hw9, wUU] at hB; exact hB
        refine W.eq (g2 := F0 m 36 ls []) rfl ?_
        refine lv_iinc (v := nI (y5_3 + 1)) (lv' := [(5, .int (nI (y5_3 + 1))), (0, .ref g), (1, .int (nI i)), (2, .int (nI j)), (3, .long t)]) hx hb dX7_addRow_36 hl (k := 0) rfl (nI_add y5_3 1) (by decide) rfl (fun ls hl => ?_)
        refine lv_goto (tgt := 3) hx hb dX7_addRow_39 (by decide) ?_
        exact ih3 (y5_3 + 1) (vp_updL f_3 (i * 5 + y5_3) ((f_3 (i * 5 + y5_3)) + (t * (f_3 (j * 5 + y5_3))))) _ _ (by omega) (by rw [hi_3]; exact ar_step (by omega) (by omega) (by omega)) (by omega) hB _ hl
  exact lp3 _ 0 f _ _ (by omega) ((ar0).symm) (Nat.lt_succ_self _) hB _ hl
set_option maxHeartbeats 4000000 in
set_option maxRecDepth 100000 in
theorem k_X7_addColumn (κ : Kt) (l : Launch) (w : va_W) (k1 k2 g b R C : Nat) (f : Nat → Int64) (xi : Int32) (i : Nat) (xj : Int32) (j : Nat) (t : Int64) (h1 : w[k1]? = some (gO g R C b)) (h2 : w[k2]? = some (lA κ b (R * 5) f)) (hs : shp R C) (hxi : xi = nI i) (hxj : xj = nI j) (hi : i < 5) (hj : j < 5) (hne : i ≠ j) : CM κ l yX7_addColumn cX7_addColumn 6 (none) 1 24 0 0 [.ref g, .int xi, .int xj, .long t] (w) (fun o w' => o = none ∧ w' = wU κ w k2 b (R * 5) (ac R i j t f)) := by
  have hs0 := hs
  obtain ⟨hs1, hs2, hs3, hs4⟩ := hs0
  subst hxi
  subst hxj
  refine CM_begin (plainFor_of_name (by decide)) (Nat.le_of_ble_eq_true rfl) ?_
  intro p e s m args below meth c A Q hX hnm hA3 hQ hB ls hl
  have hx := hX.1.1
  have hb := hX.1.2.1
  have hl : lv_has ls 6 [(0, .ref g), (1, .int (nI i)), (2, .int (nI j)), (3, .long t)] := hl
  have hB : Bd κ A s (wU κ w k2 b (R * 5) f) s.heap [] := by rw [wU0 h2]; exact hB
  
  refine lv_iconst (v := 0) hx hb dX7_addColumn_0 (by decide) ?_
  refine lv_istore (lv' := [(5, .int 0), (0, .ref g), (1, .int (nI i)), (2, .int (nI j)), (3, .long t)]) hx hb dX7_addColumn_1 hl (by decide) rfl (fun ls hl => ?_)
  have lp3 : ∀ (nn3 : Nat) (y5_3 : Nat) (f_3 : Nat → Int64) (H : Heap) (locs : List Loc), (y5_3 ≤ R) → (f_3 = ac y5_3 i j t f) → R + 1 - y5_3 < nn3 → Bd κ A s (wU κ w k2 b (R * 5) f_3) H locs → ∀ ls : Array Slot, lv_has ls 6 [(5, .int (nI y5_3)), (0, .ref g), (1, .int (nI i)), (2, .int (nI j)), (3, .long t)] → W p l e (Rm 1 24 0 0) s m args below meth c H locs (0) (0) Q (F0 m 3 ls []) := by
    intro nn3
    induction nn3 with
    | zero => intro y5_3 f_3 H locs hn5_3 hi_3 hμ; exact absurd hμ (Nat.not_lt_zero _)
    | succ nn3 ih3 =>
      intro y5_3 f_3 H locs hn5_3 hi_3 hμ3 hB ls hl
      refine lv_iload hx hb dX7_addColumn_3 (lv_at hl 0 rfl) ?_
      refine lv_aload_n hx hb dX7_addColumn_5 rfl (lv_at hl 1 rfl) ?_
      refine gf (k0 := k1) hX hB (wU1 h1 h2) rfl in7 0 (by decide) wm_5_145 rfl rfl dX7_addColumn_6 ?_
      refine lv_icmp_ge (tgt := 42) hx hb dX7_addColumn_9 (by decide) (fun c3 => ?_) (fun c3 => ?_)
      · rw [nleP (a := R) (b := y5_3) (by omega) (by omega)] at c3
        rw [← hQ]
        exact end_v hX hB hA3 rfl ⟨rfl, (by rw [hi_3, show y5_3 = R by omega])⟩ (Nat.le_of_ble_eq_true rfl) (Nat.le_of_ble_eq_true rfl) dX7_addColumn_42
      · rw [nleP (a := R) (b := y5_3) (by omega) (by omega)] at c3
        refine lv_aload_n hx hb dX7_addColumn_12 rfl (lv_at hl 1 rfl) ?_
        refine lv_iload hx hb dX7_addColumn_13 (lv_at hl 0 rfl) ?_
        refine lv_iload_n hx hb dX7_addColumn_15 rfl (lv_at hl 2 rfl) ?_
        refine lv_aload_n hx hb dX7_addColumn_16 rfl (lv_at hl 1 rfl) ?_
        refine lv_iload hx hb dX7_addColumn_17 (lv_at hl 0 rfl) ?_
        refine lv_iload_n hx hb dX7_addColumn_19 rfl (lv_at hl 2 rfl) ?_
        refine call_V (n := 2) (k0 := k1) (As := [.int (nI y5_3), .int (nI i)]) (rest := [.int (nI i), .int (nI y5_3), .ref g]) hX hB (k_X7_at κ l (wU κ w k2 b (R * 5) f_3) k1 k2 g b R C f_3 (nI y5_3) y5_3 (nI i) i (wU1 h1 h2) (wU2 h2) hs rfl rfl (by omega)) ⟨rfl, by decide, by decide, by decide +kernel⟩ wm_6_50 wm_5_238 wm_5_239 wm_1_7 wm_6_0 ⟨Nat.le_of_ble_eq_true rfl, Nat.le_of_ble_eq_true rfl⟩ ⟨Nat.le_of_ble_eq_true rfl, Nat.le_of_ble_eq_true rfl⟩ (wU1 h1 h2) rfl rfl rfl hl.1 rfl (Nat.le_of_ble_eq_true rfl) dX7_addColumn_20 (fun o w' H locs hp hB => ?_)
        obtain ⟨rfl, hw9⟩ := hp
        replace hB : Bd κ A s (wU κ w k2 b (R * 5) f_3) H locs := by rw [hw9] at hB; exact hB
        refine W.eq (g2 := F0 m 23 ls [.long (f_3 (y5_3 * 5 + i)), .int (nI i), .int (nI y5_3), .ref g]) rfl ?_
        refine lv_lload_n hx hb dX7_addColumn_23 rfl (lv_at hl 4 rfl) ?_
        refine lv_aload_n hx hb dX7_addColumn_24 rfl (lv_at hl 1 rfl) ?_
        refine lv_iload hx hb dX7_addColumn_25 (lv_at hl 0 rfl) ?_
        refine lv_iload_n hx hb dX7_addColumn_27 rfl (lv_at hl 3 rfl) ?_
        refine call_V (n := 2) (k0 := k1) (As := [.int (nI y5_3), .int (nI j)]) (rest := [.long t, .long (f_3 (y5_3 * 5 + i)), .int (nI i), .int (nI y5_3), .ref g]) hX hB (k_X7_at κ l (wU κ w k2 b (R * 5) f_3) k1 k2 g b R C f_3 (nI y5_3) y5_3 (nI j) j (wU1 h1 h2) (wU2 h2) hs rfl rfl (by omega)) ⟨rfl, by decide, by decide, by decide +kernel⟩ wm_6_50 wm_5_238 wm_5_239 wm_1_7 wm_6_0 ⟨Nat.le_of_ble_eq_true rfl, Nat.le_of_ble_eq_true rfl⟩ ⟨Nat.le_of_ble_eq_true rfl, Nat.le_of_ble_eq_true rfl⟩ (wU1 h1 h2) rfl rfl rfl hl.1 rfl (Nat.le_of_ble_eq_true rfl) dX7_addColumn_28 (fun o w' H locs hp hB => ?_)
        obtain ⟨rfl, hw9⟩ := hp
        replace hB : Bd κ A s (wU κ w k2 b (R * 5) f_3) H locs := by rw [hw9] at hB; exact hB
        refine W.eq (g2 := F0 m 31 ls [.long (f_3 (y5_3 * 5 + j)), .long t, .long (f_3 (y5_3 * 5 + i)), .int (nI i), .int (nI y5_3), .ref g]) rfl ?_
        refine lv_lmul hx hb dX7_addColumn_31 ?_
        refine lv_ladd hx hb dX7_addColumn_32 ?_
        refine call_V (n := 3) (k0 := k1) (As := [.int (nI y5_3), .int (nI i), .long ((f_3 (y5_3 * 5 + i)) + (t * (f_3 (y5_3 * 5 + j))))]) (rest := []) hX hB (k_X7_put κ l (wU κ w k2 b (R * 5) f_3) k1 k2 g b R C f_3 (nI y5_3) y5_3 (nI i) i ((f_3 (y5_3 * 5 + i)) + (t * (f_3 (y5_3 * 5 + j)))) (wU1 h1 h2) (wU2 h2) hs rfl rfl (by omega)) ⟨rfl, by decide, by decide, by decide +kernel⟩ wm_5_221 wm_5_222 wm_5_223 wm_1_7 wm_5_224 ⟨Nat.le_of_ble_eq_true rfl, Nat.le_of_ble_eq_true rfl⟩ ⟨Nat.le_of_ble_eq_true rfl, Nat.le_of_ble_eq_true rfl⟩ (wU1 h1 h2) rfl rfl rfl hl.1 rfl (Nat.le_of_ble_eq_true rfl) dX7_addColumn_33 (fun o w' H locs hp hB => ?_)
        obtain ⟨rfl, hw9⟩ := hp
        replace hB : Bd κ A s (wU κ w k2 b (R * 5) (vp_updL f_3 (y5_3 * 5 + i) ((f_3 (y5_3 * 5 + i)) + (t * (f_3 (y5_3 * 5 + j)))))) H locs := by rw [hw9, wUU] at hB; exact hB
        refine W.eq (g2 := F0 m 36 ls []) rfl ?_
        refine lv_iinc (v := nI (y5_3 + 1)) (lv' := [(5, .int (nI (y5_3 + 1))), (0, .ref g), (1, .int (nI i)), (2, .int (nI j)), (3, .long t)]) hx hb dX7_addColumn_36 hl (k := 0) rfl (nI_add y5_3 1) (by decide) rfl (fun ls hl => ?_)
        refine lv_goto (tgt := 3) hx hb dX7_addColumn_39 (by decide) ?_
        exact ih3 (y5_3 + 1) (vp_updL f_3 (y5_3 * 5 + i) ((f_3 (y5_3 * 5 + i)) + (t * (f_3 (y5_3 * 5 + j))))) _ _ (by omega) (by rw [hi_3]; exact ac_step (by omega) (by omega) (by omega)) (by omega) hB _ hl
  exact lp3 _ 0 f _ _ (by omega) ((ac0).symm) (Nat.lt_succ_self _) hB _ hl
noncomputable def D_X7_isGreat_10 (R : Nat) (f : Nat → Int64) (nn : Nat) : Nat → Int32 := @Nat.rec (fun _ => Nat → Int32) (fun _ => default) (fun _ lb10 (y3_10 : Nat) => (if (R * 5) ≤ y3_10 then 0 else (if 0 < (lg_cmp (f y3_10) 1000000000) then 1 else (if 0 ≤ (lg_cmp (f y3_10) (-1000000000)) then (lb10 (y3_10 + 1)) else 1)))) nn
theorem D_X7_isGreat_10_s {R : Nat} {f : Nat → Int64} {nn : Nat} {y3_10 : Nat} : D_X7_isGreat_10 R f (nn + 1) y3_10 = (if (R * 5) ≤ y3_10 then 0 else (if 0 < (lg_cmp (f y3_10) 1000000000) then 1 else (if 0 ≤ (lg_cmp (f y3_10) (-1000000000)) then ((D_X7_isGreat_10 R f nn) (y3_10 + 1)) else 1))) := rfl
noncomputable def D_X7_isGreat (R : Nat) (C : Nat) (f : Nat → Int64) : Int32 := (D_X7_isGreat_10 R f ((R * 5) + 1 - 0 + 1) 0)
theorem D_X7_isGreat_s {R : Nat} {C : Nat} {f : Nat → Int64} : D_X7_isGreat R C f = (D_X7_isGreat_10 R f ((R * 5) + 1 - 0 + 1) 0) := rfl
set_option maxHeartbeats 4000000 in
set_option maxRecDepth 100000 in
theorem k_X7_isGreat (κ : Kt) (l : Launch) (w : va_W) (k1 k2 g b R C : Nat) (f : Nat → Int64) (h1 : w[k1]? = some (gO g R C b)) (h2 : w[k2]? = some (lA κ b (R * 5) f)) (hs : shp R C) (o_x : Int32) (hR : D_X7_isGreat R C f = o_x) : CM κ l yX7_isGreat cX7_isGreat 6 (some .boolean) 0 0 0 0 [.ref g] (w) (fun o w' => o = some (.int o_x) ∧ (o_x = 0 ∨ o_x = 1) ∧ (o_x = 0 → ∀ k, k < R * 5 → ng (f k)) ∧ w' = w) := by
  have hs0 := hs
  obtain ⟨hs1, hs2, hs3, hs4⟩ := hs0
  refine CM_begin (plainFor_of_name (by decide)) (Nat.le_of_ble_eq_true rfl) ?_
  intro p e s m args below meth c A Q hX hnm hA3 hQ hB ls hl
  have hx := hX.1.1
  have hb := hX.1.2.1
  have hl : lv_has ls 6 [(0, .ref g)] := hl
  replace hR := (D_X7_isGreat_s).symm.trans hR
  refine lv_aload_n hx hb dX7_isGreat_0 rfl (lv_at hl 0 rfl) ?_
  refine gf (k0 := k1) hX hB h1 rfl in7 2 (by decide) wm_5_153 rfl rfl dX7_isGreat_1 ?_
  refine lv_astore_n (lv' := [(1, .ref b), (0, .ref g)]) hx hb dX7_isGreat_4 rfl hl (by decide) rfl (fun ls hl => ?_)
  refine lv_aload_n hx hb dX7_isGreat_5 rfl (lv_at hl 0 rfl) ?_
  refine alenL (k0 := k2) (v := nI (R * 5)) hX hB h2 rfl dX7_isGreat_6 ?_
  refine lv_istore_n (lv' := [(2, .int (nI (R * 5))), (1, .ref b), (0, .ref g)]) hx hb dX7_isGreat_7 rfl hl (by decide) rfl (fun ls hl => ?_)
  refine lv_iconst (v := 0) hx hb dX7_isGreat_8 (by decide) ?_
  refine lv_istore_n (lv' := [(3, .int 0), (2, .int (nI (R * 5))), (1, .ref b), (0, .ref g)]) hx hb dX7_isGreat_9 rfl hl (by decide) rfl (fun ls hl => ?_)
  have lp10 : ∀ (nn10 : Nat) (y3_10 : Nat) (H : Heap) (locs : List Loc), (y3_10 ≤ (R * 5)) → (∀ k, k < y3_10 → ng (f k)) → (R * 5) + 1 - y3_10 < nn10 → D_X7_isGreat_10 R f nn10 y3_10 = o_x → Bd κ A s (w) H locs → ∀ ls : Array Slot, lv_has ls 6 [(3, .int (nI y3_10)), (2, .int (nI (R * 5))), (1, .ref b), (0, .ref g)] → W p l e (Rm 0 0 0 0) s m args below meth c H locs (0) (0) Q (F0 m 10 ls []) := by
    intro nn10
    induction nn10 with
    | zero => intro y3_10 H locs hn3_10 hi_10 hμ; exact absurd hμ (Nat.not_lt_zero _)
    | succ nn10 ih10 =>
      intro y3_10 H locs hn3_10 hi_10 hμ10 hR hB ls hl
      replace hR := (D_X7_isGreat_10_s).symm.trans hR
      refine lv_iload_n hx hb dX7_isGreat_10 rfl (lv_at hl 0 rfl) ?_
      refine lv_iload_n hx hb dX7_isGreat_11 rfl (lv_at hl 1 rfl) ?_
      refine lv_icmp_ge (tgt := 46) hx hb dX7_isGreat_12 (by decide) (fun c7 => ?_) (fun c7 => ?_)
      · rw [nleP (a := R * 5) (b := y3_10) (by omega) (by omega)] at c7
        replace hR := ifp c7 hR
        refine lv_iconst (v := 0) hx hb dX7_isGreat_46 (by decide) ?_
        rw [← hQ]
        exact end_i hX hB hA3 rfl rfl (by obtain rfl := hR; exact ⟨rfl, (Or.inl rfl), (fun _ k hk => hi_10 k (by omega)), rfl⟩) (Nat.le_of_ble_eq_true rfl) (Nat.le_of_ble_eq_true rfl) dX7_isGreat_47
      · rw [nleP (a := R * 5) (b := y3_10) (by omega) (by omega)] at c7
        replace hR := ifn c7 hR
        refine lv_aload_n hx hb dX7_isGreat_15 rfl (lv_at hl 2 rfl) ?_
        refine lv_iload_n hx hb dX7_isGreat_16 rfl (lv_at hl 0 rfl) ?_
        refine laldN (k0 := k2) (k := y3_10) hX hB h2 (by omega) (by omega) dX7_isGreat_17 ?_
        refine lv_lstore (lv' := [(4, .long (f y3_10)), (3, .int (nI y3_10)), (2, .int (nI (R * 5))), (1, .ref b), (0, .ref g)]) hx hb dX7_isGreat_18 hl (by decide) rfl (fun ls hl => ?_)
        refine lv_lload hx hb dX7_isGreat_20 (lv_at hl 0 rfl) ?_
        refine lv_ldc2 (own := RX7) (v := 1000000000) hx hb hX.1.2.2.2.1 (hX.1.2.2.2.2 _ wm_6_157) dX7_isGreat_22 ?_
        refine W.lcmp hx hb dX7_isGreat_25 ?_
        refine lv_if_gt (tgt := 38) hx hb dX7_isGreat_26 (by decide) (fun c8 => ?_) (fun c8 => ?_)
        · replace hR := ifp c8 hR
          refine lv_iconst (v := 1) hx hb dX7_isGreat_38 (by decide) ?_
          rw [← hQ]
          exact end_i hX hB hA3 rfl rfl (by obtain rfl := hR; exact ⟨rfl, (Or.inr rfl), (fun h => absurd h (by decide)), rfl⟩) (Nat.le_of_ble_eq_true rfl) (Nat.le_of_ble_eq_true rfl) dX7_isGreat_39
        · replace hR := ifn c8 hR
          refine lv_lload hx hb dX7_isGreat_29 (lv_at hl 0 rfl) ?_
          refine lv_ldc2 (own := RX7) (v := (-1000000000)) hx hb hX.1.2.2.2.1 (hX.1.2.2.2.2 _ wm_6_158) dX7_isGreat_31 ?_
          refine W.lcmp hx hb dX7_isGreat_34 ?_
          refine lv_if_ge (tgt := 40) hx hb dX7_isGreat_35 (by decide) (fun c9 => ?_) (fun c9 => ?_)
          · replace hR := ifp c9 hR
            refine lv_iinc (v := nI (y3_10 + 1)) (lv' := [(3, .int (nI (y3_10 + 1))), (4, .long (f y3_10)), (2, .int (nI (R * 5))), (1, .ref b), (0, .ref g)]) hx hb dX7_isGreat_40 hl (k := 1) rfl (nI_add y3_10 1) (by decide) rfl (fun ls hl => ?_)
            refine lv_goto (tgt := 10) hx hb dX7_isGreat_43 (by decide) ?_
            exact ih10 (y3_10 + 1) _ _ (by omega) (lt_s hi_10 (ng_of (by assumption) (by assumption))) (by omega) hR hB _ (lv_sub hl [0, 2, 3, 4] rfl)
          · replace hR := ifn c9 hR
            refine lv_iconst (v := 1) hx hb dX7_isGreat_38 (by decide) ?_
            rw [← hQ]
            exact end_i hX hB hA3 rfl rfl (by obtain rfl := hR; exact ⟨rfl, (Or.inr rfl), (fun h => absurd h (by decide)), rfl⟩) (Nat.le_of_ble_eq_true rfl) (Nat.le_of_ble_eq_true rfl) dX7_isGreat_39
  exact lp10 _ 0 _ _ (by omega) (fun k hk => absurd hk (by omega)) (Nat.lt_succ_self _) hR hB _ hl
noncomputable def D_X7_isLet_10 (R : Nat) (f : Nat → Int64) (nn : Nat) : Nat → Int32 := @Nat.rec (fun _ => Nat → Int32) (fun _ => default) (fun _ lb10 (y3_10 : Nat) => (if (R * 5) ≤ y3_10 then 1 else (if 0 < (lg_cmp (f y3_10) 20) then 0 else (if 0 ≤ (lg_cmp (f y3_10) (-20)) then (lb10 (y3_10 + 1)) else 0)))) nn
theorem D_X7_isLet_10_s {R : Nat} {f : Nat → Int64} {nn : Nat} {y3_10 : Nat} : D_X7_isLet_10 R f (nn + 1) y3_10 = (if (R * 5) ≤ y3_10 then 1 else (if 0 < (lg_cmp (f y3_10) 20) then 0 else (if 0 ≤ (lg_cmp (f y3_10) (-20)) then ((D_X7_isLet_10 R f nn) (y3_10 + 1)) else 0))) := rfl
noncomputable def D_X7_isLet (R : Nat) (C : Nat) (f : Nat → Int64) : Int32 := (D_X7_isLet_10 R f ((R * 5) + 1 - 0 + 1) 0)
theorem D_X7_isLet_s {R : Nat} {C : Nat} {f : Nat → Int64} : D_X7_isLet R C f = (D_X7_isLet_10 R f ((R * 5) + 1 - 0 + 1) 0) := rfl
set_option maxHeartbeats 4000000 in
set_option maxRecDepth 100000 in
theorem k_X7_isLet (κ : Kt) (l : Launch) (w : va_W) (k1 k2 g b R C : Nat) (f : Nat → Int64) (h1 : w[k1]? = some (gO g R C b)) (h2 : w[k2]? = some (lA κ b (R * 5) f)) (hs : shp R C) (o_x : Int32) (hR : D_X7_isLet R C f = o_x) : CM κ l yX7_isLet cX7_isLet 6 (some .boolean) 0 0 0 0 [.ref g] (w) (fun o w' => o = some (.int o_x) ∧ (o_x = 0 ∨ o_x = 1) ∧ (o_x = 1 → ∀ k, k < R * 5 → sm (f k)) ∧ w' = w) := by
  have hs0 := hs
  obtain ⟨hs1, hs2, hs3, hs4⟩ := hs0
  refine CM_begin (plainFor_of_name (by decide)) (Nat.le_of_ble_eq_true rfl) ?_
  intro p e s m args below meth c A Q hX hnm hA3 hQ hB ls hl
  have hx := hX.1.1
  have hb := hX.1.2.1
  have hl : lv_has ls 6 [(0, .ref g)] := hl
  replace hR := (D_X7_isLet_s).symm.trans hR
  refine lv_aload_n hx hb dX7_isLet_0 rfl (lv_at hl 0 rfl) ?_
  refine gf (k0 := k1) hX hB h1 rfl in7 2 (by decide) wm_5_153 rfl rfl dX7_isLet_1 ?_
  refine lv_astore_n (lv' := [(1, .ref b), (0, .ref g)]) hx hb dX7_isLet_4 rfl hl (by decide) rfl (fun ls hl => ?_)
  refine lv_aload_n hx hb dX7_isLet_5 rfl (lv_at hl 0 rfl) ?_
  refine alenL (k0 := k2) (v := nI (R * 5)) hX hB h2 rfl dX7_isLet_6 ?_
  refine lv_istore_n (lv' := [(2, .int (nI (R * 5))), (1, .ref b), (0, .ref g)]) hx hb dX7_isLet_7 rfl hl (by decide) rfl (fun ls hl => ?_)
  refine lv_iconst (v := 0) hx hb dX7_isLet_8 (by decide) ?_
  refine lv_istore_n (lv' := [(3, .int 0), (2, .int (nI (R * 5))), (1, .ref b), (0, .ref g)]) hx hb dX7_isLet_9 rfl hl (by decide) rfl (fun ls hl => ?_)
  have lp10 : ∀ (nn10 : Nat) (y3_10 : Nat) (H : Heap) (locs : List Loc), (y3_10 ≤ (R * 5)) → (∀ k, k < y3_10 → sm (f k)) → (R * 5) + 1 - y3_10 < nn10 → D_X7_isLet_10 R f nn10 y3_10 = o_x → Bd κ A s (w) H locs → ∀ ls : Array Slot, lv_has ls 6 [(3, .int (nI y3_10)), (2, .int (nI (R * 5))), (1, .ref b), (0, .ref g)] → W p l e (Rm 0 0 0 0) s m args below meth c H locs (0) (0) Q (F0 m 10 ls []) := by
    intro nn10
    induction nn10 with
    | zero => intro y3_10 H locs hn3_10 hi_10 hμ; exact absurd hμ (Nat.not_lt_zero _)
    | succ nn10 ih10 =>
      intro y3_10 H locs hn3_10 hi_10 hμ10 hR hB ls hl
      replace hR := (D_X7_isLet_10_s).symm.trans hR
      refine lv_iload_n hx hb dX7_isLet_10 rfl (lv_at hl 0 rfl) ?_
      refine lv_iload_n hx hb dX7_isLet_11 rfl (lv_at hl 1 rfl) ?_
      refine lv_icmp_ge (tgt := 46) hx hb dX7_isLet_12 (by decide) (fun c7 => ?_) (fun c7 => ?_)
      · rw [nleP (a := R * 5) (b := y3_10) (by omega) (by omega)] at c7
        replace hR := ifp c7 hR
        refine lv_iconst (v := 1) hx hb dX7_isLet_46 (by decide) ?_
        rw [← hQ]
        exact end_i hX hB hA3 rfl rfl (by obtain rfl := hR; exact ⟨rfl, (Or.inr rfl), (fun _ k hk => hi_10 k (by omega)), rfl⟩) (Nat.le_of_ble_eq_true rfl) (Nat.le_of_ble_eq_true rfl) dX7_isLet_47
      · rw [nleP (a := R * 5) (b := y3_10) (by omega) (by omega)] at c7
        replace hR := ifn c7 hR
        refine lv_aload_n hx hb dX7_isLet_15 rfl (lv_at hl 2 rfl) ?_
        refine lv_iload_n hx hb dX7_isLet_16 rfl (lv_at hl 0 rfl) ?_
        refine laldN (k0 := k2) (k := y3_10) hX hB h2 (by omega) (by omega) dX7_isLet_17 ?_
        refine lv_lstore (lv' := [(4, .long (f y3_10)), (3, .int (nI y3_10)), (2, .int (nI (R * 5))), (1, .ref b), (0, .ref g)]) hx hb dX7_isLet_18 hl (by decide) rfl (fun ls hl => ?_)
        refine lv_lload hx hb dX7_isLet_20 (lv_at hl 0 rfl) ?_
        refine lv_ldc2 (own := RX7) (v := 20) hx hb hX.1.2.2.2.1 (hX.1.2.2.2.2 _ wm_6_87) dX7_isLet_22 ?_
        refine W.lcmp hx hb dX7_isLet_25 ?_
        refine lv_if_gt (tgt := 38) hx hb dX7_isLet_26 (by decide) (fun c8 => ?_) (fun c8 => ?_)
        · replace hR := ifp c8 hR
          refine lv_iconst (v := 0) hx hb dX7_isLet_38 (by decide) ?_
          rw [← hQ]
          exact end_i hX hB hA3 rfl rfl (by obtain rfl := hR; exact ⟨rfl, (Or.inl rfl), (fun h => absurd h (by decide)), rfl⟩) (Nat.le_of_ble_eq_true rfl) (Nat.le_of_ble_eq_true rfl) dX7_isLet_39
        · replace hR := ifn c8 hR
          refine lv_lload hx hb dX7_isLet_29 (lv_at hl 0 rfl) ?_
          refine lv_ldc2 (own := RX7) (v := (-20)) hx hb hX.1.2.2.2.1 (hX.1.2.2.2.2 _ wm_6_88) dX7_isLet_31 ?_
          refine W.lcmp hx hb dX7_isLet_34 ?_
          refine lv_if_ge (tgt := 40) hx hb dX7_isLet_35 (by decide) (fun c9 => ?_) (fun c9 => ?_)
          · replace hR := ifp c9 hR
            refine lv_iinc (v := nI (y3_10 + 1)) (lv' := [(3, .int (nI (y3_10 + 1))), (4, .long (f y3_10)), (2, .int (nI (R * 5))), (1, .ref b), (0, .ref g)]) hx hb dX7_isLet_40 hl (k := 1) rfl (nI_add y3_10 1) (by decide) rfl (fun ls hl => ?_)
            refine lv_goto (tgt := 10) hx hb dX7_isLet_43 (by decide) ?_
            exact ih10 (y3_10 + 1) _ _ (by omega) (lt_s hi_10 (sm_of (by assumption) (by assumption))) (by omega) hR hB _ (lv_sub hl [0, 2, 3, 4] rfl)
          · replace hR := ifn c9 hR
            refine lv_iconst (v := 0) hx hb dX7_isLet_38 (by decide) ?_
            rw [← hQ]
            exact end_i hX hB hA3 rfl rfl (by obtain rfl := hR; exact ⟨rfl, (Or.inl rfl), (fun h => absurd h (by decide)), rfl⟩) (Nat.le_of_ble_eq_true rfl) (Nat.le_of_ble_eq_true rfl) dX7_isLet_39
  exact lp10 _ 0 _ _ (by omega) (fun k hk => absurd hk (by omega)) (Nat.lt_succ_self _) hR hB _ hl
noncomputable def D_X7_others_13 (R : Nat) (f : Nat → Int64) (nn : Nat) : Nat → Nat → Int32 := @Nat.rec (fun _ => Nat → Nat → Int32) (fun _ _ => default) (fun _ lb13 (y4_13 : Nat) (y1_13 : Nat) => (if (R * 5) ≤ y4_13 then nI y1_13 else (if (lg_cmp (f y4_13) 0) = 0 then (lb13 (y4_13 + 1) (y1_13 + 0)) else (lb13 (y4_13 + 1) (y1_13 + 1))))) nn
theorem D_X7_others_13_s {R : Nat} {f : Nat → Int64} {nn : Nat} {y4_13 : Nat} {y1_13 : Nat} : D_X7_others_13 R f (nn + 1) y4_13 y1_13 = (if (R * 5) ≤ y4_13 then nI y1_13 else (if (lg_cmp (f y4_13) 0) = 0 then ((D_X7_others_13 R f nn) (y4_13 + 1) (y1_13 + 0)) else ((D_X7_others_13 R f nn) (y4_13 + 1) (y1_13 + 1)))) := rfl
noncomputable def D_X7_others (R : Nat) (C : Nat) (f : Nat → Int64) : Int32 := (D_X7_others_13 R f ((R * 5) + 1 - 0 + 1) 0 0)
theorem D_X7_others_s {R : Nat} {C : Nat} {f : Nat → Int64} : D_X7_others R C f = (D_X7_others_13 R f ((R * 5) + 1 - 0 + 1) 0 0) := rfl
set_option maxHeartbeats 4000000 in
set_option maxRecDepth 100000 in
theorem k_X7_others (κ : Kt) (l : Launch) (w : va_W) (k1 k2 g b R C : Nat) (f : Nat → Int64) (h1 : w[k1]? = some (gO g R C b)) (h2 : w[k2]? = some (lA κ b (R * 5) f)) (hs : shp R C) (o_x : Int32) (hR : D_X7_others R C f = o_x) : CM κ l yX7_others cX7_others 7 (some .int) 0 0 0 0 [.ref g] (w) (fun o w' => o = some (.int o_x) ∧ w' = w) := by
  have hs0 := hs
  obtain ⟨hs1, hs2, hs3, hs4⟩ := hs0
  refine CM_begin (plainFor_of_name (by decide)) (Nat.le_of_ble_eq_true rfl) ?_
  intro p e s m args below meth c A Q hX hnm hA3 hQ hB ls hl
  have hx := hX.1.1
  have hb := hX.1.2.1
  have hl : lv_has ls 7 [(0, .ref g)] := hl
  replace hR := (D_X7_others_s).symm.trans hR
  refine lv_iconst (v := 0) hx hb dX7_others_0 (by decide) ?_
  refine lv_istore_n (lv' := [(1, .int 0), (0, .ref g)]) hx hb dX7_others_1 rfl hl (by decide) rfl (fun ls hl => ?_)
  refine lv_aload_n hx hb dX7_others_2 rfl (lv_at hl 1 rfl) ?_
  refine gf (k0 := k1) hX hB h1 rfl in7 2 (by decide) wm_5_153 rfl rfl dX7_others_3 ?_
  refine lv_astore_n (lv' := [(2, .ref b), (1, .int 0), (0, .ref g)]) hx hb dX7_others_6 rfl hl (by decide) rfl (fun ls hl => ?_)
  refine lv_aload_n hx hb dX7_others_7 rfl (lv_at hl 0 rfl) ?_
  refine alenL (k0 := k2) (v := nI (R * 5)) hX hB h2 rfl dX7_others_8 ?_
  refine lv_istore_n (lv' := [(3, .int (nI (R * 5))), (2, .ref b), (1, .int 0), (0, .ref g)]) hx hb dX7_others_9 rfl hl (by decide) rfl (fun ls hl => ?_)
  refine lv_iconst (v := 0) hx hb dX7_others_10 (by decide) ?_
  refine lv_istore (lv' := [(4, .int 0), (3, .int (nI (R * 5))), (2, .ref b), (1, .int 0), (0, .ref g)]) hx hb dX7_others_11 hl (by decide) rfl (fun ls hl => ?_)
  have lp13 : ∀ (nn13 : Nat) (y4_13 : Nat) (y1_13 : Nat) (H : Heap) (locs : List Loc), (y4_13 ≤ (R * 5)) → (R * 5) + 1 - y4_13 < nn13 → D_X7_others_13 R f nn13 y4_13 y1_13 = o_x → Bd κ A s (w) H locs → ∀ ls : Array Slot, lv_has ls 7 [(4, .int (nI y4_13)), (3, .int (nI (R * 5))), (2, .ref b), (1, .int (nI y1_13)), (0, .ref g)] → W p l e (Rm 0 0 0 0) s m args below meth c H locs (0) (0) Q (F0 m 13 ls []) := by
    intro nn13
    induction nn13 with
    | zero => intro y4_13 y1_13 H locs hn4_13 hμ; exact absurd hμ (Nat.not_lt_zero _)
    | succ nn13 ih13 =>
      intro y4_13 y1_13 H locs hn4_13 hμ13 hR hB ls hl
      replace hR := (D_X7_others_13_s).symm.trans hR
      refine lv_iload hx hb dX7_others_13 (lv_at hl 0 rfl) ?_
      refine lv_iload_n hx hb dX7_others_15 rfl (lv_at hl 1 rfl) ?_
      refine lv_icmp_ge (tgt := 46) hx hb dX7_others_16 (by decide) (fun c5 => ?_) (fun c5 => ?_)
      · rw [nleP (a := R * 5) (b := y4_13) (by omega) (by omega)] at c5
        replace hR := ifp c5 hR
        refine lv_iload_n hx hb dX7_others_46 rfl (lv_at hl 3 rfl) ?_
        rw [← hQ]
        exact end_i hX hB hA3 rfl rfl (by obtain rfl := hR; exact ⟨rfl, rfl⟩) (Nat.le_of_ble_eq_true rfl) (Nat.le_of_ble_eq_true rfl) dX7_others_47
      · rw [nleP (a := R * 5) (b := y4_13) (by omega) (by omega)] at c5
        replace hR := ifn c5 hR
        refine lv_aload_n hx hb dX7_others_19 rfl (lv_at hl 2 rfl) ?_
        refine lv_iload hx hb dX7_others_20 (lv_at hl 0 rfl) ?_
        refine laldN (k0 := k2) (k := y4_13) hX hB h2 (by omega) (by omega) dX7_others_22 ?_
        refine lv_lstore (lv' := [(5, .long (f y4_13)), (4, .int (nI y4_13)), (3, .int (nI (R * 5))), (2, .ref b), (1, .int (nI y1_13)), (0, .ref g)]) hx hb dX7_others_23 hl (by decide) rfl (fun ls hl => ?_)
        refine lv_iload_n hx hb dX7_others_25 rfl (lv_at hl 4 rfl) ?_
        refine lv_lload hx hb dX7_others_26 (lv_at hl 0 rfl) ?_
        refine lv_lconst (v := 0) hx hb dX7_others_28 (by decide) ?_
        refine W.lcmp hx hb dX7_others_29 ?_
        refine lv_if_ne (tgt := 37) hx hb dX7_others_30 (by decide) (fun c6 => ?_) (fun c6 => ?_)
        · replace hR := ifn c6 hR
          refine lv_iconst (v := 1) hx hb dX7_others_37 (by decide) ?_
          refine lv_iadd hx hb dX7_others_38 ?_
          refine eqi (y := nI (y1_13 + 1)) (nI_add y1_13 1) ?_
          refine lv_istore_n (lv' := [(1, .int (nI (y1_13 + 1))), (5, .long (f y4_13)), (4, .int (nI y4_13)), (3, .int (nI (R * 5))), (2, .ref b), (0, .ref g)]) hx hb dX7_others_39 rfl hl (by decide) rfl (fun ls hl => ?_)
          refine lv_iinc (v := nI (y4_13 + 1)) (lv' := [(4, .int (nI (y4_13 + 1))), (1, .int (nI (y1_13 + 1))), (5, .long (f y4_13)), (3, .int (nI (R * 5))), (2, .ref b), (0, .ref g)]) hx hb dX7_others_40 hl (k := 2) rfl (nI_add y4_13 1) (by decide) rfl (fun ls hl => ?_)
          refine lv_goto (tgt := 13) hx hb dX7_others_43 (by decide) ?_
          exact ih13 (y4_13 + 1) (y1_13 + 1) _ _ (by omega) (by omega) hR hB _ (lv_sub hl [0, 3, 4, 1, 5] rfl)
        · replace hR := ifp c6 hR
          refine lv_iconst (v := 0) hx hb dX7_others_33 (by decide) ?_
          refine lv_goto (tgt := 38) hx hb dX7_others_34 (by decide) ?_
          refine lv_iadd hx hb dX7_others_38 ?_
          refine eqi (y := nI (y1_13 + 0)) (nI_add y1_13 0) ?_
          refine lv_istore_n (lv' := [(1, .int (nI (y1_13 + 0))), (5, .long (f y4_13)), (4, .int (nI y4_13)), (3, .int (nI (R * 5))), (2, .ref b), (0, .ref g)]) hx hb dX7_others_39 rfl hl (by decide) rfl (fun ls hl => ?_)
          refine lv_iinc (v := nI (y4_13 + 1)) (lv' := [(4, .int (nI (y4_13 + 1))), (1, .int (nI (y1_13 + 0))), (5, .long (f y4_13)), (3, .int (nI (R * 5))), (2, .ref b), (0, .ref g)]) hx hb dX7_others_40 hl (k := 2) rfl (nI_add y4_13 1) (by decide) rfl (fun ls hl => ?_)
          refine lv_goto (tgt := 13) hx hb dX7_others_43 (by decide) ?_
          exact ih13 (y4_13 + 1) (y1_13 + 0) _ _ (by omega) (by omega) hR hB _ (lv_sub hl [0, 3, 4, 1, 5] rfl)
  exact lp13 _ 0 0 _ _ (by omega) (Nat.lt_succ_self _) hR hB _ hl
noncomputable def D_X7_isSame_26 (R : Nat) (f : Nat → Int64) (f_o : Nat → Int64) (nn : Nat) : Nat → Int32 := @Nat.rec (fun _ => Nat → Int32) (fun _ => default) (fun _ lb26 (y2_26 : Nat) => (if (R * 5) ≤ y2_26 then 1 else (if (lg_cmp (f y2_26) (f_o y2_26)) = 0 then (lb26 (y2_26 + 1)) else 0))) nn
theorem D_X7_isSame_26_s {R : Nat} {f : Nat → Int64} {f_o : Nat → Int64} {nn : Nat} {y2_26 : Nat} : D_X7_isSame_26 R f f_o (nn + 1) y2_26 = (if (R * 5) ≤ y2_26 then 1 else (if (lg_cmp (f y2_26) (f_o y2_26)) = 0 then ((D_X7_isSame_26 R f f_o nn) (y2_26 + 1)) else 0)) := rfl
noncomputable def D_X7_isSame (R : Nat) (C : Nat) (f : Nat → Int64) (R_o : Nat) (C_o : Nat) (f_o : Nat → Int64) : Int32 := (if R = R_o then (if C = C_o then (D_X7_isSame_26 R f f_o ((R * 5) + 1 - 0 + 1) 0) else 0) else 0)
theorem D_X7_isSame_s {R : Nat} {C : Nat} {f : Nat → Int64} {R_o : Nat} {C_o : Nat} {f_o : Nat → Int64} : D_X7_isSame R C f R_o C_o f_o = (if R = R_o then (if C = C_o then (D_X7_isSame_26 R f f_o ((R * 5) + 1 - 0 + 1) 0) else 0) else 0) := rfl
set_option maxHeartbeats 4000000 in
set_option maxRecDepth 100000 in
theorem k_X7_isSame (κ : Kt) (l : Launch) (w : va_W) (k1 k2 g b R C : Nat) (f : Nat → Int64) (k3 k4 g_o b_o R_o C_o : Nat) (f_o : Nat → Int64) (h1 : w[k1]? = some (gO g R C b)) (h2 : w[k2]? = some (lA κ b (R * 5) f)) (hs : shp R C) (h3 : w[k3]? = some (gO g_o R_o C_o b_o)) (h4 : w[k4]? = some (lA κ b_o (R_o * 5) f_o)) (hso : shp R_o C_o) (o_x : Int32) (hR : D_X7_isSame R C f R_o C_o f_o = o_x) : CM κ l yX7_isSame cX7_isSame 3 (some .boolean) 0 0 0 0 [.ref g, .ref g_o] (w) (fun o w' => o = some (.int o_x) ∧ (o_x = 0 ∨ o_x = 1) ∧ w' = w) := by
  have hs0 := hs
  obtain ⟨hs1, hs2, hs3, hs4⟩ := hs0
  have hs9 := hso
  obtain ⟨ht1, ht2, ht3, ht4⟩ := hs9
  refine CM_begin (plainFor_of_name (by decide)) (Nat.le_of_ble_eq_true rfl) ?_
  intro p e s m args below meth c A Q hX hnm hA3 hQ hB ls hl
  have hx := hX.1.1
  have hb := hX.1.2.1
  have hl : lv_has ls 3 [(0, .ref g), (1, .ref g_o)] := hl
  replace hR := (D_X7_isSame_s).symm.trans hR
  refine lv_aload_n hx hb dX7_isSame_0 rfl (lv_at hl 0 rfl) ?_
  refine gf (k0 := k1) hX hB h1 rfl in7 0 (by decide) wm_5_145 rfl rfl dX7_isSame_1 ?_
  refine lv_aload_n hx hb dX7_isSame_4 rfl (lv_at hl 1 rfl) ?_
  refine gf (k0 := k3) hX hB h3 rfl in7 0 (by decide) wm_5_145 rfl rfl dX7_isSame_5 ?_
  refine lv_icmp_ne (tgt := 22) hx hb dX7_isSame_8 (by decide) (fun c1 => ?_) (fun c1 => ?_)
  · rw [neqP (a := R) (b := R_o) (by omega) (by omega)] at c1
    replace hR := ifn c1 hR
    refine lv_iconst (v := 0) hx hb dX7_isSame_22 (by decide) ?_
    rw [← hQ]
    exact end_i hX hB hA3 rfl rfl (by obtain rfl := hR; exact ⟨rfl, (Or.inl rfl), rfl⟩) (Nat.le_of_ble_eq_true rfl) (Nat.le_of_ble_eq_true rfl) dX7_isSame_23
  · rw [neqP (a := R) (b := R_o) (by omega) (by omega)] at c1
    replace hR := ifp c1 hR
    refine lv_aload_n hx hb dX7_isSame_11 rfl (lv_at hl 0 rfl) ?_
    refine gf (k0 := k1) hX hB h1 rfl in7 1 (by decide) wm_5_149 rfl rfl dX7_isSame_12 ?_
    refine lv_aload_n hx hb dX7_isSame_15 rfl (lv_at hl 1 rfl) ?_
    refine gf (k0 := k3) hX hB h3 rfl in7 1 (by decide) wm_5_149 rfl rfl dX7_isSame_16 ?_
    refine lv_icmp_eq (tgt := 24) hx hb dX7_isSame_19 (by decide) (fun c2 => ?_) (fun c2 => ?_)
    · rw [neqP (a := C) (b := C_o) (by omega) (by omega)] at c2
      replace hR := ifp c2 hR
      refine lv_iconst (v := 0) hx hb dX7_isSame_24 (by decide) ?_
      refine lv_istore_n (lv' := [(2, .int 0), (0, .ref g), (1, .ref g_o)]) hx hb dX7_isSame_25 rfl hl (by decide) rfl (fun ls hl => ?_)
      have lp26 : ∀ (nn26 : Nat) (y2_26 : Nat) (H : Heap) (locs : List Loc), (y2_26 ≤ (R * 5)) → (R * 5) + 1 - y2_26 < nn26 → D_X7_isSame_26 R f f_o nn26 y2_26 = o_x → Bd κ A s (w) H locs → ∀ ls : Array Slot, lv_has ls 3 [(2, .int (nI y2_26)), (0, .ref g), (1, .ref g_o)] → W p l e (Rm 0 0 0 0) s m args below meth c H locs (0) (0) Q (F0 m 26 ls []) := by
        intro nn26
        induction nn26 with
        | zero => intro y2_26 H locs hn2_26 hμ; exact absurd hμ (Nat.not_lt_zero _)
        | succ nn26 ih26 =>
          intro y2_26 H locs hn2_26 hμ26 hR hB ls hl
          replace hR := (D_X7_isSame_26_s).symm.trans hR
          refine lv_iload_n hx hb dX7_isSame_26 rfl (lv_at hl 0 rfl) ?_
          refine lv_aload_n hx hb dX7_isSame_27 rfl (lv_at hl 1 rfl) ?_
          refine gf (k0 := k1) hX hB h1 rfl in7 2 (by decide) wm_5_153 rfl rfl dX7_isSame_28 ?_
          refine alenL (k0 := k2) (v := nI (R * 5)) hX hB h2 rfl dX7_isSame_31 ?_
          refine lv_icmp_ge (tgt := 59) hx hb dX7_isSame_32 (by decide) (fun c7 => ?_) (fun c7 => ?_)
          · rw [nleP (a := R * 5) (b := y2_26) (by omega) (by omega)] at c7
            replace hR := ifp c7 hR
            refine lv_iconst (v := 1) hx hb dX7_isSame_59 (by decide) ?_
            rw [← hQ]
            exact end_i hX hB hA3 rfl rfl (by obtain rfl := hR; exact ⟨rfl, (Or.inr rfl), rfl⟩) (Nat.le_of_ble_eq_true rfl) (Nat.le_of_ble_eq_true rfl) dX7_isSame_60
          · rw [nleP (a := R * 5) (b := y2_26) (by omega) (by omega)] at c7
            replace hR := ifn c7 hR
            refine lv_aload_n hx hb dX7_isSame_35 rfl (lv_at hl 1 rfl) ?_
            refine gf (k0 := k1) hX hB h1 rfl in7 2 (by decide) wm_5_153 rfl rfl dX7_isSame_36 ?_
            refine lv_iload_n hx hb dX7_isSame_39 rfl (lv_at hl 0 rfl) ?_
            refine laldN (k0 := k2) (k := y2_26) hX hB h2 (by omega) (by omega) dX7_isSame_40 ?_
            refine lv_aload_n hx hb dX7_isSame_41 rfl (lv_at hl 2 rfl) ?_
            refine gf (k0 := k3) hX hB h3 rfl in7 2 (by decide) wm_5_153 rfl rfl dX7_isSame_42 ?_
            refine lv_iload_n hx hb dX7_isSame_45 rfl (lv_at hl 0 rfl) ?_
            refine laldN (k0 := k4) (k := y2_26) hX hB h4 (by omega) (by omega) dX7_isSame_46 ?_
            refine W.lcmp hx hb dX7_isSame_47 ?_
            refine lv_if_eq (tgt := 53) hx hb dX7_isSame_48 (by decide) (fun c8 => ?_) (fun c8 => ?_)
            · replace hR := ifp c8 hR
              refine lv_iinc (v := nI (y2_26 + 1)) (lv' := [(2, .int (nI (y2_26 + 1))), (0, .ref g), (1, .ref g_o)]) hx hb dX7_isSame_53 hl (k := 0) rfl (nI_add y2_26 1) (by decide) rfl (fun ls hl => ?_)
              refine lv_goto (tgt := 26) hx hb dX7_isSame_56 (by decide) ?_
              exact ih26 (y2_26 + 1) _ _ (by omega) (by omega) hR hB _ hl
            · replace hR := ifn c8 hR
              refine lv_iconst (v := 0) hx hb dX7_isSame_51 (by decide) ?_
              rw [← hQ]
              exact end_i hX hB hA3 rfl rfl (by obtain rfl := hR; exact ⟨rfl, (Or.inl rfl), rfl⟩) (Nat.le_of_ble_eq_true rfl) (Nat.le_of_ble_eq_true rfl) dX7_isSame_52
      exact lp26 _ 0 _ _ (by omega) (Nat.lt_succ_self _) hR hB _ hl
    · rw [neqP (a := C) (b := C_o) (by omega) (by omega)] at c2
      replace hR := ifn c2 hR
      refine lv_iconst (v := 0) hx hb dX7_isSame_22 (by decide) ?_
      rw [← hQ]
      exact end_i hX hB hA3 rfl rfl (by obtain rfl := hR; exact ⟨rfl, (Or.inl rfl), rfl⟩) (Nat.le_of_ble_eq_true rfl) (Nat.le_of_ble_eq_true rfl) dX7_isSame_23
noncomputable def D_X7_unlike_4 (R : Nat) (f : Nat → Int64) (f_o : Nat → Int64) (nn : Nat) : Nat → Nat → Int32 := @Nat.rec (fun _ => Nat → Nat → Int32) (fun _ _ => default) (fun _ lb4 (y3_4 : Nat) (y2_4 : Nat) => (if (R * 5) ≤ y3_4 then nI y2_4 else (if (lg_cmp (f y3_4) (f_o y3_4)) = 0 then (lb4 (y3_4 + 1) (y2_4 + 0)) else (lb4 (y3_4 + 1) (y2_4 + 1))))) nn
theorem D_X7_unlike_4_s {R : Nat} {f : Nat → Int64} {f_o : Nat → Int64} {nn : Nat} {y3_4 : Nat} {y2_4 : Nat} : D_X7_unlike_4 R f f_o (nn + 1) y3_4 y2_4 = (if (R * 5) ≤ y3_4 then nI y2_4 else (if (lg_cmp (f y3_4) (f_o y3_4)) = 0 then ((D_X7_unlike_4 R f f_o nn) (y3_4 + 1) (y2_4 + 0)) else ((D_X7_unlike_4 R f f_o nn) (y3_4 + 1) (y2_4 + 1)))) := rfl
noncomputable def D_X7_unlike (R : Nat) (C : Nat) (f : Nat → Int64) (R_o : Nat) (C_o : Nat) (f_o : Nat → Int64) : Int32 := (D_X7_unlike_4 R f f_o ((R * 5) + 1 - 0 + 1) 0 0)
theorem D_X7_unlike_s {R : Nat} {C : Nat} {f : Nat → Int64} {R_o : Nat} {C_o : Nat} {f_o : Nat → Int64} : D_X7_unlike R C f R_o C_o f_o = (D_X7_unlike_4 R f f_o ((R * 5) + 1 - 0 + 1) 0 0) := rfl
set_option maxHeartbeats 4000000 in
set_option maxRecDepth 100000 in
theorem k_X7_unlike (κ : Kt) (l : Launch) (w : va_W) (k1 k2 g b R C : Nat) (f : Nat → Int64) (k3 k4 g_o b_o R_o C_o : Nat) (f_o : Nat → Int64) (h1 : w[k1]? = some (gO g R C b)) (h2 : w[k2]? = some (lA κ b (R * 5) f)) (hs : shp R C) (h3 : w[k3]? = some (gO g_o R_o C_o b_o)) (h4 : w[k4]? = some (lA κ b_o (R_o * 5) f_o)) (hso : shp R_o C_o) (hre : R * 5 ≤ R_o * 5) (o_x : Int32) (hR : D_X7_unlike R C f R_o C_o f_o = o_x) : CM κ l yX7_unlike cX7_unlike 4 (some .int) 0 0 0 0 [.ref g, .ref g_o] (w) (fun o w' => o = some (.int o_x) ∧ w' = w) := by
  have hs0 := hs
  obtain ⟨hs1, hs2, hs3, hs4⟩ := hs0
  have hs9 := hso
  obtain ⟨ht1, ht2, ht3, ht4⟩ := hs9
  refine CM_begin (plainFor_of_name (by decide)) (Nat.le_of_ble_eq_true rfl) ?_
  intro p e s m args below meth c A Q hX hnm hA3 hQ hB ls hl
  have hx := hX.1.1
  have hb := hX.1.2.1
  have hl : lv_has ls 4 [(0, .ref g), (1, .ref g_o)] := hl
  replace hR := (D_X7_unlike_s).symm.trans hR
  refine lv_iconst (v := 0) hx hb dX7_unlike_0 (by decide) ?_
  refine lv_istore_n (lv' := [(2, .int 0), (0, .ref g), (1, .ref g_o)]) hx hb dX7_unlike_1 rfl hl (by decide) rfl (fun ls hl => ?_)
  refine lv_iconst (v := 0) hx hb dX7_unlike_2 (by decide) ?_
  refine lv_istore_n (lv' := [(3, .int 0), (2, .int 0), (0, .ref g), (1, .ref g_o)]) hx hb dX7_unlike_3 rfl hl (by decide) rfl (fun ls hl => ?_)
  have lp4 : ∀ (nn4 : Nat) (y3_4 : Nat) (y2_4 : Nat) (H : Heap) (locs : List Loc), (y3_4 ≤ (R * 5)) → (R * 5) + 1 - y3_4 < nn4 → D_X7_unlike_4 R f f_o nn4 y3_4 y2_4 = o_x → Bd κ A s (w) H locs → ∀ ls : Array Slot, lv_has ls 4 [(3, .int (nI y3_4)), (2, .int (nI y2_4)), (0, .ref g), (1, .ref g_o)] → W p l e (Rm 0 0 0 0) s m args below meth c H locs (0) (0) Q (F0 m 4 ls []) := by
    intro nn4
    induction nn4 with
    | zero => intro y3_4 y2_4 H locs hn3_4 hμ; exact absurd hμ (Nat.not_lt_zero _)
    | succ nn4 ih4 =>
      intro y3_4 y2_4 H locs hn3_4 hμ4 hR hB ls hl
      replace hR := (D_X7_unlike_4_s).symm.trans hR
      refine lv_iload_n hx hb dX7_unlike_4 rfl (lv_at hl 0 rfl) ?_
      refine lv_aload_n hx hb dX7_unlike_5 rfl (lv_at hl 2 rfl) ?_
      refine gf (k0 := k1) hX hB h1 rfl in7 2 (by decide) wm_5_153 rfl rfl dX7_unlike_6 ?_
      refine alenL (k0 := k2) (v := nI (R * 5)) hX hB h2 rfl dX7_unlike_9 ?_
      refine lv_icmp_ge (tgt := 43) hx hb dX7_unlike_10 (by decide) (fun c5 => ?_) (fun c5 => ?_)
      · rw [nleP (a := R * 5) (b := y3_4) (by omega) (by omega)] at c5
        replace hR := ifp c5 hR
        refine lv_iload_n hx hb dX7_unlike_43 rfl (lv_at hl 1 rfl) ?_
        rw [← hQ]
        exact end_i hX hB hA3 rfl rfl (by obtain rfl := hR; exact ⟨rfl, rfl⟩) (Nat.le_of_ble_eq_true rfl) (Nat.le_of_ble_eq_true rfl) dX7_unlike_44
      · rw [nleP (a := R * 5) (b := y3_4) (by omega) (by omega)] at c5
        replace hR := ifn c5 hR
        refine lv_iload_n hx hb dX7_unlike_13 rfl (lv_at hl 1 rfl) ?_
        refine lv_aload_n hx hb dX7_unlike_14 rfl (lv_at hl 2 rfl) ?_
        refine gf (k0 := k1) hX hB h1 rfl in7 2 (by decide) wm_5_153 rfl rfl dX7_unlike_15 ?_
        refine lv_iload_n hx hb dX7_unlike_18 rfl (lv_at hl 0 rfl) ?_
        refine laldN (k0 := k2) (k := y3_4) hX hB h2 (by omega) (by omega) dX7_unlike_19 ?_
        refine lv_aload_n hx hb dX7_unlike_20 rfl (lv_at hl 3 rfl) ?_
        refine gf (k0 := k3) hX hB h3 rfl in7 2 (by decide) wm_5_153 rfl rfl dX7_unlike_21 ?_
        refine lv_iload_n hx hb dX7_unlike_24 rfl (lv_at hl 0 rfl) ?_
        refine laldN (k0 := k4) (k := y3_4) hX hB h4 (by omega) (by omega) dX7_unlike_25 ?_
        refine W.lcmp hx hb dX7_unlike_26 ?_
        refine lv_if_ne (tgt := 34) hx hb dX7_unlike_27 (by decide) (fun c6 => ?_) (fun c6 => ?_)
        · replace hR := ifn c6 hR
          refine lv_iconst (v := 1) hx hb dX7_unlike_34 (by decide) ?_
          refine lv_iadd hx hb dX7_unlike_35 ?_
          refine eqi (y := nI (y2_4 + 1)) (nI_add y2_4 1) ?_
          refine lv_istore_n (lv' := [(2, .int (nI (y2_4 + 1))), (3, .int (nI y3_4)), (0, .ref g), (1, .ref g_o)]) hx hb dX7_unlike_36 rfl hl (by decide) rfl (fun ls hl => ?_)
          refine lv_iinc (v := nI (y3_4 + 1)) (lv' := [(3, .int (nI (y3_4 + 1))), (2, .int (nI (y2_4 + 1))), (0, .ref g), (1, .ref g_o)]) hx hb dX7_unlike_37 hl (k := 1) rfl (nI_add y3_4 1) (by decide) rfl (fun ls hl => ?_)
          refine lv_goto (tgt := 4) hx hb dX7_unlike_40 (by decide) ?_
          exact ih4 (y3_4 + 1) (y2_4 + 1) _ _ (by omega) (by omega) hR hB _ hl
        · replace hR := ifp c6 hR
          refine lv_iconst (v := 0) hx hb dX7_unlike_30 (by decide) ?_
          refine lv_goto (tgt := 35) hx hb dX7_unlike_31 (by decide) ?_
          refine lv_iadd hx hb dX7_unlike_35 ?_
          refine eqi (y := nI (y2_4 + 0)) (nI_add y2_4 0) ?_
          refine lv_istore_n (lv' := [(2, .int (nI (y2_4 + 0))), (3, .int (nI y3_4)), (0, .ref g), (1, .ref g_o)]) hx hb dX7_unlike_36 rfl hl (by decide) rfl (fun ls hl => ?_)
          refine lv_iinc (v := nI (y3_4 + 1)) (lv' := [(3, .int (nI (y3_4 + 1))), (2, .int (nI (y2_4 + 0))), (0, .ref g), (1, .ref g_o)]) hx hb dX7_unlike_37 hl (k := 1) rfl (nI_add y3_4 1) (by decide) rfl (fun ls hl => ?_)
          refine lv_goto (tgt := 4) hx hb dX7_unlike_40 (by decide) ?_
          exact ih4 (y3_4 + 1) (y2_4 + 0) _ _ (by omega) (by omega) hR hB _ hl
  exact lp4 _ 0 0 _ _ (by omega) (Nat.lt_succ_self _) hR hB _ hl
noncomputable def D_X7_product_44 (C : Nat) (f : Nat → Int64) (f_o : Nat → Int64) (y3_18 : Nat) (lb29 : Nat → (Nat → Int64) → (Nat → Int64)) (y4_29 : Nat) (fb2_29 : Nat → Int64) (nn : Nat) : Nat → Int64 → (Nat → Int64) := @Nat.rec (fun _ => Nat → Int64 → (Nat → Int64)) (fun _ _ => default) (fun _ lb44 (y7_44 : Nat) (y5_44 : Int64) => (if C ≤ y7_44 then (lb29 (y4_29 + 1) (vp_updL fb2_29 (y3_18 * 5 + y4_29) y5_44)) else (lb44 (y7_44 + 1) (y5_44 + ((f (y3_18 * 5 + y7_44)) * (f_o (y7_44 * 5 + y4_29))))))) nn
theorem D_X7_product_44_s {C : Nat} {f : Nat → Int64} {f_o : Nat → Int64} {y3_18 : Nat} {lb29 : Nat → (Nat → Int64) → (Nat → Int64)} {y4_29 : Nat} {fb2_29 : Nat → Int64} {nn : Nat} {y7_44 : Nat} {y5_44 : Int64} : D_X7_product_44 C f f_o y3_18 lb29 y4_29 fb2_29 (nn + 1) y7_44 y5_44 = (if C ≤ y7_44 then (lb29 (y4_29 + 1) (vp_updL fb2_29 (y3_18 * 5 + y4_29) y5_44)) else ((D_X7_product_44 C f f_o y3_18 lb29 y4_29 fb2_29 nn) (y7_44 + 1) (y5_44 + ((f (y3_18 * 5 + y7_44)) * (f_o (y7_44 * 5 + y4_29)))))) := rfl
noncomputable def D_X7_product_29 (C : Nat) (f : Nat → Int64) (C_o : Nat) (f_o : Nat → Int64) (lb18 : Nat → (Nat → Int64) → (Nat → Int64)) (y3_18 : Nat) (nn : Nat) : Nat → (Nat → Int64) → (Nat → Int64) := @Nat.rec (fun _ => Nat → (Nat → Int64) → (Nat → Int64)) (fun _ _ => default) (fun _ lb29 (y4_29 : Nat) (fb2_29 : Nat → Int64) => (if C_o ≤ y4_29 then (lb18 (y3_18 + 1) fb2_29) else (D_X7_product_44 C f f_o y3_18 lb29 y4_29 fb2_29 (C + 1 - 0 + 1) 0 0))) nn
theorem D_X7_product_29_s {C : Nat} {f : Nat → Int64} {C_o : Nat} {f_o : Nat → Int64} {lb18 : Nat → (Nat → Int64) → (Nat → Int64)} {y3_18 : Nat} {nn : Nat} {y4_29 : Nat} {fb2_29 : Nat → Int64} : D_X7_product_29 C f C_o f_o lb18 y3_18 (nn + 1) y4_29 fb2_29 = (if C_o ≤ y4_29 then (lb18 (y3_18 + 1) fb2_29) else (D_X7_product_44 C f f_o y3_18 (D_X7_product_29 C f C_o f_o lb18 y3_18 nn) y4_29 fb2_29 (C + 1 - 0 + 1) 0 0)) := rfl
noncomputable def D_X7_product_18 (R : Nat) (C : Nat) (f : Nat → Int64) (C_o : Nat) (f_o : Nat → Int64) (nn : Nat) : Nat → (Nat → Int64) → (Nat → Int64) := @Nat.rec (fun _ => Nat → (Nat → Int64) → (Nat → Int64)) (fun _ _ => default) (fun _ lb18 (y3_18 : Nat) (fb2_18 : Nat → Int64) => (if R ≤ y3_18 then fb2_18 else (D_X7_product_29 C f C_o f_o lb18 y3_18 (C_o + 1 - 0 + 1) 0 fb2_18))) nn
theorem D_X7_product_18_s {R : Nat} {C : Nat} {f : Nat → Int64} {C_o : Nat} {f_o : Nat → Int64} {nn : Nat} {y3_18 : Nat} {fb2_18 : Nat → Int64} : D_X7_product_18 R C f C_o f_o (nn + 1) y3_18 fb2_18 = (if R ≤ y3_18 then fb2_18 else (D_X7_product_29 C f C_o f_o (D_X7_product_18 R C f C_o f_o nn) y3_18 (C_o + 1 - 0 + 1) 0 fb2_18)) := rfl
noncomputable def D_X7_product (R : Nat) (C : Nat) (f : Nat → Int64) (R_o : Nat) (C_o : Nat) (f_o : Nat → Int64) : (Nat → Int64) := (D_X7_product_18 R C f C_o f_o (R + 1 - 0 + 1) 0 (fun _ => 0))
theorem D_X7_product_s {R : Nat} {C : Nat} {f : Nat → Int64} {R_o : Nat} {C_o : Nat} {f_o : Nat → Int64} : D_X7_product R C f R_o C_o f_o = (D_X7_product_18 R C f C_o f_o (R + 1 - 0 + 1) 0 (fun _ => 0)) := rfl
set_option maxHeartbeats 4000000 in
set_option maxRecDepth 100000 in
theorem k_X7_product (κ : Kt) (l : Launch) (w : va_W) (k1 k2 g b R C : Nat) (f : Nat → Int64) (k3 k4 g_o b_o R_o C_o : Nat) (f_o : Nat → Int64) (h1 : w[k1]? = some (gO g R C b)) (h2 : w[k2]? = some (lA κ b (R * 5) f)) (hs : shp R C) (h3 : w[k3]? = some (gO g_o R_o C_o b_o)) (h4 : w[k4]? = some (lA κ b_o (R_o * 5) f_o)) (hso : shp R_o C_o) (hCR : C = R_o) (o_F : Nat → Int64) (hR : D_X7_product R C f R_o C_o f_o = o_F) : CM κ l yX7_product cX7_product 8 (some (.object "GridmenderModel$Grid")) 2 42 2 23 [.ref g, .ref g_o] (w) (fun o w' => ∃ (q1 : Nat) (q2 : Nat), o = some (.ref q1) ∧ w' = lA κ q2 (R * 5) o_F :: gO q1 R C_o q2 :: w) := by
  have hs0 := hs
  obtain ⟨hs1, hs2, hs3, hs4⟩ := hs0
  have hs9 := hso
  obtain ⟨ht1, ht2, ht3, ht4⟩ := hs9
  refine CM_begin (plainFor_of_name (by decide)) (Nat.le_of_ble_eq_true rfl) ?_
  intro p e s m args below meth c A Q hX hnm hA3 hQ hB ls hl
  have hx := hX.1.1
  have hb := hX.1.2.1
  have hl : lv_has ls 8 [(0, .ref g), (1, .ref g_o)] := hl
  replace hR := (D_X7_product_s).symm.trans hR
  refine newO (fs := [.int 0, .int 0, .null]) hX hB (ci := 8) rfl in7 tyX7_ok wm_5_219 wm_5_140 wm_1_7 df8 (Nat.le_of_ble_eq_true rfl) (Nat.le_of_ble_eq_true rfl) dX7_product_0 (fun q1 H hB => ?_)
  refine lv_dup hx hb dX7_product_3 rfl ?_
  refine lv_aload_n hx hb dX7_product_4 rfl (lv_at hl 0 rfl) ?_
  refine gf (k0 := k1 + 1) hX hB h1 rfl in7 0 (by decide) wm_5_145 rfl rfl dX7_product_5 ?_
  refine lv_aload_n hx hb dX7_product_8 rfl (lv_at hl 1 rfl) ?_
  refine gf (k0 := k3 + 1) hX hB h3 rfl in7 1 (by decide) wm_5_149 rfl rfl dX7_product_9 ?_
  refine call_I (n := 2) (As := [.int (nI R), .int (nI C_o)]) (rest := [.ref q1]) hX hB (k_X7_init κ l (w) q1 (nI R) R (nI C_o) C_o rfl rfl (by omega)) ⟨by decide, by decide, by decide +kernel⟩ rfl wm_5_220 wm_5_142 wm_1_7 wm_5_143 ⟨Nat.le_of_ble_eq_true rfl, Nat.le_of_ble_eq_true rfl⟩ ⟨Nat.le_of_ble_eq_true rfl, Nat.le_of_ble_eq_true rfl⟩ rfl hl.1 rfl (Nat.le_of_ble_eq_true rfl) dX7_product_12 (fun o w' H locs hp hB => ?_)
  obtain ⟨b2, rfl, hw9⟩ := hp
  replace hB : Bd κ A s (lA κ b2 (R * 5) (fun _ => 0) :: gO q1 R C_o b2 :: w) H locs := by rw [hw9] at hB; exact hB
  refine W.eq (g2 := F0 m 15 ls [.ref q1]) rfl ?_
  refine lv_astore_n (lv' := [(2, .ref q1), (0, .ref g), (1, .ref g_o)]) hx hb dX7_product_15 rfl hl (by decide) rfl (fun ls hl => ?_)
  refine lv_iconst (v := 0) hx hb dX7_product_16 (by decide) ?_
  refine lv_istore_n (lv' := [(3, .int 0), (2, .ref q1), (0, .ref g), (1, .ref g_o)]) hx hb dX7_product_17 rfl hl (by decide) rfl (fun ls hl => ?_)
  have lp18 : ∀ (nn18 : Nat) (y3_18 : Nat) (fb2_18 : Nat → Int64) (H : Heap) (locs : List Loc), (y3_18 ≤ R) → R + 1 - y3_18 < nn18 → D_X7_product_18 R C f C_o f_o nn18 y3_18 fb2_18 = o_F → Bd κ A s (lA κ b2 (R * 5) fb2_18 :: gO q1 R C_o b2 :: w) H locs → ∀ ls : Array Slot, lv_has ls 8 [(3, .int (nI y3_18)), (2, .ref q1), (0, .ref g), (1, .ref g_o)] → W p l e (Rm 2 42 2 23) s m args below meth c H locs (2) (23) Q (F0 m 18 ls []) := by
    intro nn18
    induction nn18 with
    | zero => intro y3_18 fb2_18 H locs hn3_18 hμ; exact absurd hμ (Nat.not_lt_zero _)
    | succ nn18 ih18 =>
      intro y3_18 fb2_18 H locs hn3_18 hμ18 hR hB ls hl
      replace hR := (D_X7_product_18_s).symm.trans hR
      refine lv_iload_n hx hb dX7_product_18 rfl (lv_at hl 0 rfl) ?_
      refine lv_aload_n hx hb dX7_product_19 rfl (lv_at hl 2 rfl) ?_
      refine gf (k0 := k1 + 2) hX hB h1 rfl in7 0 (by decide) wm_5_145 rfl rfl dX7_product_20 ?_
      refine lv_icmp_ge (tgt := 101) hx hb dX7_product_23 (by decide) (fun c47 => ?_) (fun c47 => ?_)
      · rw [nleP (a := R) (b := y3_18) (by omega) (by omega)] at c47
        replace hR := ifp c47 hR
        refine lv_aload_n hx hb dX7_product_101 rfl (lv_at hl 1 rfl) ?_
        rw [← hQ]
        exact end_a hX hB hA3 rfl (Or.inr ⟨_, rfl⟩) (by obtain rfl := hR; exact ⟨q1, b2, rfl, rfl⟩) (Nat.le_of_ble_eq_true rfl) (Nat.le_of_ble_eq_true rfl) dX7_product_102
      · rw [nleP (a := R) (b := y3_18) (by omega) (by omega)] at c47
        replace hR := ifn c47 hR
        refine lv_iconst (v := 0) hx hb dX7_product_26 (by decide) ?_
        refine lv_istore (lv' := [(4, .int 0), (3, .int (nI y3_18)), (2, .ref q1), (0, .ref g), (1, .ref g_o)]) hx hb dX7_product_27 hl (by decide) rfl (fun ls hl => ?_)
        have lp29 : ∀ (nn29 : Nat) (y4_29 : Nat) (fb2_29 : Nat → Int64) (H : Heap) (locs : List Loc), (y4_29 ≤ C_o) → C_o + 1 - y4_29 < nn29 → D_X7_product_29 C f C_o f_o (D_X7_product_18 R C f C_o f_o nn18) y3_18 nn29 y4_29 fb2_29 = o_F → Bd κ A s (lA κ b2 (R * 5) fb2_29 :: gO q1 R C_o b2 :: w) H locs → ∀ ls : Array Slot, lv_has ls 8 [(4, .int (nI y4_29)), (3, .int (nI y3_18)), (2, .ref q1), (0, .ref g), (1, .ref g_o)] → W p l e (Rm 2 42 2 23) s m args below meth c H locs (2) (23) Q (F0 m 29 ls []) := by
          intro nn29
          induction nn29 with
          | zero => intro y4_29 fb2_29 H locs hn4_29 hμ; exact absurd hμ (Nat.not_lt_zero _)
          | succ nn29 ih29 =>
            intro y4_29 fb2_29 H locs hn4_29 hμ29 hR hB ls hl
            replace hR := (D_X7_product_29_s).symm.trans hR
            refine lv_iload hx hb dX7_product_29 (lv_at hl 0 rfl) ?_
            refine lv_aload_n hx hb dX7_product_31 rfl (lv_at hl 4 rfl) ?_
            refine gf (k0 := k3 + 2) hX hB h3 rfl in7 1 (by decide) wm_5_149 rfl rfl dX7_product_32 ?_
            refine lv_icmp_ge (tgt := 95) hx hb dX7_product_35 (by decide) (fun c62 => ?_) (fun c62 => ?_)
            · rw [nleP (a := C_o) (b := y4_29) (by omega) (by omega)] at c62
              replace hR := ifp c62 hR
              refine lv_iinc (v := nI (y3_18 + 1)) (lv' := [(3, .int (nI (y3_18 + 1))), (4, .int (nI y4_29)), (2, .ref q1), (0, .ref g), (1, .ref g_o)]) hx hb dX7_product_95 hl (k := 1) rfl (nI_add y3_18 1) (by decide) rfl (fun ls hl => ?_)
              refine lv_goto (tgt := 18) hx hb dX7_product_98 (by decide) ?_
              exact ih18 (y3_18 + 1) fb2_29 _ _ (by omega) (by omega) hR hB _ (lv_sub hl [0, 2, 3, 4] rfl)
            · rw [nleP (a := C_o) (b := y4_29) (by omega) (by omega)] at c62
              replace hR := ifn c62 hR
              refine lv_lconst (v := 0) hx hb dX7_product_38 (by decide) ?_
              refine lv_lstore (lv' := [(5, .long 0), (4, .int (nI y4_29)), (3, .int (nI y3_18)), (2, .ref q1), (0, .ref g), (1, .ref g_o)]) hx hb dX7_product_39 hl (by decide) rfl (fun ls hl => ?_)
              refine lv_iconst (v := 0) hx hb dX7_product_41 (by decide) ?_
              refine lv_istore (lv' := [(7, .int 0), (5, .long 0), (4, .int (nI y4_29)), (3, .int (nI y3_18)), (2, .ref q1), (0, .ref g), (1, .ref g_o)]) hx hb dX7_product_42 hl (by decide) rfl (fun ls hl => ?_)
              have lp44 : ∀ (nn44 : Nat) (y7_44 : Nat) (y5_44 : Int64) (H : Heap) (locs : List Loc), (y7_44 ≤ C) → C + 1 - y7_44 < nn44 → D_X7_product_44 C f f_o y3_18 (D_X7_product_29 C f C_o f_o (D_X7_product_18 R C f C_o f_o nn18) y3_18 nn29) y4_29 fb2_29 nn44 y7_44 y5_44 = o_F → Bd κ A s (lA κ b2 (R * 5) fb2_29 :: gO q1 R C_o b2 :: w) H locs → ∀ ls : Array Slot, lv_has ls 8 [(7, .int (nI y7_44)), (5, .long y5_44), (4, .int (nI y4_29)), (3, .int (nI y3_18)), (2, .ref q1), (0, .ref g), (1, .ref g_o)] → W p l e (Rm 2 42 2 23) s m args below meth c H locs (2) (23) Q (F0 m 44 ls []) := by
                intro nn44
                induction nn44 with
                | zero => intro y7_44 y5_44 H locs hn7_44 hμ; exact absurd hμ (Nat.not_lt_zero _)
                | succ nn44 ih44 =>
                  intro y7_44 y5_44 H locs hn7_44 hμ44 hR hB ls hl
                  replace hR := (D_X7_product_44_s).symm.trans hR
                  refine lv_iload hx hb dX7_product_44 (lv_at hl 0 rfl) ?_
                  refine lv_aload_n hx hb dX7_product_46 rfl (lv_at hl 5 rfl) ?_
                  refine gf (k0 := k1 + 2) hX hB h1 rfl in7 1 (by decide) wm_5_149 rfl rfl dX7_product_47 ?_
                  refine lv_icmp_ge (tgt := 80) hx hb dX7_product_50 (by decide) (fun c68 => ?_) (fun c68 => ?_)
                  · rw [nleP (a := C) (b := y7_44) (by omega) (by omega)] at c68
                    replace hR := ifp c68 hR
                    refine lv_aload_n hx hb dX7_product_80 rfl (lv_at hl 4 rfl) ?_
                    refine lv_iload_n hx hb dX7_product_81 rfl (lv_at hl 3 rfl) ?_
                    refine lv_iload hx hb dX7_product_82 (lv_at hl 2 rfl) ?_
                    refine lv_lload hx hb dX7_product_84 (lv_at hl 1 rfl) ?_
                    refine call_V (n := 3) (k0 := 1) (As := [.int (nI y3_18), .int (nI y4_29), .long y5_44]) (rest := []) hX hB (k_X7_put κ l (lA κ b2 (R * 5) fb2_29 :: gO q1 R C_o b2 :: w) 1 0 q1 b2 R C_o fb2_29 (nI y3_18) y3_18 (nI y4_29) y4_29 y5_44 rfl rfl ⟨by omega, by omega, by omega, by omega⟩ rfl rfl (by omega)) ⟨rfl, by decide, by decide, by decide +kernel⟩ wm_5_221 wm_5_222 wm_5_223 wm_1_7 wm_5_224 ⟨Nat.le_of_ble_eq_true rfl, Nat.le_of_ble_eq_true rfl⟩ ⟨Nat.le_of_ble_eq_true rfl, Nat.le_of_ble_eq_true rfl⟩ rfl rfl rfl rfl hl.1 rfl (Nat.le_of_ble_eq_true rfl) dX7_product_86 (fun o w' H locs hp hB => ?_)
                    obtain ⟨rfl, hw9⟩ := hp
                    replace hB : Bd κ A s (lA κ b2 (R * 5) (vp_updL fb2_29 (y3_18 * 5 + y4_29) y5_44) :: gO q1 R C_o b2 :: w) H locs := by rw [hw9] at hB; exact hB
                    refine W.eq (g2 := F0 m 89 ls []) rfl ?_
                    refine lv_iinc (v := nI (y4_29 + 1)) (lv' := [(4, .int (nI (y4_29 + 1))), (7, .int (nI y7_44)), (5, .long y5_44), (3, .int (nI y3_18)), (2, .ref q1), (0, .ref g), (1, .ref g_o)]) hx hb dX7_product_89 hl (k := 2) rfl (nI_add y4_29 1) (by decide) rfl (fun ls hl => ?_)
                    refine lv_goto (tgt := 29) hx hb dX7_product_92 (by decide) ?_
                    exact ih29 (y4_29 + 1) (vp_updL fb2_29 (y3_18 * 5 + y4_29) y5_44) _ _ (by omega) (by omega) hR hB _ (lv_sub hl [0, 3, 4, 5, 6] rfl)
                  · rw [nleP (a := C) (b := y7_44) (by omega) (by omega)] at c68
                    replace hR := ifn c68 hR
                    refine lv_lload hx hb dX7_product_53 (lv_at hl 1 rfl) ?_
                    refine lv_aload_n hx hb dX7_product_55 rfl (lv_at hl 5 rfl) ?_
                    refine lv_iload_n hx hb dX7_product_56 rfl (lv_at hl 3 rfl) ?_
                    refine lv_iload hx hb dX7_product_57 (lv_at hl 0 rfl) ?_
                    refine call_V (n := 2) (k0 := (k1 + 2)) (As := [.int (nI y3_18), .int (nI y7_44)]) (rest := [.long y5_44]) hX hB (k_X7_at κ l (lA κ b2 (R * 5) fb2_29 :: gO q1 R C_o b2 :: w) (k1 + 2) (k2 + 2) g b R C f (nI y3_18) y3_18 (nI y7_44) y7_44 h1 h2 hs rfl rfl (by omega)) ⟨rfl, by decide, by decide, by decide +kernel⟩ wm_6_50 wm_5_238 wm_5_239 wm_1_7 wm_6_0 ⟨Nat.le_of_ble_eq_true rfl, Nat.le_of_ble_eq_true rfl⟩ ⟨Nat.le_of_ble_eq_true rfl, Nat.le_of_ble_eq_true rfl⟩ h1 rfl rfl rfl hl.1 rfl (Nat.le_of_ble_eq_true rfl) dX7_product_59 (fun o w' H locs hp hB => ?_)
                    obtain ⟨rfl, hw9⟩ := hp
                    replace hB : Bd κ A s (lA κ b2 (R * 5) fb2_29 :: gO q1 R C_o b2 :: w) H locs := by rw [hw9] at hB; exact hB
                    refine W.eq (g2 := F0 m 62 ls [.long (f (y3_18 * 5 + y7_44)), .long y5_44]) rfl ?_
                    refine lv_aload_n hx hb dX7_product_62 rfl (lv_at hl 6 rfl) ?_
                    refine lv_iload hx hb dX7_product_63 (lv_at hl 0 rfl) ?_
                    refine lv_iload hx hb dX7_product_65 (lv_at hl 2 rfl) ?_
                    refine call_V (n := 2) (k0 := (k3 + 2)) (As := [.int (nI y7_44), .int (nI y4_29)]) (rest := [.long (f (y3_18 * 5 + y7_44)), .long y5_44]) hX hB (k_X7_at κ l (lA κ b2 (R * 5) fb2_29 :: gO q1 R C_o b2 :: w) (k3 + 2) (k4 + 2) g_o b_o R_o C_o f_o (nI y7_44) y7_44 (nI y4_29) y4_29 h3 h4 hso rfl rfl (by omega)) ⟨rfl, by decide, by decide, by decide +kernel⟩ wm_6_50 wm_5_238 wm_5_239 wm_1_7 wm_6_0 ⟨Nat.le_of_ble_eq_true rfl, Nat.le_of_ble_eq_true rfl⟩ ⟨Nat.le_of_ble_eq_true rfl, Nat.le_of_ble_eq_true rfl⟩ h3 rfl rfl rfl hl.1 rfl (Nat.le_of_ble_eq_true rfl) dX7_product_67 (fun o w' H locs hp hB => ?_)
                    obtain ⟨rfl, hw9⟩ := hp
                    replace hB : Bd κ A s (lA κ b2 (R * 5) fb2_29 :: gO q1 R C_o b2 :: w) H locs := by rw [hw9] at hB; exact hB
                    refine W.eq (g2 := F0 m 70 ls [.long (f_o (y7_44 * 5 + y4_29)), .long (f (y3_18 * 5 + y7_44)), .long y5_44]) rfl ?_
                    refine lv_lmul hx hb dX7_product_70 ?_
                    refine lv_ladd hx hb dX7_product_71 ?_
                    refine lv_lstore (lv' := [(5, .long (y5_44 + ((f (y3_18 * 5 + y7_44)) * (f_o (y7_44 * 5 + y4_29))))), (7, .int (nI y7_44)), (4, .int (nI y4_29)), (3, .int (nI y3_18)), (2, .ref q1), (0, .ref g), (1, .ref g_o)]) hx hb dX7_product_72 hl (by decide) rfl (fun ls hl => ?_)
                    refine lv_iinc (v := nI (y7_44 + 1)) (lv' := [(7, .int (nI (y7_44 + 1))), (5, .long (y5_44 + ((f (y3_18 * 5 + y7_44)) * (f_o (y7_44 * 5 + y4_29))))), (4, .int (nI y4_29)), (3, .int (nI y3_18)), (2, .ref q1), (0, .ref g), (1, .ref g_o)]) hx hb dX7_product_74 hl (k := 1) rfl (nI_add y7_44 1) (by decide) rfl (fun ls hl => ?_)
                    refine lv_goto (tgt := 44) hx hb dX7_product_77 (by decide) ?_
                    exact ih44 (y7_44 + 1) (y5_44 + ((f (y3_18 * 5 + y7_44)) * (f_o (y7_44 * 5 + y4_29)))) _ _ (by omega) (by omega) hR hB _ hl
              exact lp44 _ 0 0 _ _ (by omega) (Nat.lt_succ_self _) hR hB _ hl
        exact lp29 _ 0 fb2_18 _ _ (by omega) (Nat.lt_succ_self _) hR hB _ hl
  exact lp18 _ 0 (fun _ => 0) _ _ (by omega) (Nat.lt_succ_self _) hR hB _ hl
