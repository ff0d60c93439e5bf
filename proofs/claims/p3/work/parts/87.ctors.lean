section CTR
variable {p : Program} {l : Launch} {e : Env} {R : Room} {s : State} {m : MethodId} {args : Array Value} {below : List Frame} {meth : Method} {c : Code} {H : Heap} {locs : List Loc} {cells slots : Nat} {Q : State → Prop}
variable {κ : Kt} {cc : ByteArray} {nL : Nat} {own : String} {ret : Option FieldType} {A : Nat → Prop} {w : va_W} {pc : Nat} {ls : Array Slot} {rest : List Value}
/-- a new array of references -/
theorem newR {C : String} {cA : ClassId} {t0 N index : Nat} {n : Int32} (hX : Cx κ p m c cc nL s args own meth ret A) (hB : Bd κ A s w H locs) (ht : (tysK κ)[t0]? = some (cA, .object C)) (m1 : Cond.classLink own index C ∈ wAll) (hao : va_AO C s) (hn : ¬ n < 0) (hN : n.toNatClampNeg = N) (hbytes : N * 4 ≤ 536870912) (hcells : cells + 1 ≤ R.cells) (hslots : slots + N ≤ R.slots) (hdg : decode cc pc = .ok (.anewarray index, 3))
    (kk : ∀ (q : Nat) (H1 : Heap), Bd κ A s ((q, .inl (cA, N, .inr (.inr (.inr (.inr (fun _ => none)))))) :: w) H1 locs → W p l e R s m args below meth c H1 locs (cells + 1) (slots + N) Q (F0 m (pc + 3) ls (.ref q :: rest))) : W p l e R s m args below meth c H locs cells slots Q (F0 m pc ls (.int n :: rest)) := by
  have hv := hX.1.2.2.2.2
  obtain ⟨kA, comp, g1, g2, g3, g4⟩ := (hX.2.1.1.2 t0 _ ht).2
  refine va_newq hX.1.1 hX.1.2.1 hX.1.2.2.2.1 (hv _ m1) hao hX.2.1.1 hB.1 hB.2.1 hB.2.2 hX.2.2.2.1 hn hN hbytes hcells hslots hdg (fun q cB H1 hK1 h1 h2 h3 => ?_)
  obtain ⟨kB, compB, f1, f2, f3, f4⟩ := (hK1.2 5 _ rfl).2
  have e : cA = cB := Option.some.inj (g4.symm.trans f4)
  subst e
  exact kk q H1 (Bd_rot ⟨h1, h2, h3⟩)
theorem astG {k0 k1 b n v : Nat} {f : Nat → Option Nat} {vs : List Value} {i : Int32} (hX : Cx κ p m c cc nL s args own meth ret A) (hB : Bd κ A s w H locs) (he : w[k0]? = some (b, .inl (κ.2.1 1, n, .inr (.inr (.inr (.inr f)))))) (hv : w[k1]? = some (v, .inr (4, vs))) (hin : vp_in i n) {w1 : va_W} (hw : w.set k0 (b, .inl (κ.2.1 1, n, .inr (.inr (.inr (.inr (va_up f i.toNatClampNeg (some v))))))) = w1) (hdg : decode cc pc = .ok (.aastore, 1))
    (kk : ∀ (H1 : Heap) (locs1 : List Loc), Bd κ A s w1 H1 locs1 → W p l e R s m args below meth c H1 locs1 cells slots Q (F0 m (pc + 1) ls rest)) : W p l e R s m args below meth c H locs cells slots Q (F0 m pc ls (.ref v :: .int i :: .ref b :: rest)) := by
  subst hw
  exact va_astq (tys := tysK κ) (r := (RX3, TX3, 3)) hX.1.1 hX.1.2.1 hX.2.1.1 hB.1 hB.2.1 hB.2.2 k0 1 k1 4 he rfl hv rfl hin hdg (fun H1 locs1 h1 h2 h3 => kk H1 locs1 ⟨h1, h2, h3⟩)
/-- an array of references told by another function -/
theorem Bd_arr {k0 b n : Nat} {cA : ClassId} {f g : Nat → Option Nat} (he : w[k0]? = some (b, .inl (cA, n, .inr (.inr (.inr (.inr f)))))) (h : ∀ j, j < n → f j = g j) (hB : Bd κ A s w H locs) : Bd κ A s (w.set k0 (b, .inl (cA, n, .inr (.inr (.inr (.inr g)))))) H locs := by
  have e : vp_cell cA (n, .inr (.inr (.inr (.inr g)))) = vp_cell cA (n, .inr (.inr (.inr (.inr f)))) := by
    rw [vp_cell_q, vp_cell_q]
    unfold arrV
    congr 2
    funext j
    exact congrArg va_rf (h j.val j.isLt).symm
  refine ⟨hB.1.set hB.2.1 he ?_ (fun q _ => rfl), hB.2.1.set he, hB.2.2⟩
  show H[b]? = some (vp_cell _ _)
  rw [e]
  exact hB.1 k0 _ he
/-- the cells of a world in another order -/
theorem Bd_perm {u v w : va_W} {P : List Nat} {d : Nat × va_E} (hv : v = P.map (fun i => u.getD i d)) (hn : P.length = u.length) (hlt : ∀ i, i < P.length → P.getD i 0 < P.length) (hinj : ∀ i, i < P.length → ∀ j, j < P.length → P.getD i 0 = P.getD j 0 → i = j) (hB : Bd κ A s (u ++ w) H locs) : Bd κ A s (v ++ w) H locs := by
  subst hv
  refine Bd_pick (fun k => if k < P.length then P.getD k 0 else k) (fun i j h => ?_) (fun k q h => ?_) hB
  · have h : (if i < P.length then P.getD i 0 else i) = (if j < P.length then P.getD j 0 else j) := h
    by_cases hi : i < P.length
    · by_cases hj : j < P.length
      · rw [if_pos hi, if_pos hj] at h
        exact hinj i hi j hj h
      · rw [if_pos hi, if_neg hj] at h
        have := hlt i hi
        omega
    · by_cases hj : j < P.length
      · rw [if_neg hi, if_pos hj] at h
        have := hlt j hj
        omega
      · rw [if_neg hi, if_neg hj] at h
        exact h
  · show (u ++ w)[if k < P.length then P.getD k 0 else k]? = some q
    by_cases hk : k < P.length
    · have h1 := hlt k hk
      rw [if_pos hk]
      have hm : k < (P.map (fun i => u.getD i d)).length := by rw [List.length_map]; exact hk
      rw [List.getElem?_append_left hm, List.getElem?_map, List.getElem?_eq_getElem hk] at h
      have e1 : P.getD k 0 = P[k] := by rw [List.getD_eq_getElem?_getD, List.getElem?_eq_getElem hk]; rfl
      rw [e1] at h1 ⊢
      have h2 : P[k] < u.length := by omega
      rw [List.getElem?_append_left h2, List.getElem?_eq_getElem h2, ← h]
      show some _ = some (u.getD P[k] d)
      rw [List.getD_eq_getElem?_getD, List.getElem?_eq_getElem h2]
      rfl
    · rw [if_neg hk]
      rw [List.getElem?_append_right (by rw [List.length_map]; omega), List.length_map, hn] at h
      rw [List.getElem?_append_right (by omega)]
      exact h
end CTR
def va_ls (l : List Nat) : Nat → Nat := fun k => l.getD k 0
theorem df2 : ∀ j, j < 4 → defaultValue (tyX1 j) = vp_V [.null, .null, .null, .int 0] j := by
  intro j hj
  match j, hj with
  | 0, _ => rfl
  | 1, _ => rfl
  | 2, _ => rfl
  | 3, _ => rfl
theorem df3 : ∀ j, j < 4 → defaultValue (tyX2 j) = vp_V [.null, .null, .null, .null] j := by
  intro j hj
  match j, hj with
  | 0, _ => rfl
  | 1, _ => rfl
  | 2, _ => rfl
  | 3, _ => rfl
theorem df4 : ∀ j, j < 3 → defaultValue (tyX3 j) = vp_V [.null, .int 0, .int 0] j := by
  intro j hj
  match j, hj with
  | 0, _ => rfl
  | 1, _ => rfl
  | 2, _ => rfl
theorem df5 : ∀ j, j < 3 → defaultValue (tyX4 j) = vp_V [.null, .null, .int 0] j := by
  intro j hj
  match j, hj with
  | 0, _ => rfl
  | 1, _ => rfl
  | 2, _ => rfl
theorem mok_1 : mok (fun _ => 1) (fun _ _ => 0) := fun i hi => ⟨(by decide : (1 : Nat) ≤ 1 ∧ (1 : Nat) ≤ 4 ∧ (1 : Nat) ≤ 1 ∧ (1 : Nat) ≤ 4), fun k hk => sm_0⟩
theorem okr_1 : okr (fun _ => 1) := fun i hi => (by decide : ((1 : Int32) ≤ 1 ∧ (1 : Int32) ≤ 4) ∧ ((1 : Int32) ≤ 1 ∧ (1 : Int32) ≤ 5))

set_option maxHeartbeats 4000000 in
set_option maxRecDepth 100000 in
theorem k_X3_init (κ : Kt) (l : Launch) (w : va_W) (s_0 : Nat)  : CM κ l yX3_init cX3_init 1 (none) 1 20 1 20 [.ref s_0] ((s_0, .inr (4, [.null, .int 0, .int 0])) :: w) (fun o w' => ∃ (b1 : Nat), o = none ∧ w' = lA κ b1 20 (fun _ => 0) :: (s_0, .inr (4, [.ref b1, .int 1, .int 1])) :: w) := by
  refine CM_begin (plainFor_of_name (by decide)) (Nat.le_of_ble_eq_true rfl) ?_
  intro p e s m args below meth c A Q hX hnm hA3 hQ hB ls hl
  have hx := hX.1.1
  have hb := hX.1.2.1
  have hl : lv_has ls 1 [(0, .ref s_0)] := hl
  refine lv_aload_n hx hb dX3_init_0 rfl (lv_at hl 0 rfl) ?_
  refine W.objInit hx hb hX.1.2.2.2.1 (hX.1.2.2.2.2 _ wm_1_44) (hX.1.2.2.2.2 _ wm_1_36) (hX.1.2.2.2.2 _ wm_1_37) rfl (by rw [hX.1.2.2.1]; exact hl.1) rfl dX3_init_1 (Nat.le_of_ble_eq_true rfl) (Nat.le_of_ble_eq_true rfl) ?_
  refine W.eq (g2 := F0 m 4 ls []) rfl ?_
  refine lv_aload_n hx hb dX3_init_4 rfl (lv_at hl 0 rfl) ?_
  refine lv_bipush (v := 20) hx hb dX3_init_5 (by decide) ?_
  refine newA (t0 := 0) (ty := .long) (N := 20) (mx := 20) (a0 := (20, .inr (.inl (fun _ => 0)))) hX hB rfl rfl (fun h => h) wm_1_65 (fun _ => rfl) (nI_pos (n := 20) (by omega)) (nI_clamp (n := 20) (by omega)) (by omega) (Nat.le_of_ble_eq_true rfl) (Nat.le_of_ble_eq_true rfl) (Nat.le_of_ble_eq_true rfl) dX3_init_7 (fun q1 H hB => ?_)
  refine pfF (ty := .array .long) (k0 := 1) hX hnm hB rfl rfl in3 tyX3_ok nmX3 0 (by decide) wm_1_45 rfl rfl rfl rfl rfl rfl (Nat.le_of_ble_eq_true rfl) (w1 := lA κ q1 20 (fun _ => 0) :: (s_0, .inr (4, [.ref q1, .int 0, .int 0])) :: w) rfl dX3_init_9 (fun H locs hB => ?_)
  refine lv_aload_n hx hb dX3_init_12 rfl (lv_at hl 0 rfl) ?_
  refine lv_iconst (v := 1) hx hb dX3_init_13 (by decide) ?_
  refine pf (ty := .int) (k0 := 1) hX hB rfl rfl in3 tyX3_ok nmX3 1 (by decide) wm_1_46 rfl rfl rfl rfl rfl (Nat.le_of_ble_eq_true rfl) (w1 := lA κ q1 20 (fun _ => 0) :: (s_0, .inr (4, [.ref q1, .int 1, .int 0])) :: w) rfl dX3_init_14 (fun H locs hB => ?_)
  refine lv_aload_n hx hb dX3_init_17 rfl (lv_at hl 0 rfl) ?_
  refine lv_iconst (v := 1) hx hb dX3_init_18 (by decide) ?_
  refine pf (ty := .int) (k0 := 1) hX hB rfl rfl in3 tyX3_ok nmX3 2 (by decide) wm_1_52 rfl rfl rfl rfl rfl (Nat.le_of_ble_eq_true rfl) (w1 := lA κ q1 20 (fun _ => 0) :: (s_0, .inr (4, [.ref q1, .int 1, .int 1])) :: w) rfl dX3_init_19 (fun H locs hB => ?_)
  rw [← hQ]
  exact end_v hX hB hA3 rfl ⟨q1, rfl, rfl⟩ (Nat.le_of_ble_eq_true rfl) (Nat.le_of_ble_eq_true rfl) dX3_init_22
set_option maxHeartbeats 4000000 in
set_option maxRecDepth 100000 in
theorem k_X4_init (κ : Kt) (l : Launch) (w : va_W) (s_0 : Nat)  : CM κ l yX4_init cX4_init 1 (none) 2 40 4 46 [.ref s_0] ((s_0, .inr (5, [.null, .null, .int 0])) :: w) (fun o w' => ∃ (g1 : Nat) (b1 : Nat) (g2 : Nat) (b2 : Nat), o = none ∧ w' = lA κ b2 20 (fun _ => 0) :: (g2, .inr (4, [.ref b2, .int 1, .int 1])) :: lA κ b1 20 (fun _ => 0) :: (g1, .inr (4, [.ref b1, .int 1, .int 1])) :: (s_0, .inr (5, [.ref g1, .ref g2, .int 0])) :: w) := by
  refine CM_begin (plainFor_of_name (by decide)) (Nat.le_of_ble_eq_true rfl) ?_
  intro p e s m args below meth c A Q hX hnm hA3 hQ hB ls hl
  have hx := hX.1.1
  have hb := hX.1.2.1
  have hl : lv_has ls 1 [(0, .ref s_0)] := hl
  refine lv_aload_n hx hb dX4_init_0 rfl (lv_at hl 0 rfl) ?_
  refine W.objInit hx hb hX.1.2.2.2.1 (hX.1.2.2.2.2 _ wm_1_71) (hX.1.2.2.2.2 _ wm_1_36) (hX.1.2.2.2.2 _ wm_1_37) rfl (by rw [hX.1.2.2.1]; exact hl.1) rfl dX4_init_1 (Nat.le_of_ble_eq_true rfl) (Nat.le_of_ble_eq_true rfl) ?_
  refine W.eq (g2 := F0 m 4 ls []) rfl ?_
  refine lv_aload_n hx hb dX4_init_4 rfl (lv_at hl 0 rfl) ?_
  refine newO (fs := [.null, .int 0, .int 0]) hX hB (ci := 4) rfl in3 tyX3_ok wm_1_72 wm_1_40 wm_1_2 df4 (Nat.le_of_ble_eq_true rfl) (Nat.le_of_ble_eq_true rfl) dX4_init_5 (fun q1 H hB => ?_)
  refine lv_dup hx hb dX4_init_8 rfl ?_
  refine call_IN (n := 0) (As := []) (rest := [.ref q1, .ref s_0]) hX hB (k_X3_init κ l ((s_0, .inr (5, [.null, .null, .int 0])) :: w) q1 ) ⟨by decide, by decide, by decide +kernel⟩ rfl wn_1_73 wm_1_42 wm_1_2 wm_1_43 ⟨Nat.le_of_ble_eq_true rfl, Nat.le_of_ble_eq_true rfl⟩ ⟨Nat.le_of_ble_eq_true rfl, Nat.le_of_ble_eq_true rfl⟩ rfl hl.1 rfl (Nat.le_of_ble_eq_true rfl) dX4_init_9 (fun o w' H locs hp hB => ?_)
  obtain ⟨b2, rfl, hw9⟩ := hp
  replace hB : Bd κ A s (lA κ b2 20 (fun _ => 0) :: (q1, .inr (4, [.ref b2, .int 1, .int 1])) :: (s_0, .inr (5, [.null, .null, .int 0])) :: w) H locs := by rw [hw9] at hB; exact hB
  refine W.eq (g2 := F0 m 12 ls [.ref q1, .ref s_0]) rfl ?_
  refine pfF (ty := .object "Gridmender$Grid") (k0 := 2) hX hnm hB rfl rfl in4 tyX4_ok nmX4 0 (by decide) wm_1_74 rfl rfl rfl rfl rfl rfl (Nat.le_of_ble_eq_true rfl) (w1 := lA κ b2 20 (fun _ => 0) :: (q1, .inr (4, [.ref b2, .int 1, .int 1])) :: (s_0, .inr (5, [.ref q1, .null, .int 0])) :: w) rfl dX4_init_12 (fun H locs hB => ?_)
  refine lv_aload_n hx hb dX4_init_15 rfl (lv_at hl 0 rfl) ?_
  refine newO (fs := [.null, .int 0, .int 0]) hX hB (ci := 4) rfl in3 tyX3_ok wm_1_72 wm_1_40 wm_1_2 df4 (Nat.le_of_ble_eq_true rfl) (Nat.le_of_ble_eq_true rfl) dX4_init_16 (fun q3 H hB => ?_)
  refine lv_dup hx hb dX4_init_19 rfl ?_
  refine call_IN (n := 0) (As := []) (rest := [.ref q3, .ref s_0]) hX hB (k_X3_init κ l (lA κ b2 20 (fun _ => 0) :: (q1, .inr (4, [.ref b2, .int 1, .int 1])) :: (s_0, .inr (5, [.ref q1, .null, .int 0])) :: w) q3 ) ⟨by decide, by decide, by decide +kernel⟩ rfl wn_1_73 wm_1_42 wm_1_2 wm_1_43 ⟨Nat.le_of_ble_eq_true rfl, Nat.le_of_ble_eq_true rfl⟩ ⟨Nat.le_of_ble_eq_true rfl, Nat.le_of_ble_eq_true rfl⟩ rfl hl.1 rfl (Nat.le_of_ble_eq_true rfl) dX4_init_20 (fun o w' H locs hp hB => ?_)
  obtain ⟨b4, rfl, hw9⟩ := hp
  replace hB : Bd κ A s (lA κ b4 20 (fun _ => 0) :: (q3, .inr (4, [.ref b4, .int 1, .int 1])) :: lA κ b2 20 (fun _ => 0) :: (q1, .inr (4, [.ref b2, .int 1, .int 1])) :: (s_0, .inr (5, [.ref q1, .null, .int 0])) :: w) H locs := by rw [hw9] at hB; exact hB
  refine W.eq (g2 := F0 m 23 ls [.ref q3, .ref s_0]) rfl ?_
  refine pfF (ty := .object "Gridmender$Grid") (k0 := 4) hX hnm hB rfl rfl in4 tyX4_ok nmX4 1 (by decide) wm_1_76 rfl rfl rfl rfl rfl rfl (Nat.le_of_ble_eq_true rfl) (w1 := lA κ b4 20 (fun _ => 0) :: (q3, .inr (4, [.ref b4, .int 1, .int 1])) :: lA κ b2 20 (fun _ => 0) :: (q1, .inr (4, [.ref b2, .int 1, .int 1])) :: (s_0, .inr (5, [.ref q1, .ref q3, .int 0])) :: w) rfl dX4_init_23 (fun H locs hB => ?_)
  rw [← hQ]
  exact end_v hX hB hA3 rfl ⟨q1, b2, q3, b4, rfl, rfl⟩ (Nat.le_of_ble_eq_true rfl) (Nat.le_of_ble_eq_true rfl) dX4_init_26
set_option maxHeartbeats 4000000 in
set_option maxRecDepth 100000 in
theorem k_X1_init (κ : Kt) (l : Launch) (w : va_W) (s_0 : Nat)  : CM κ l yX1_init cX1_init 1 (none) 2 40 6 69 [.ref s_0] ((s_0, .inr (2, [.null, .null, .null, .int 0])) :: w) (fun o w' => ∃ (g1 : Nat) (b1 : Nat) (g2 : Nat) (b2 : Nat) (g3 : Nat) (b3 : Nat), o = none ∧ w' = lA κ b3 20 (fun _ => 0) :: (g3, .inr (4, [.ref b3, .int 1, .int 1])) :: lA κ b2 20 (fun _ => 0) :: (g2, .inr (4, [.ref b2, .int 1, .int 1])) :: lA κ b1 20 (fun _ => 0) :: (g1, .inr (4, [.ref b1, .int 1, .int 1])) :: (s_0, .inr (2, [.ref g1, .ref g2, .ref g3, .int 0])) :: w) := by
  refine CM_begin (plainFor_of_name (by decide)) (Nat.le_of_ble_eq_true rfl) ?_
  intro p e s m args below meth c A Q hX hnm hA3 hQ hB ls hl
  have hx := hX.1.1
  have hb := hX.1.2.1
  have hl : lv_has ls 1 [(0, .ref s_0)] := hl
  refine lv_aload_n hx hb dX1_init_0 rfl (lv_at hl 0 rfl) ?_
  refine W.objInit hx hb hX.1.2.2.2.1 (hX.1.2.2.2.2 _ wm_1_92) (hX.1.2.2.2.2 _ wm_1_36) (hX.1.2.2.2.2 _ wm_1_37) rfl (by rw [hX.1.2.2.1]; exact hl.1) rfl dX1_init_1 (Nat.le_of_ble_eq_true rfl) (Nat.le_of_ble_eq_true rfl) ?_
  refine W.eq (g2 := F0 m 4 ls []) rfl ?_
  refine lv_aload_n hx hb dX1_init_4 rfl (lv_at hl 0 rfl) ?_
  refine newO (fs := [.null, .int 0, .int 0]) hX hB (ci := 4) rfl in3 tyX3_ok wm_1_93 wm_1_40 wm_1_2 df4 (Nat.le_of_ble_eq_true rfl) (Nat.le_of_ble_eq_true rfl) dX1_init_5 (fun q1 H hB => ?_)
  refine lv_dup hx hb dX1_init_8 rfl ?_
  refine call_IN (n := 0) (As := []) (rest := [.ref q1, .ref s_0]) hX hB (k_X3_init κ l ((s_0, .inr (2, [.null, .null, .null, .int 0])) :: w) q1 ) ⟨by decide, by decide, by decide +kernel⟩ rfl wn_1_94 wm_1_42 wm_1_2 wm_1_43 ⟨Nat.le_of_ble_eq_true rfl, Nat.le_of_ble_eq_true rfl⟩ ⟨Nat.le_of_ble_eq_true rfl, Nat.le_of_ble_eq_true rfl⟩ rfl hl.1 rfl (Nat.le_of_ble_eq_true rfl) dX1_init_9 (fun o w' H locs hp hB => ?_)
  obtain ⟨b2, rfl, hw9⟩ := hp
  replace hB : Bd κ A s (lA κ b2 20 (fun _ => 0) :: (q1, .inr (4, [.ref b2, .int 1, .int 1])) :: (s_0, .inr (2, [.null, .null, .null, .int 0])) :: w) H locs := by rw [hw9] at hB; exact hB
  refine W.eq (g2 := F0 m 12 ls [.ref q1, .ref s_0]) rfl ?_
  refine pfF (ty := .object "Gridmender$Grid") (k0 := 2) hX hnm hB rfl rfl in1 tyX1_ok nmX1 0 (by decide) wm_1_95 rfl rfl rfl rfl rfl rfl (Nat.le_of_ble_eq_true rfl) (w1 := lA κ b2 20 (fun _ => 0) :: (q1, .inr (4, [.ref b2, .int 1, .int 1])) :: (s_0, .inr (2, [.ref q1, .null, .null, .int 0])) :: w) rfl dX1_init_12 (fun H locs hB => ?_)
  refine lv_aload_n hx hb dX1_init_15 rfl (lv_at hl 0 rfl) ?_
  refine newO (fs := [.null, .int 0, .int 0]) hX hB (ci := 4) rfl in3 tyX3_ok wm_1_93 wm_1_40 wm_1_2 df4 (Nat.le_of_ble_eq_true rfl) (Nat.le_of_ble_eq_true rfl) dX1_init_16 (fun q3 H hB => ?_)
  refine lv_dup hx hb dX1_init_19 rfl ?_
  refine call_IN (n := 0) (As := []) (rest := [.ref q3, .ref s_0]) hX hB (k_X3_init κ l (lA κ b2 20 (fun _ => 0) :: (q1, .inr (4, [.ref b2, .int 1, .int 1])) :: (s_0, .inr (2, [.ref q1, .null, .null, .int 0])) :: w) q3 ) ⟨by decide, by decide, by decide +kernel⟩ rfl wn_1_94 wm_1_42 wm_1_2 wm_1_43 ⟨Nat.le_of_ble_eq_true rfl, Nat.le_of_ble_eq_true rfl⟩ ⟨Nat.le_of_ble_eq_true rfl, Nat.le_of_ble_eq_true rfl⟩ rfl hl.1 rfl (Nat.le_of_ble_eq_true rfl) dX1_init_20 (fun o w' H locs hp hB => ?_)
  obtain ⟨b4, rfl, hw9⟩ := hp
  replace hB : Bd κ A s (lA κ b4 20 (fun _ => 0) :: (q3, .inr (4, [.ref b4, .int 1, .int 1])) :: lA κ b2 20 (fun _ => 0) :: (q1, .inr (4, [.ref b2, .int 1, .int 1])) :: (s_0, .inr (2, [.ref q1, .null, .null, .int 0])) :: w) H locs := by rw [hw9] at hB; exact hB
  refine W.eq (g2 := F0 m 23 ls [.ref q3, .ref s_0]) rfl ?_
  refine pfF (ty := .object "Gridmender$Grid") (k0 := 4) hX hnm hB rfl rfl in1 tyX1_ok nmX1 1 (by decide) wm_1_98 rfl rfl rfl rfl rfl rfl (Nat.le_of_ble_eq_true rfl) (w1 := lA κ b4 20 (fun _ => 0) :: (q3, .inr (4, [.ref b4, .int 1, .int 1])) :: lA κ b2 20 (fun _ => 0) :: (q1, .inr (4, [.ref b2, .int 1, .int 1])) :: (s_0, .inr (2, [.ref q1, .ref q3, .null, .int 0])) :: w) rfl dX1_init_23 (fun H locs hB => ?_)
  refine lv_aload_n hx hb dX1_init_26 rfl (lv_at hl 0 rfl) ?_
  refine newO (fs := [.null, .int 0, .int 0]) hX hB (ci := 4) rfl in3 tyX3_ok wm_1_93 wm_1_40 wm_1_2 df4 (Nat.le_of_ble_eq_true rfl) (Nat.le_of_ble_eq_true rfl) dX1_init_27 (fun q5 H hB => ?_)
  refine lv_dup hx hb dX1_init_30 rfl ?_
  refine call_IN (n := 0) (As := []) (rest := [.ref q5, .ref s_0]) hX hB (k_X3_init κ l (lA κ b4 20 (fun _ => 0) :: (q3, .inr (4, [.ref b4, .int 1, .int 1])) :: lA κ b2 20 (fun _ => 0) :: (q1, .inr (4, [.ref b2, .int 1, .int 1])) :: (s_0, .inr (2, [.ref q1, .ref q3, .null, .int 0])) :: w) q5 ) ⟨by decide, by decide, by decide +kernel⟩ rfl wn_1_94 wm_1_42 wm_1_2 wm_1_43 ⟨Nat.le_of_ble_eq_true rfl, Nat.le_of_ble_eq_true rfl⟩ ⟨Nat.le_of_ble_eq_true rfl, Nat.le_of_ble_eq_true rfl⟩ rfl hl.1 rfl (Nat.le_of_ble_eq_true rfl) dX1_init_31 (fun o w' H locs hp hB => ?_)
  obtain ⟨b6, rfl, hw9⟩ := hp
  replace hB : Bd κ A s (lA κ b6 20 (fun _ => 0) :: (q5, .inr (4, [.ref b6, .int 1, .int 1])) :: lA κ b4 20 (fun _ => 0) :: (q3, .inr (4, [.ref b4, .int 1, .int 1])) :: lA κ b2 20 (fun _ => 0) :: (q1, .inr (4, [.ref b2, .int 1, .int 1])) :: (s_0, .inr (2, [.ref q1, .ref q3, .null, .int 0])) :: w) H locs := by rw [hw9] at hB; exact hB
  refine W.eq (g2 := F0 m 34 ls [.ref q5, .ref s_0]) rfl ?_
  refine pfF (ty := .object "Gridmender$Grid") (k0 := 6) hX hnm hB rfl rfl in1 tyX1_ok nmX1 2 (by decide) wm_1_101 rfl rfl rfl rfl rfl rfl (Nat.le_of_ble_eq_true rfl) (w1 := lA κ b6 20 (fun _ => 0) :: (q5, .inr (4, [.ref b6, .int 1, .int 1])) :: lA κ b4 20 (fun _ => 0) :: (q3, .inr (4, [.ref b4, .int 1, .int 1])) :: lA κ b2 20 (fun _ => 0) :: (q1, .inr (4, [.ref b2, .int 1, .int 1])) :: (s_0, .inr (2, [.ref q1, .ref q3, .ref q5, .int 0])) :: w) rfl dX1_init_34 (fun H locs hB => ?_)
  rw [← hQ]
  exact end_v hX hB hA3 rfl ⟨q1, b2, q3, b4, q5, b6, rfl, rfl⟩ (Nat.le_of_ble_eq_true rfl) (Nat.le_of_ble_eq_true rfl) dX1_init_37
set_option maxHeartbeats 4000000 in
set_option maxRecDepth 100000 in
theorem k_X2_init (κ : Kt) (l : Launch) (w : va_W) (s_0 : Nat)  : CM κ l yX2_init cX2_init 1 (none) 2 40 8 92 [.ref s_0] ((s_0, .inr (3, [.null, .null, .null, .null])) :: w) (fun o w' => ∃ (g1 : Nat) (b1 : Nat) (g2 : Nat) (b2 : Nat) (g3 : Nat) (b3 : Nat) (g4 : Nat) (b4 : Nat), o = none ∧ w' = lA κ b4 20 (fun _ => 0) :: (g4, .inr (4, [.ref b4, .int 1, .int 1])) :: lA κ b3 20 (fun _ => 0) :: (g3, .inr (4, [.ref b3, .int 1, .int 1])) :: lA κ b2 20 (fun _ => 0) :: (g2, .inr (4, [.ref b2, .int 1, .int 1])) :: lA κ b1 20 (fun _ => 0) :: (g1, .inr (4, [.ref b1, .int 1, .int 1])) :: (s_0, .inr (3, [.ref g1, .ref g2, .ref g3, .ref g4])) :: w) := by
  refine CM_begin (plainFor_of_name (by decide)) (Nat.le_of_ble_eq_true rfl) ?_
  intro p e s m args below meth c A Q hX hnm hA3 hQ hB ls hl
  have hx := hX.1.1
  have hb := hX.1.2.1
  have hl : lv_has ls 1 [(0, .ref s_0)] := hl
  refine lv_aload_n hx hb dX2_init_0 rfl (lv_at hl 0 rfl) ?_
  refine W.objInit hx hb hX.1.2.2.2.1 (hX.1.2.2.2.2 _ wm_1_120) (hX.1.2.2.2.2 _ wm_1_36) (hX.1.2.2.2.2 _ wm_1_37) rfl (by rw [hX.1.2.2.1]; exact hl.1) rfl dX2_init_1 (Nat.le_of_ble_eq_true rfl) (Nat.le_of_ble_eq_true rfl) ?_
  refine W.eq (g2 := F0 m 4 ls []) rfl ?_
  refine lv_aload_n hx hb dX2_init_4 rfl (lv_at hl 0 rfl) ?_
  refine newO (fs := [.null, .int 0, .int 0]) hX hB (ci := 4) rfl in3 tyX3_ok wm_1_121 wm_1_40 wm_1_2 df4 (Nat.le_of_ble_eq_true rfl) (Nat.le_of_ble_eq_true rfl) dX2_init_5 (fun q1 H hB => ?_)
  refine lv_dup hx hb dX2_init_8 rfl ?_
  refine call_IN (n := 0) (As := []) (rest := [.ref q1, .ref s_0]) hX hB (k_X3_init κ l ((s_0, .inr (3, [.null, .null, .null, .null])) :: w) q1 ) ⟨by decide, by decide, by decide +kernel⟩ rfl wn_1_122 wm_1_42 wm_1_2 wm_1_43 ⟨Nat.le_of_ble_eq_true rfl, Nat.le_of_ble_eq_true rfl⟩ ⟨Nat.le_of_ble_eq_true rfl, Nat.le_of_ble_eq_true rfl⟩ rfl hl.1 rfl (Nat.le_of_ble_eq_true rfl) dX2_init_9 (fun o w' H locs hp hB => ?_)
  obtain ⟨b2, rfl, hw9⟩ := hp
  replace hB : Bd κ A s (lA κ b2 20 (fun _ => 0) :: (q1, .inr (4, [.ref b2, .int 1, .int 1])) :: (s_0, .inr (3, [.null, .null, .null, .null])) :: w) H locs := by rw [hw9] at hB; exact hB
  refine W.eq (g2 := F0 m 12 ls [.ref q1, .ref s_0]) rfl ?_
  refine pfF (ty := .object "Gridmender$Grid") (k0 := 2) hX hnm hB rfl rfl in2 tyX2_ok nmX2 0 (by decide) wm_1_123 rfl rfl rfl rfl rfl rfl (Nat.le_of_ble_eq_true rfl) (w1 := lA κ b2 20 (fun _ => 0) :: (q1, .inr (4, [.ref b2, .int 1, .int 1])) :: (s_0, .inr (3, [.ref q1, .null, .null, .null])) :: w) rfl dX2_init_12 (fun H locs hB => ?_)
  refine lv_aload_n hx hb dX2_init_15 rfl (lv_at hl 0 rfl) ?_
  refine newO (fs := [.null, .int 0, .int 0]) hX hB (ci := 4) rfl in3 tyX3_ok wm_1_121 wm_1_40 wm_1_2 df4 (Nat.le_of_ble_eq_true rfl) (Nat.le_of_ble_eq_true rfl) dX2_init_16 (fun q3 H hB => ?_)
  refine lv_dup hx hb dX2_init_19 rfl ?_
  refine call_IN (n := 0) (As := []) (rest := [.ref q3, .ref s_0]) hX hB (k_X3_init κ l (lA κ b2 20 (fun _ => 0) :: (q1, .inr (4, [.ref b2, .int 1, .int 1])) :: (s_0, .inr (3, [.ref q1, .null, .null, .null])) :: w) q3 ) ⟨by decide, by decide, by decide +kernel⟩ rfl wn_1_122 wm_1_42 wm_1_2 wm_1_43 ⟨Nat.le_of_ble_eq_true rfl, Nat.le_of_ble_eq_true rfl⟩ ⟨Nat.le_of_ble_eq_true rfl, Nat.le_of_ble_eq_true rfl⟩ rfl hl.1 rfl (Nat.le_of_ble_eq_true rfl) dX2_init_20 (fun o w' H locs hp hB => ?_)
  obtain ⟨b4, rfl, hw9⟩ := hp
  replace hB : Bd κ A s (lA κ b4 20 (fun _ => 0) :: (q3, .inr (4, [.ref b4, .int 1, .int 1])) :: lA κ b2 20 (fun _ => 0) :: (q1, .inr (4, [.ref b2, .int 1, .int 1])) :: (s_0, .inr (3, [.ref q1, .null, .null, .null])) :: w) H locs := by rw [hw9] at hB; exact hB
  refine W.eq (g2 := F0 m 23 ls [.ref q3, .ref s_0]) rfl ?_
  refine pfF (ty := .object "Gridmender$Grid") (k0 := 4) hX hnm hB rfl rfl in2 tyX2_ok nmX2 1 (by decide) wm_1_124 rfl rfl rfl rfl rfl rfl (Nat.le_of_ble_eq_true rfl) (w1 := lA κ b4 20 (fun _ => 0) :: (q3, .inr (4, [.ref b4, .int 1, .int 1])) :: lA κ b2 20 (fun _ => 0) :: (q1, .inr (4, [.ref b2, .int 1, .int 1])) :: (s_0, .inr (3, [.ref q1, .ref q3, .null, .null])) :: w) rfl dX2_init_23 (fun H locs hB => ?_)
  refine lv_aload_n hx hb dX2_init_26 rfl (lv_at hl 0 rfl) ?_
  refine newO (fs := [.null, .int 0, .int 0]) hX hB (ci := 4) rfl in3 tyX3_ok wm_1_121 wm_1_40 wm_1_2 df4 (Nat.le_of_ble_eq_true rfl) (Nat.le_of_ble_eq_true rfl) dX2_init_27 (fun q5 H hB => ?_)
  refine lv_dup hx hb dX2_init_30 rfl ?_
  refine call_IN (n := 0) (As := []) (rest := [.ref q5, .ref s_0]) hX hB (k_X3_init κ l (lA κ b4 20 (fun _ => 0) :: (q3, .inr (4, [.ref b4, .int 1, .int 1])) :: lA κ b2 20 (fun _ => 0) :: (q1, .inr (4, [.ref b2, .int 1, .int 1])) :: (s_0, .inr (3, [.ref q1, .ref q3, .null, .null])) :: w) q5 ) ⟨by decide, by decide, by decide +kernel⟩ rfl wn_1_122 wm_1_42 wm_1_2 wm_1_43 ⟨Nat.le_of_ble_eq_true rfl, Nat.le_of_ble_eq_true rfl⟩ ⟨Nat.le_of_ble_eq_true rfl, Nat.le_of_ble_eq_true rfl⟩ rfl hl.1 rfl (Nat.le_of_ble_eq_true rfl) dX2_init_31 (fun o w' H locs hp hB => ?_)
  obtain ⟨b6, rfl, hw9⟩ := hp
  replace hB : Bd κ A s (lA κ b6 20 (fun _ => 0) :: (q5, .inr (4, [.ref b6, .int 1, .int 1])) :: lA κ b4 20 (fun _ => 0) :: (q3, .inr (4, [.ref b4, .int 1, .int 1])) :: lA κ b2 20 (fun _ => 0) :: (q1, .inr (4, [.ref b2, .int 1, .int 1])) :: (s_0, .inr (3, [.ref q1, .ref q3, .null, .null])) :: w) H locs := by rw [hw9] at hB; exact hB
  refine W.eq (g2 := F0 m 34 ls [.ref q5, .ref s_0]) rfl ?_
  refine pfF (ty := .object "Gridmender$Grid") (k0 := 6) hX hnm hB rfl rfl in2 tyX2_ok nmX2 2 (by decide) wm_1_125 rfl rfl rfl rfl rfl rfl (Nat.le_of_ble_eq_true rfl) (w1 := lA κ b6 20 (fun _ => 0) :: (q5, .inr (4, [.ref b6, .int 1, .int 1])) :: lA κ b4 20 (fun _ => 0) :: (q3, .inr (4, [.ref b4, .int 1, .int 1])) :: lA κ b2 20 (fun _ => 0) :: (q1, .inr (4, [.ref b2, .int 1, .int 1])) :: (s_0, .inr (3, [.ref q1, .ref q3, .ref q5, .null])) :: w) rfl dX2_init_34 (fun H locs hB => ?_)
  refine lv_aload_n hx hb dX2_init_37 rfl (lv_at hl 0 rfl) ?_
  refine newO (fs := [.null, .int 0, .int 0]) hX hB (ci := 4) rfl in3 tyX3_ok wm_1_121 wm_1_40 wm_1_2 df4 (Nat.le_of_ble_eq_true rfl) (Nat.le_of_ble_eq_true rfl) dX2_init_38 (fun q7 H hB => ?_)
  refine lv_dup hx hb dX2_init_41 rfl ?_
  refine call_IN (n := 0) (As := []) (rest := [.ref q7, .ref s_0]) hX hB (k_X3_init κ l (lA κ b6 20 (fun _ => 0) :: (q5, .inr (4, [.ref b6, .int 1, .int 1])) :: lA κ b4 20 (fun _ => 0) :: (q3, .inr (4, [.ref b4, .int 1, .int 1])) :: lA κ b2 20 (fun _ => 0) :: (q1, .inr (4, [.ref b2, .int 1, .int 1])) :: (s_0, .inr (3, [.ref q1, .ref q3, .ref q5, .null])) :: w) q7 ) ⟨by decide, by decide, by decide +kernel⟩ rfl wn_1_122 wm_1_42 wm_1_2 wm_1_43 ⟨Nat.le_of_ble_eq_true rfl, Nat.le_of_ble_eq_true rfl⟩ ⟨Nat.le_of_ble_eq_true rfl, Nat.le_of_ble_eq_true rfl⟩ rfl hl.1 rfl (Nat.le_of_ble_eq_true rfl) dX2_init_42 (fun o w' H locs hp hB => ?_)
  obtain ⟨b8, rfl, hw9⟩ := hp
  replace hB : Bd κ A s (lA κ b8 20 (fun _ => 0) :: (q7, .inr (4, [.ref b8, .int 1, .int 1])) :: lA κ b6 20 (fun _ => 0) :: (q5, .inr (4, [.ref b6, .int 1, .int 1])) :: lA κ b4 20 (fun _ => 0) :: (q3, .inr (4, [.ref b4, .int 1, .int 1])) :: lA κ b2 20 (fun _ => 0) :: (q1, .inr (4, [.ref b2, .int 1, .int 1])) :: (s_0, .inr (3, [.ref q1, .ref q3, .ref q5, .null])) :: w) H locs := by rw [hw9] at hB; exact hB
  refine W.eq (g2 := F0 m 45 ls [.ref q7, .ref s_0]) rfl ?_
  refine pfF (ty := .object "Gridmender$Grid") (k0 := 8) hX hnm hB rfl rfl in2 tyX2_ok nmX2 3 (by decide) wm_1_126 rfl rfl rfl rfl rfl rfl (Nat.le_of_ble_eq_true rfl) (w1 := lA κ b8 20 (fun _ => 0) :: (q7, .inr (4, [.ref b8, .int 1, .int 1])) :: lA κ b6 20 (fun _ => 0) :: (q5, .inr (4, [.ref b6, .int 1, .int 1])) :: lA κ b4 20 (fun _ => 0) :: (q3, .inr (4, [.ref b4, .int 1, .int 1])) :: lA κ b2 20 (fun _ => 0) :: (q1, .inr (4, [.ref b2, .int 1, .int 1])) :: (s_0, .inr (3, [.ref q1, .ref q3, .ref q5, .ref q7])) :: w) rfl dX2_init_45 (fun H locs hB => ?_)
  rw [← hQ]
  exact end_v hX hB hA3 rfl ⟨q1, b2, q3, b4, q5, b6, q7, b8, rfl, rfl⟩ (Nat.le_of_ble_eq_true rfl) (Nat.le_of_ble_eq_true rfl) dX2_init_48
set_option maxHeartbeats 4000000 in
set_option maxRecDepth 100000 in
theorem k_X6_init (κ : Kt) (l : Launch) (w : va_W) (s_0 : Nat)  : CM κ l yX6_init cX6_init 1 (none) 1 20 0 0 [.ref s_0] ((s_0, .inr (7, [.long 0, .null])) :: w) (fun o w' => o = none ∧ w' = (s_0, .inr (7, [.long 0, .null])) :: w) := by
  refine CM_begin (plainFor_of_name (by decide)) (Nat.le_of_ble_eq_true rfl) ?_
  intro p e s m args below meth c A Q hX hnm hA3 hQ hB ls hl
  have hx := hX.1.1
  have hb := hX.1.2.1
  have hl : lv_has ls 1 [(0, .ref s_0)] := hl
  refine lv_aload_n hx hb dX6_init_0 rfl (lv_at hl 0 rfl) ?_
  refine W.objInit hx hb hX.1.2.2.2.1 (hX.1.2.2.2.2 _ wm_2_148) (hX.1.2.2.2.2 _ wm_1_36) (hX.1.2.2.2.2 _ wm_1_37) rfl (by rw [hX.1.2.2.1]; exact hl.1) rfl dX6_init_1 (Nat.le_of_ble_eq_true rfl) (Nat.le_of_ble_eq_true rfl) ?_
  refine W.eq (g2 := F0 m 4 ls []) rfl ?_
  rw [← hQ]
  exact end_v hX hB hA3 rfl ⟨rfl, rfl⟩ (Nat.le_of_ble_eq_true rfl) (Nat.le_of_ble_eq_true rfl) dX6_init_4
set_option maxHeartbeats 4000000 in
set_option maxRecDepth 100000 in
theorem k_X5_init (κ : Kt) (l : Launch) (w : va_W) (s_0 : Nat)  : CM κ l yX5_init cX5_init 2 (none) 3 60 35 380 [.ref s_0] ((s_0, .inr (6, [.null, .null, .null, .null, .null, .null, .null, .int 0, .int 0, .int 0])) :: w) (fun o w' => ∃ a : Nat → Nat, o = none ∧ a 0 = s_0 ∧ w' = cw κ a (fun _ => 1) (fun _ => 0) (fun _ _ => 0) ++ w) := by
  refine CM_begin (plainFor_of_name (by decide)) (Nat.le_of_ble_eq_true rfl) ?_
  intro p e s m args below meth c A Q hX hnm hA3 hQ hB ls hl
  have hx := hX.1.1
  have hb := hX.1.2.1
  have hl : lv_has ls 2 [(0, .ref s_0)] := hl
  refine lv_aload_n hx hb dX5_init_0 rfl (lv_at hl 0 rfl) ?_
  refine W.objInit hx hb hX.1.2.2.2.1 (hX.1.2.2.2.2 _ wm_1_35) (hX.1.2.2.2.2 _ wm_1_36) (hX.1.2.2.2.2 _ wm_1_37) rfl (by rw [hX.1.2.2.1]; exact hl.1) rfl dX5_init_1 (Nat.le_of_ble_eq_true rfl) (Nat.le_of_ble_eq_true rfl) ?_
  refine W.eq (g2 := F0 m 4 ls []) rfl ?_
  refine lv_aload_n hx hb dX5_init_4 rfl (lv_at hl 0 rfl) ?_
  refine lv_iconst (v := 4) hx hb dX5_init_5 (by decide) ?_
  refine newR (t0 := 1) (N := 4) hX hB rfl wm_1_38 hX.2.1.2.2.1.2.2.2.1 (by decide) (by decide) (Nat.le_of_ble_eq_true rfl) (Nat.le_of_ble_eq_true rfl) (Nat.le_of_ble_eq_true rfl) dX5_init_6 (fun q1 H hB => ?_)
  refine pfF (ty := .array (.object "Gridmender$Grid")) (k0 := 1) hX hnm hB rfl rfl in5 tyX5_ok nmX5 0 (by decide) wm_1_137 rfl rfl rfl rfl rfl rfl (Nat.le_of_ble_eq_true rfl) (w1 := (q1, .inl (κ.2.1 1, 4, .inr (.inr (.inr (.inr (fun _ => none)))))) :: (s_0, .inr (6, [.ref q1, .null, .null, .null, .null, .null, .null, .int 0, .int 0, .int 0])) :: w) rfl dX5_init_9 (fun H locs hB => ?_)
  refine lv_aload_n hx hb dX5_init_12 rfl (lv_at hl 0 rfl) ?_
  refine newO (fs := [.null, .int 0, .int 0]) hX hB (ci := 4) rfl in3 tyX3_ok wm_1_38 wm_1_40 wm_1_2 df4 (Nat.le_of_ble_eq_true rfl) (Nat.le_of_ble_eq_true rfl) dX5_init_13 (fun q2 H hB => ?_)
  refine lv_dup hx hb dX5_init_16 rfl ?_
  refine call_IN (n := 0) (As := []) (rest := [.ref q2, .ref s_0]) hX hB (k_X3_init κ l ((q1, .inl (κ.2.1 1, 4, .inr (.inr (.inr (.inr (fun _ => none)))))) :: (s_0, .inr (6, [.ref q1, .null, .null, .null, .null, .null, .null, .int 0, .int 0, .int 0])) :: w) q2 ) ⟨by decide, by decide, by decide +kernel⟩ rfl wn_1_41 wm_1_42 wm_1_2 wm_1_43 ⟨Nat.le_of_ble_eq_true rfl, Nat.le_of_ble_eq_true rfl⟩ ⟨Nat.le_of_ble_eq_true rfl, Nat.le_of_ble_eq_true rfl⟩ rfl hl.1 rfl (Nat.le_of_ble_eq_true rfl) dX5_init_17 (fun o w' H locs hp hB => ?_)
  obtain ⟨b3, rfl, hw9⟩ := hp
  replace hB : Bd κ A s (lA κ b3 20 (fun _ => 0) :: (q2, .inr (4, [.ref b3, .int 1, .int 1])) :: (q1, .inl (κ.2.1 1, 4, .inr (.inr (.inr (.inr (fun _ => none)))))) :: (s_0, .inr (6, [.ref q1, .null, .null, .null, .null, .null, .null, .int 0, .int 0, .int 0])) :: w) H locs := by rw [hw9] at hB; exact hB
  refine W.eq (g2 := F0 m 20 ls [.ref q2, .ref s_0]) rfl ?_
  refine pfF (ty := .object "Gridmender$Grid") (k0 := 3) hX hnm hB rfl rfl in5 tyX5_ok nmX5 1 (by decide) wm_1_138 rfl rfl rfl rfl rfl rfl (Nat.le_of_ble_eq_true rfl) (w1 := lA κ b3 20 (fun _ => 0) :: (q2, .inr (4, [.ref b3, .int 1, .int 1])) :: (q1, .inl (κ.2.1 1, 4, .inr (.inr (.inr (.inr (fun _ => none)))))) :: (s_0, .inr (6, [.ref q1, .ref q2, .null, .null, .null, .null, .null, .int 0, .int 0, .int 0])) :: w) rfl dX5_init_20 (fun H locs hB => ?_)
  refine lv_aload_n hx hb dX5_init_23 rfl (lv_at hl 0 rfl) ?_
  refine newO (fs := [.null, .int 0, .int 0]) hX hB (ci := 4) rfl in3 tyX3_ok wm_1_38 wm_1_40 wm_1_2 df4 (Nat.le_of_ble_eq_true rfl) (Nat.le_of_ble_eq_true rfl) dX5_init_24 (fun q4 H hB => ?_)
  refine lv_dup hx hb dX5_init_27 rfl ?_
  refine call_IN (n := 0) (As := []) (rest := [.ref q4, .ref s_0]) hX hB (k_X3_init κ l (lA κ b3 20 (fun _ => 0) :: (q2, .inr (4, [.ref b3, .int 1, .int 1])) :: (q1, .inl (κ.2.1 1, 4, .inr (.inr (.inr (.inr (fun _ => none)))))) :: (s_0, .inr (6, [.ref q1, .ref q2, .null, .null, .null, .null, .null, .int 0, .int 0, .int 0])) :: w) q4 ) ⟨by decide, by decide, by decide +kernel⟩ rfl wn_1_41 wm_1_42 wm_1_2 wm_1_43 ⟨Nat.le_of_ble_eq_true rfl, Nat.le_of_ble_eq_true rfl⟩ ⟨Nat.le_of_ble_eq_true rfl, Nat.le_of_ble_eq_true rfl⟩ rfl hl.1 rfl (Nat.le_of_ble_eq_true rfl) dX5_init_28 (fun o w' H locs hp hB => ?_)
  obtain ⟨b5, rfl, hw9⟩ := hp
  replace hB : Bd κ A s (lA κ b5 20 (fun _ => 0) :: (q4, .inr (4, [.ref b5, .int 1, .int 1])) :: lA κ b3 20 (fun _ => 0) :: (q2, .inr (4, [.ref b3, .int 1, .int 1])) :: (q1, .inl (κ.2.1 1, 4, .inr (.inr (.inr (.inr (fun _ => none)))))) :: (s_0, .inr (6, [.ref q1, .ref q2, .null, .null, .null, .null, .null, .int 0, .int 0, .int 0])) :: w) H locs := by rw [hw9] at hB; exact hB
  refine W.eq (g2 := F0 m 31 ls [.ref q4, .ref s_0]) rfl ?_
  refine pfF (ty := .object "Gridmender$Grid") (k0 := 5) hX hnm hB rfl rfl in5 tyX5_ok nmX5 2 (by decide) wm_1_139 rfl rfl rfl rfl rfl rfl (Nat.le_of_ble_eq_true rfl) (w1 := lA κ b5 20 (fun _ => 0) :: (q4, .inr (4, [.ref b5, .int 1, .int 1])) :: lA κ b3 20 (fun _ => 0) :: (q2, .inr (4, [.ref b3, .int 1, .int 1])) :: (q1, .inl (κ.2.1 1, 4, .inr (.inr (.inr (.inr (fun _ => none)))))) :: (s_0, .inr (6, [.ref q1, .ref q2, .ref q4, .null, .null, .null, .null, .int 0, .int 0, .int 0])) :: w) rfl dX5_init_31 (fun H locs hB => ?_)
  refine lv_aload_n hx hb dX5_init_34 rfl (lv_at hl 0 rfl) ?_
  refine newO (fs := [.null, .null, .int 0]) hX hB (ci := 5) rfl in4 tyX4_ok wm_1_66 wm_1_67 wm_1_3 df5 (Nat.le_of_ble_eq_true rfl) (Nat.le_of_ble_eq_true rfl) dX5_init_35 (fun q6 H hB => ?_)
  refine lv_dup hx hb dX5_init_38 rfl ?_
  refine call_IN (n := 0) (As := []) (rest := [.ref q6, .ref s_0]) hX hB (k_X4_init κ l (lA κ b5 20 (fun _ => 0) :: (q4, .inr (4, [.ref b5, .int 1, .int 1])) :: lA κ b3 20 (fun _ => 0) :: (q2, .inr (4, [.ref b3, .int 1, .int 1])) :: (q1, .inl (κ.2.1 1, 4, .inr (.inr (.inr (.inr (fun _ => none)))))) :: (s_0, .inr (6, [.ref q1, .ref q2, .ref q4, .null, .null, .null, .null, .int 0, .int 0, .int 0])) :: w) q6 ) ⟨by decide, by decide, by decide +kernel⟩ rfl wn_1_68 wm_1_69 wm_1_3 wm_1_70 ⟨Nat.le_of_ble_eq_true rfl, Nat.le_of_ble_eq_true rfl⟩ ⟨Nat.le_of_ble_eq_true rfl, Nat.le_of_ble_eq_true rfl⟩ rfl hl.1 rfl (Nat.le_of_ble_eq_true rfl) dX5_init_39 (fun o w' H locs hp hB => ?_)
  obtain ⟨g7, b8, g9, b10, rfl, hw9⟩ := hp
  replace hB : Bd κ A s (lA κ b10 20 (fun _ => 0) :: (g9, .inr (4, [.ref b10, .int 1, .int 1])) :: lA κ b8 20 (fun _ => 0) :: (g7, .inr (4, [.ref b8, .int 1, .int 1])) :: (q6, .inr (5, [.ref g7, .ref g9, .int 0])) :: lA κ b5 20 (fun _ => 0) :: (q4, .inr (4, [.ref b5, .int 1, .int 1])) :: lA κ b3 20 (fun _ => 0) :: (q2, .inr (4, [.ref b3, .int 1, .int 1])) :: (q1, .inl (κ.2.1 1, 4, .inr (.inr (.inr (.inr (fun _ => none)))))) :: (s_0, .inr (6, [.ref q1, .ref q2, .ref q4, .null, .null, .null, .null, .int 0, .int 0, .int 0])) :: w) H locs := by rw [hw9] at hB; exact hB
  refine W.eq (g2 := F0 m 42 ls [.ref q6, .ref s_0]) rfl ?_
  refine pfF (ty := .object "Gridmender$RowSteps") (k0 := 10) hX hnm hB rfl rfl in5 tyX5_ok nmX5 3 (by decide) wm_1_140 rfl rfl rfl rfl rfl rfl (Nat.le_of_ble_eq_true rfl) (w1 := lA κ b10 20 (fun _ => 0) :: (g9, .inr (4, [.ref b10, .int 1, .int 1])) :: lA κ b8 20 (fun _ => 0) :: (g7, .inr (4, [.ref b8, .int 1, .int 1])) :: (q6, .inr (5, [.ref g7, .ref g9, .int 0])) :: lA κ b5 20 (fun _ => 0) :: (q4, .inr (4, [.ref b5, .int 1, .int 1])) :: lA κ b3 20 (fun _ => 0) :: (q2, .inr (4, [.ref b3, .int 1, .int 1])) :: (q1, .inl (κ.2.1 1, 4, .inr (.inr (.inr (.inr (fun _ => none)))))) :: (s_0, .inr (6, [.ref q1, .ref q2, .ref q4, .ref q6, .null, .null, .null, .int 0, .int 0, .int 0])) :: w) rfl dX5_init_42 (fun H locs hB => ?_)
  refine lv_aload_n hx hb dX5_init_45 rfl (lv_at hl 0 rfl) ?_
  refine newO (fs := [.null, .null, .null, .int 0]) hX hB (ci := 2) rfl in1 tyX1_ok wm_1_87 wm_1_88 wm_1_4 df2 (Nat.le_of_ble_eq_true rfl) (Nat.le_of_ble_eq_true rfl) dX5_init_46 (fun q11 H hB => ?_)
  refine lv_dup hx hb dX5_init_49 rfl ?_
  refine call_IN (n := 0) (As := []) (rest := [.ref q11, .ref s_0]) hX hB (k_X1_init κ l (lA κ b10 20 (fun _ => 0) :: (g9, .inr (4, [.ref b10, .int 1, .int 1])) :: lA κ b8 20 (fun _ => 0) :: (g7, .inr (4, [.ref b8, .int 1, .int 1])) :: (q6, .inr (5, [.ref g7, .ref g9, .int 0])) :: lA κ b5 20 (fun _ => 0) :: (q4, .inr (4, [.ref b5, .int 1, .int 1])) :: lA κ b3 20 (fun _ => 0) :: (q2, .inr (4, [.ref b3, .int 1, .int 1])) :: (q1, .inl (κ.2.1 1, 4, .inr (.inr (.inr (.inr (fun _ => none)))))) :: (s_0, .inr (6, [.ref q1, .ref q2, .ref q4, .ref q6, .null, .null, .null, .int 0, .int 0, .int 0])) :: w) q11 ) ⟨by decide, by decide, by decide +kernel⟩ rfl wn_1_89 wm_1_90 wm_1_4 wm_1_91 ⟨Nat.le_of_ble_eq_true rfl, Nat.le_of_ble_eq_true rfl⟩ ⟨Nat.le_of_ble_eq_true rfl, Nat.le_of_ble_eq_true rfl⟩ rfl hl.1 rfl (Nat.le_of_ble_eq_true rfl) dX5_init_50 (fun o w' H locs hp hB => ?_)
  obtain ⟨g12, b13, g14, b15, g16, b17, rfl, hw9⟩ := hp
  replace hB : Bd κ A s (lA κ b17 20 (fun _ => 0) :: (g16, .inr (4, [.ref b17, .int 1, .int 1])) :: lA κ b15 20 (fun _ => 0) :: (g14, .inr (4, [.ref b15, .int 1, .int 1])) :: lA κ b13 20 (fun _ => 0) :: (g12, .inr (4, [.ref b13, .int 1, .int 1])) :: (q11, .inr (2, [.ref g12, .ref g14, .ref g16, .int 0])) :: lA κ b10 20 (fun _ => 0) :: (g9, .inr (4, [.ref b10, .int 1, .int 1])) :: lA κ b8 20 (fun _ => 0) :: (g7, .inr (4, [.ref b8, .int 1, .int 1])) :: (q6, .inr (5, [.ref g7, .ref g9, .int 0])) :: lA κ b5 20 (fun _ => 0) :: (q4, .inr (4, [.ref b5, .int 1, .int 1])) :: lA κ b3 20 (fun _ => 0) :: (q2, .inr (4, [.ref b3, .int 1, .int 1])) :: (q1, .inl (κ.2.1 1, 4, .inr (.inr (.inr (.inr (fun _ => none)))))) :: (s_0, .inr (6, [.ref q1, .ref q2, .ref q4, .ref q6, .null, .null, .null, .int 0, .int 0, .int 0])) :: w) H locs := by rw [hw9] at hB; exact hB
  refine W.eq (g2 := F0 m 53 ls [.ref q11, .ref s_0]) rfl ?_
  refine pfF (ty := .object "Gridmender$DiagonalSteps") (k0 := 17) hX hnm hB rfl rfl in5 tyX5_ok nmX5 4 (by decide) wm_1_141 rfl rfl rfl rfl rfl rfl (Nat.le_of_ble_eq_true rfl) (w1 := lA κ b17 20 (fun _ => 0) :: (g16, .inr (4, [.ref b17, .int 1, .int 1])) :: lA κ b15 20 (fun _ => 0) :: (g14, .inr (4, [.ref b15, .int 1, .int 1])) :: lA κ b13 20 (fun _ => 0) :: (g12, .inr (4, [.ref b13, .int 1, .int 1])) :: (q11, .inr (2, [.ref g12, .ref g14, .ref g16, .int 0])) :: lA κ b10 20 (fun _ => 0) :: (g9, .inr (4, [.ref b10, .int 1, .int 1])) :: lA κ b8 20 (fun _ => 0) :: (g7, .inr (4, [.ref b8, .int 1, .int 1])) :: (q6, .inr (5, [.ref g7, .ref g9, .int 0])) :: lA κ b5 20 (fun _ => 0) :: (q4, .inr (4, [.ref b5, .int 1, .int 1])) :: lA κ b3 20 (fun _ => 0) :: (q2, .inr (4, [.ref b3, .int 1, .int 1])) :: (q1, .inl (κ.2.1 1, 4, .inr (.inr (.inr (.inr (fun _ => none)))))) :: (s_0, .inr (6, [.ref q1, .ref q2, .ref q4, .ref q6, .ref q11, .null, .null, .int 0, .int 0, .int 0])) :: w) rfl dX5_init_53 (fun H locs hB => ?_)
  refine lv_aload_n hx hb dX5_init_56 rfl (lv_at hl 0 rfl) ?_
  refine newO (fs := [.null, .null, .null, .null]) hX hB (ci := 3) rfl in2 tyX2_ok wm_1_115 wm_1_116 wm_1_5 df3 (Nat.le_of_ble_eq_true rfl) (Nat.le_of_ble_eq_true rfl) dX5_init_57 (fun q18 H hB => ?_)
  refine lv_dup hx hb dX5_init_60 rfl ?_
  refine call_IN (n := 0) (As := []) (rest := [.ref q18, .ref s_0]) hX hB (k_X2_init κ l (lA κ b17 20 (fun _ => 0) :: (g16, .inr (4, [.ref b17, .int 1, .int 1])) :: lA κ b15 20 (fun _ => 0) :: (g14, .inr (4, [.ref b15, .int 1, .int 1])) :: lA κ b13 20 (fun _ => 0) :: (g12, .inr (4, [.ref b13, .int 1, .int 1])) :: (q11, .inr (2, [.ref g12, .ref g14, .ref g16, .int 0])) :: lA κ b10 20 (fun _ => 0) :: (g9, .inr (4, [.ref b10, .int 1, .int 1])) :: lA κ b8 20 (fun _ => 0) :: (g7, .inr (4, [.ref b8, .int 1, .int 1])) :: (q6, .inr (5, [.ref g7, .ref g9, .int 0])) :: lA κ b5 20 (fun _ => 0) :: (q4, .inr (4, [.ref b5, .int 1, .int 1])) :: lA κ b3 20 (fun _ => 0) :: (q2, .inr (4, [.ref b3, .int 1, .int 1])) :: (q1, .inl (κ.2.1 1, 4, .inr (.inr (.inr (.inr (fun _ => none)))))) :: (s_0, .inr (6, [.ref q1, .ref q2, .ref q4, .ref q6, .ref q11, .null, .null, .int 0, .int 0, .int 0])) :: w) q18 ) ⟨by decide, by decide, by decide +kernel⟩ rfl wn_1_117 wm_1_118 wm_1_5 wm_1_119 ⟨Nat.le_of_ble_eq_true rfl, Nat.le_of_ble_eq_true rfl⟩ ⟨Nat.le_of_ble_eq_true rfl, Nat.le_of_ble_eq_true rfl⟩ rfl hl.1 rfl (Nat.le_of_ble_eq_true rfl) dX5_init_61 (fun o w' H locs hp hB => ?_)
  obtain ⟨g19, b20, g21, b22, g23, b24, g25, b26, rfl, hw9⟩ := hp
  replace hB : Bd κ A s (lA κ b26 20 (fun _ => 0) :: (g25, .inr (4, [.ref b26, .int 1, .int 1])) :: lA κ b24 20 (fun _ => 0) :: (g23, .inr (4, [.ref b24, .int 1, .int 1])) :: lA κ b22 20 (fun _ => 0) :: (g21, .inr (4, [.ref b22, .int 1, .int 1])) :: lA κ b20 20 (fun _ => 0) :: (g19, .inr (4, [.ref b20, .int 1, .int 1])) :: (q18, .inr (3, [.ref g19, .ref g21, .ref g23, .ref g25])) :: lA κ b17 20 (fun _ => 0) :: (g16, .inr (4, [.ref b17, .int 1, .int 1])) :: lA κ b15 20 (fun _ => 0) :: (g14, .inr (4, [.ref b15, .int 1, .int 1])) :: lA κ b13 20 (fun _ => 0) :: (g12, .inr (4, [.ref b13, .int 1, .int 1])) :: (q11, .inr (2, [.ref g12, .ref g14, .ref g16, .int 0])) :: lA κ b10 20 (fun _ => 0) :: (g9, .inr (4, [.ref b10, .int 1, .int 1])) :: lA κ b8 20 (fun _ => 0) :: (g7, .inr (4, [.ref b8, .int 1, .int 1])) :: (q6, .inr (5, [.ref g7, .ref g9, .int 0])) :: lA κ b5 20 (fun _ => 0) :: (q4, .inr (4, [.ref b5, .int 1, .int 1])) :: lA κ b3 20 (fun _ => 0) :: (q2, .inr (4, [.ref b3, .int 1, .int 1])) :: (q1, .inl (κ.2.1 1, 4, .inr (.inr (.inr (.inr (fun _ => none)))))) :: (s_0, .inr (6, [.ref q1, .ref q2, .ref q4, .ref q6, .ref q11, .null, .null, .int 0, .int 0, .int 0])) :: w) H locs := by rw [hw9] at hB; exact hB
  refine W.eq (g2 := F0 m 64 ls [.ref q18, .ref s_0]) rfl ?_
  refine pfF (ty := .object "Gridmender$Equation") (k0 := 26) hX hnm hB rfl rfl in5 tyX5_ok nmX5 5 (by decide) wm_1_142 rfl rfl rfl rfl rfl rfl (Nat.le_of_ble_eq_true rfl) (w1 := lA κ b26 20 (fun _ => 0) :: (g25, .inr (4, [.ref b26, .int 1, .int 1])) :: lA κ b24 20 (fun _ => 0) :: (g23, .inr (4, [.ref b24, .int 1, .int 1])) :: lA κ b22 20 (fun _ => 0) :: (g21, .inr (4, [.ref b22, .int 1, .int 1])) :: lA κ b20 20 (fun _ => 0) :: (g19, .inr (4, [.ref b20, .int 1, .int 1])) :: (q18, .inr (3, [.ref g19, .ref g21, .ref g23, .ref g25])) :: lA κ b17 20 (fun _ => 0) :: (g16, .inr (4, [.ref b17, .int 1, .int 1])) :: lA κ b15 20 (fun _ => 0) :: (g14, .inr (4, [.ref b15, .int 1, .int 1])) :: lA κ b13 20 (fun _ => 0) :: (g12, .inr (4, [.ref b13, .int 1, .int 1])) :: (q11, .inr (2, [.ref g12, .ref g14, .ref g16, .int 0])) :: lA κ b10 20 (fun _ => 0) :: (g9, .inr (4, [.ref b10, .int 1, .int 1])) :: lA κ b8 20 (fun _ => 0) :: (g7, .inr (4, [.ref b8, .int 1, .int 1])) :: (q6, .inr (5, [.ref g7, .ref g9, .int 0])) :: lA κ b5 20 (fun _ => 0) :: (q4, .inr (4, [.ref b5, .int 1, .int 1])) :: lA κ b3 20 (fun _ => 0) :: (q2, .inr (4, [.ref b3, .int 1, .int 1])) :: (q1, .inl (κ.2.1 1, 4, .inr (.inr (.inr (.inr (fun _ => none)))))) :: (s_0, .inr (6, [.ref q1, .ref q2, .ref q4, .ref q6, .ref q11, .ref q18, .null, .int 0, .int 0, .int 0])) :: w) rfl dX5_init_64 (fun H locs hB => ?_)
  refine lv_aload_n hx hb dX5_init_67 rfl (lv_at hl 0 rfl) ?_
  refine lv_iconst (v := 4) hx hb dX5_init_68 (by decide) ?_
  refine newA (t0 := 0) (ty := .long) (N := 4) (mx := 20) (a0 := (4, .inr (.inl (fun _ => 0)))) hX hB rfl rfl (fun h => h) wm_1_65 (fun _ => rfl) (nI_pos (n := 4) (by omega)) (nI_clamp (n := 4) (by omega)) (by omega) (Nat.le_of_ble_eq_true rfl) (Nat.le_of_ble_eq_true rfl) (Nat.le_of_ble_eq_true rfl) dX5_init_69 (fun q27 H hB => ?_)
  refine pfF (ty := .array .long) (k0 := 27) hX hnm hB rfl rfl in5 tyX5_ok nmX5 6 (by decide) wm_1_143 rfl rfl rfl rfl rfl rfl (Nat.le_of_ble_eq_true rfl) (w1 := lA κ q27 4 (fun _ => 0) :: lA κ b26 20 (fun _ => 0) :: (g25, .inr (4, [.ref b26, .int 1, .int 1])) :: lA κ b24 20 (fun _ => 0) :: (g23, .inr (4, [.ref b24, .int 1, .int 1])) :: lA κ b22 20 (fun _ => 0) :: (g21, .inr (4, [.ref b22, .int 1, .int 1])) :: lA κ b20 20 (fun _ => 0) :: (g19, .inr (4, [.ref b20, .int 1, .int 1])) :: (q18, .inr (3, [.ref g19, .ref g21, .ref g23, .ref g25])) :: lA κ b17 20 (fun _ => 0) :: (g16, .inr (4, [.ref b17, .int 1, .int 1])) :: lA κ b15 20 (fun _ => 0) :: (g14, .inr (4, [.ref b15, .int 1, .int 1])) :: lA κ b13 20 (fun _ => 0) :: (g12, .inr (4, [.ref b13, .int 1, .int 1])) :: (q11, .inr (2, [.ref g12, .ref g14, .ref g16, .int 0])) :: lA κ b10 20 (fun _ => 0) :: (g9, .inr (4, [.ref b10, .int 1, .int 1])) :: lA κ b8 20 (fun _ => 0) :: (g7, .inr (4, [.ref b8, .int 1, .int 1])) :: (q6, .inr (5, [.ref g7, .ref g9, .int 0])) :: lA κ b5 20 (fun _ => 0) :: (q4, .inr (4, [.ref b5, .int 1, .int 1])) :: lA κ b3 20 (fun _ => 0) :: (q2, .inr (4, [.ref b3, .int 1, .int 1])) :: (q1, .inl (κ.2.1 1, 4, .inr (.inr (.inr (.inr (fun _ => none)))))) :: (s_0, .inr (6, [.ref q1, .ref q2, .ref q4, .ref q6, .ref q11, .ref q18, .ref q27, .int 0, .int 0, .int 0])) :: w) rfl dX5_init_71 (fun H locs hB => ?_)
  refine lv_iconst (v := 0) hx hb dX5_init_74 (by decide) ?_
  refine lv_istore_n (lv' := [(1, .int 0), (0, .ref s_0)]) hx hb dX5_init_75 rfl hl (by decide) rfl (fun ls hl => ?_)
  refine lv_iload_n hx hb dX5_init_76 rfl (lv_at hl 0 rfl) ?_
  refine lv_iconst (v := 4) hx hb dX5_init_77 (by decide) ?_
  refine lv_icmp_ge (tgt := 100) hx hb dX5_init_78 (by decide) (fun c28 => False.elim (by revert c28; decide)) (fun _ => ?_)
  refine lv_aload_n hx hb dX5_init_81 rfl (lv_at hl 1 rfl) ?_
  refine gf (k0 := 27) hX hB rfl rfl in5 0 (by decide) wm_1_137 rfl rfl dX5_init_82 ?_
  refine lv_iload_n hx hb dX5_init_85 rfl (lv_at hl 0 rfl) ?_
  refine newO (fs := [.null, .int 0, .int 0]) hX hB (ci := 4) rfl in3 tyX3_ok wm_1_38 wm_1_40 wm_1_2 df4 (Nat.le_of_ble_eq_true rfl) (Nat.le_of_ble_eq_true rfl) dX5_init_86 (fun q29 H hB => ?_)
  refine lv_dup hx hb dX5_init_89 rfl ?_
  refine call_IN (n := 0) (As := []) (rest := [.ref q29, .int 0, .ref q1]) hX hB (k_X3_init κ l (lA κ q27 4 (fun _ => 0) :: lA κ b26 20 (fun _ => 0) :: (g25, .inr (4, [.ref b26, .int 1, .int 1])) :: lA κ b24 20 (fun _ => 0) :: (g23, .inr (4, [.ref b24, .int 1, .int 1])) :: lA κ b22 20 (fun _ => 0) :: (g21, .inr (4, [.ref b22, .int 1, .int 1])) :: lA κ b20 20 (fun _ => 0) :: (g19, .inr (4, [.ref b20, .int 1, .int 1])) :: (q18, .inr (3, [.ref g19, .ref g21, .ref g23, .ref g25])) :: lA κ b17 20 (fun _ => 0) :: (g16, .inr (4, [.ref b17, .int 1, .int 1])) :: lA κ b15 20 (fun _ => 0) :: (g14, .inr (4, [.ref b15, .int 1, .int 1])) :: lA κ b13 20 (fun _ => 0) :: (g12, .inr (4, [.ref b13, .int 1, .int 1])) :: (q11, .inr (2, [.ref g12, .ref g14, .ref g16, .int 0])) :: lA κ b10 20 (fun _ => 0) :: (g9, .inr (4, [.ref b10, .int 1, .int 1])) :: lA κ b8 20 (fun _ => 0) :: (g7, .inr (4, [.ref b8, .int 1, .int 1])) :: (q6, .inr (5, [.ref g7, .ref g9, .int 0])) :: lA κ b5 20 (fun _ => 0) :: (q4, .inr (4, [.ref b5, .int 1, .int 1])) :: lA κ b3 20 (fun _ => 0) :: (q2, .inr (4, [.ref b3, .int 1, .int 1])) :: (q1, .inl (κ.2.1 1, 4, .inr (.inr (.inr (.inr (fun _ => none)))))) :: (s_0, .inr (6, [.ref q1, .ref q2, .ref q4, .ref q6, .ref q11, .ref q18, .ref q27, .int 0, .int 0, .int 0])) :: w) q29 ) ⟨by decide, by decide, by decide +kernel⟩ rfl wn_1_41 wm_1_42 wm_1_2 wm_1_43 ⟨Nat.le_of_ble_eq_true rfl, Nat.le_of_ble_eq_true rfl⟩ ⟨Nat.le_of_ble_eq_true rfl, Nat.le_of_ble_eq_true rfl⟩ rfl hl.1 rfl (Nat.le_of_ble_eq_true rfl) dX5_init_90 (fun o w' H locs hp hB => ?_)
  obtain ⟨b30, rfl, hw9⟩ := hp
  replace hB : Bd κ A s (lA κ b30 20 (fun _ => 0) :: (q29, .inr (4, [.ref b30, .int 1, .int 1])) :: lA κ q27 4 (fun _ => 0) :: lA κ b26 20 (fun _ => 0) :: (g25, .inr (4, [.ref b26, .int 1, .int 1])) :: lA κ b24 20 (fun _ => 0) :: (g23, .inr (4, [.ref b24, .int 1, .int 1])) :: lA κ b22 20 (fun _ => 0) :: (g21, .inr (4, [.ref b22, .int 1, .int 1])) :: lA κ b20 20 (fun _ => 0) :: (g19, .inr (4, [.ref b20, .int 1, .int 1])) :: (q18, .inr (3, [.ref g19, .ref g21, .ref g23, .ref g25])) :: lA κ b17 20 (fun _ => 0) :: (g16, .inr (4, [.ref b17, .int 1, .int 1])) :: lA κ b15 20 (fun _ => 0) :: (g14, .inr (4, [.ref b15, .int 1, .int 1])) :: lA κ b13 20 (fun _ => 0) :: (g12, .inr (4, [.ref b13, .int 1, .int 1])) :: (q11, .inr (2, [.ref g12, .ref g14, .ref g16, .int 0])) :: lA κ b10 20 (fun _ => 0) :: (g9, .inr (4, [.ref b10, .int 1, .int 1])) :: lA κ b8 20 (fun _ => 0) :: (g7, .inr (4, [.ref b8, .int 1, .int 1])) :: (q6, .inr (5, [.ref g7, .ref g9, .int 0])) :: lA κ b5 20 (fun _ => 0) :: (q4, .inr (4, [.ref b5, .int 1, .int 1])) :: lA κ b3 20 (fun _ => 0) :: (q2, .inr (4, [.ref b3, .int 1, .int 1])) :: (q1, .inl (κ.2.1 1, 4, .inr (.inr (.inr (.inr (fun _ => none)))))) :: (s_0, .inr (6, [.ref q1, .ref q2, .ref q4, .ref q6, .ref q11, .ref q18, .ref q27, .int 0, .int 0, .int 0])) :: w) H locs := by rw [hw9] at hB; exact hB
  refine W.eq (g2 := F0 m 93 ls [.ref q29, .int 0, .ref q1]) rfl ?_
  refine astG (f := fun _ => none) (k0 := 28) (k1 := 1) (i := 0) hX hB rfl rfl (vp_in_iff.mpr ⟨by decide, by decide⟩) (w1 := lA κ b30 20 (fun _ => 0) :: (q29, .inr (4, [.ref b30, .int 1, .int 1])) :: lA κ q27 4 (fun _ => 0) :: lA κ b26 20 (fun _ => 0) :: (g25, .inr (4, [.ref b26, .int 1, .int 1])) :: lA κ b24 20 (fun _ => 0) :: (g23, .inr (4, [.ref b24, .int 1, .int 1])) :: lA κ b22 20 (fun _ => 0) :: (g21, .inr (4, [.ref b22, .int 1, .int 1])) :: lA κ b20 20 (fun _ => 0) :: (g19, .inr (4, [.ref b20, .int 1, .int 1])) :: (q18, .inr (3, [.ref g19, .ref g21, .ref g23, .ref g25])) :: lA κ b17 20 (fun _ => 0) :: (g16, .inr (4, [.ref b17, .int 1, .int 1])) :: lA κ b15 20 (fun _ => 0) :: (g14, .inr (4, [.ref b15, .int 1, .int 1])) :: lA κ b13 20 (fun _ => 0) :: (g12, .inr (4, [.ref b13, .int 1, .int 1])) :: (q11, .inr (2, [.ref g12, .ref g14, .ref g16, .int 0])) :: lA κ b10 20 (fun _ => 0) :: (g9, .inr (4, [.ref b10, .int 1, .int 1])) :: lA κ b8 20 (fun _ => 0) :: (g7, .inr (4, [.ref b8, .int 1, .int 1])) :: (q6, .inr (5, [.ref g7, .ref g9, .int 0])) :: lA κ b5 20 (fun _ => 0) :: (q4, .inr (4, [.ref b5, .int 1, .int 1])) :: lA κ b3 20 (fun _ => 0) :: (q2, .inr (4, [.ref b3, .int 1, .int 1])) :: (q1, .inl (κ.2.1 1, 4, .inr (.inr (.inr (.inr (va_up (fun _ => none) (Int32.toNatClampNeg 0) (some q29))))))) :: (s_0, .inr (6, [.ref q1, .ref q2, .ref q4, .ref q6, .ref q11, .ref q18, .ref q27, .int 0, .int 0, .int 0])) :: w) rfl dX5_init_93 (fun H locs hB => ?_)
  refine lv_iinc (v := 1) (lv' := [(1, .int 1), (0, .ref s_0)]) hx hb dX5_init_94 hl (k := 0) rfl (by decide) (by decide) rfl (fun ls hl => ?_)
  refine lv_goto (tgt := 76) hx hb dX5_init_97 (by decide) ?_
  refine lv_iload_n hx hb dX5_init_76 rfl (lv_at hl 0 rfl) ?_
  refine lv_iconst (v := 4) hx hb dX5_init_77 (by decide) ?_
  refine lv_icmp_ge (tgt := 100) hx hb dX5_init_78 (by decide) (fun c31 => False.elim (by revert c31; decide)) (fun _ => ?_)
  refine lv_aload_n hx hb dX5_init_81 rfl (lv_at hl 1 rfl) ?_
  refine gf (k0 := 29) hX hB rfl rfl in5 0 (by decide) wm_1_137 rfl rfl dX5_init_82 ?_
  refine lv_iload_n hx hb dX5_init_85 rfl (lv_at hl 0 rfl) ?_
  refine newO (fs := [.null, .int 0, .int 0]) hX hB (ci := 4) rfl in3 tyX3_ok wm_1_38 wm_1_40 wm_1_2 df4 (Nat.le_of_ble_eq_true rfl) (Nat.le_of_ble_eq_true rfl) dX5_init_86 (fun q32 H hB => ?_)
  refine lv_dup hx hb dX5_init_89 rfl ?_
  refine call_IN (n := 0) (As := []) (rest := [.ref q32, .int 1, .ref q1]) hX hB (k_X3_init κ l (lA κ b30 20 (fun _ => 0) :: (q29, .inr (4, [.ref b30, .int 1, .int 1])) :: lA κ q27 4 (fun _ => 0) :: lA κ b26 20 (fun _ => 0) :: (g25, .inr (4, [.ref b26, .int 1, .int 1])) :: lA κ b24 20 (fun _ => 0) :: (g23, .inr (4, [.ref b24, .int 1, .int 1])) :: lA κ b22 20 (fun _ => 0) :: (g21, .inr (4, [.ref b22, .int 1, .int 1])) :: lA κ b20 20 (fun _ => 0) :: (g19, .inr (4, [.ref b20, .int 1, .int 1])) :: (q18, .inr (3, [.ref g19, .ref g21, .ref g23, .ref g25])) :: lA κ b17 20 (fun _ => 0) :: (g16, .inr (4, [.ref b17, .int 1, .int 1])) :: lA κ b15 20 (fun _ => 0) :: (g14, .inr (4, [.ref b15, .int 1, .int 1])) :: lA κ b13 20 (fun _ => 0) :: (g12, .inr (4, [.ref b13, .int 1, .int 1])) :: (q11, .inr (2, [.ref g12, .ref g14, .ref g16, .int 0])) :: lA κ b10 20 (fun _ => 0) :: (g9, .inr (4, [.ref b10, .int 1, .int 1])) :: lA κ b8 20 (fun _ => 0) :: (g7, .inr (4, [.ref b8, .int 1, .int 1])) :: (q6, .inr (5, [.ref g7, .ref g9, .int 0])) :: lA κ b5 20 (fun _ => 0) :: (q4, .inr (4, [.ref b5, .int 1, .int 1])) :: lA κ b3 20 (fun _ => 0) :: (q2, .inr (4, [.ref b3, .int 1, .int 1])) :: (q1, .inl (κ.2.1 1, 4, .inr (.inr (.inr (.inr (va_up (fun _ => none) (Int32.toNatClampNeg 0) (some q29))))))) :: (s_0, .inr (6, [.ref q1, .ref q2, .ref q4, .ref q6, .ref q11, .ref q18, .ref q27, .int 0, .int 0, .int 0])) :: w) q32 ) ⟨by decide, by decide, by decide +kernel⟩ rfl wn_1_41 wm_1_42 wm_1_2 wm_1_43 ⟨Nat.le_of_ble_eq_true rfl, Nat.le_of_ble_eq_true rfl⟩ ⟨Nat.le_of_ble_eq_true rfl, Nat.le_of_ble_eq_true rfl⟩ rfl hl.1 rfl (Nat.le_of_ble_eq_true rfl) dX5_init_90 (fun o w' H locs hp hB => ?_)
  obtain ⟨b33, rfl, hw9⟩ := hp
  replace hB : Bd κ A s (lA κ b33 20 (fun _ => 0) :: (q32, .inr (4, [.ref b33, .int 1, .int 1])) :: lA κ b30 20 (fun _ => 0) :: (q29, .inr (4, [.ref b30, .int 1, .int 1])) :: lA κ q27 4 (fun _ => 0) :: lA κ b26 20 (fun _ => 0) :: (g25, .inr (4, [.ref b26, .int 1, .int 1])) :: lA κ b24 20 (fun _ => 0) :: (g23, .inr (4, [.ref b24, .int 1, .int 1])) :: lA κ b22 20 (fun _ => 0) :: (g21, .inr (4, [.ref b22, .int 1, .int 1])) :: lA κ b20 20 (fun _ => 0) :: (g19, .inr (4, [.ref b20, .int 1, .int 1])) :: (q18, .inr (3, [.ref g19, .ref g21, .ref g23, .ref g25])) :: lA κ b17 20 (fun _ => 0) :: (g16, .inr (4, [.ref b17, .int 1, .int 1])) :: lA κ b15 20 (fun _ => 0) :: (g14, .inr (4, [.ref b15, .int 1, .int 1])) :: lA κ b13 20 (fun _ => 0) :: (g12, .inr (4, [.ref b13, .int 1, .int 1])) :: (q11, .inr (2, [.ref g12, .ref g14, .ref g16, .int 0])) :: lA κ b10 20 (fun _ => 0) :: (g9, .inr (4, [.ref b10, .int 1, .int 1])) :: lA κ b8 20 (fun _ => 0) :: (g7, .inr (4, [.ref b8, .int 1, .int 1])) :: (q6, .inr (5, [.ref g7, .ref g9, .int 0])) :: lA κ b5 20 (fun _ => 0) :: (q4, .inr (4, [.ref b5, .int 1, .int 1])) :: lA κ b3 20 (fun _ => 0) :: (q2, .inr (4, [.ref b3, .int 1, .int 1])) :: (q1, .inl (κ.2.1 1, 4, .inr (.inr (.inr (.inr (va_up (fun _ => none) (Int32.toNatClampNeg 0) (some q29))))))) :: (s_0, .inr (6, [.ref q1, .ref q2, .ref q4, .ref q6, .ref q11, .ref q18, .ref q27, .int 0, .int 0, .int 0])) :: w) H locs := by rw [hw9] at hB; exact hB
  refine W.eq (g2 := F0 m 93 ls [.ref q32, .int 1, .ref q1]) rfl ?_
  refine astG (f := va_up (fun _ => none) (Int32.toNatClampNeg 0) (some q29)) (k0 := 30) (k1 := 1) (i := 1) hX hB rfl rfl (vp_in_iff.mpr ⟨by decide, by decide⟩) (w1 := lA κ b33 20 (fun _ => 0) :: (q32, .inr (4, [.ref b33, .int 1, .int 1])) :: lA κ b30 20 (fun _ => 0) :: (q29, .inr (4, [.ref b30, .int 1, .int 1])) :: lA κ q27 4 (fun _ => 0) :: lA κ b26 20 (fun _ => 0) :: (g25, .inr (4, [.ref b26, .int 1, .int 1])) :: lA κ b24 20 (fun _ => 0) :: (g23, .inr (4, [.ref b24, .int 1, .int 1])) :: lA κ b22 20 (fun _ => 0) :: (g21, .inr (4, [.ref b22, .int 1, .int 1])) :: lA κ b20 20 (fun _ => 0) :: (g19, .inr (4, [.ref b20, .int 1, .int 1])) :: (q18, .inr (3, [.ref g19, .ref g21, .ref g23, .ref g25])) :: lA κ b17 20 (fun _ => 0) :: (g16, .inr (4, [.ref b17, .int 1, .int 1])) :: lA κ b15 20 (fun _ => 0) :: (g14, .inr (4, [.ref b15, .int 1, .int 1])) :: lA κ b13 20 (fun _ => 0) :: (g12, .inr (4, [.ref b13, .int 1, .int 1])) :: (q11, .inr (2, [.ref g12, .ref g14, .ref g16, .int 0])) :: lA κ b10 20 (fun _ => 0) :: (g9, .inr (4, [.ref b10, .int 1, .int 1])) :: lA κ b8 20 (fun _ => 0) :: (g7, .inr (4, [.ref b8, .int 1, .int 1])) :: (q6, .inr (5, [.ref g7, .ref g9, .int 0])) :: lA κ b5 20 (fun _ => 0) :: (q4, .inr (4, [.ref b5, .int 1, .int 1])) :: lA κ b3 20 (fun _ => 0) :: (q2, .inr (4, [.ref b3, .int 1, .int 1])) :: (q1, .inl (κ.2.1 1, 4, .inr (.inr (.inr (.inr (va_up (va_up (fun _ => none) (Int32.toNatClampNeg 0) (some q29)) (Int32.toNatClampNeg 1) (some q32))))))) :: (s_0, .inr (6, [.ref q1, .ref q2, .ref q4, .ref q6, .ref q11, .ref q18, .ref q27, .int 0, .int 0, .int 0])) :: w) rfl dX5_init_93 (fun H locs hB => ?_)
  refine lv_iinc (v := 2) (lv' := [(1, .int 2), (0, .ref s_0)]) hx hb dX5_init_94 hl (k := 0) rfl (by decide) (by decide) rfl (fun ls hl => ?_)
  refine lv_goto (tgt := 76) hx hb dX5_init_97 (by decide) ?_
  refine lv_iload_n hx hb dX5_init_76 rfl (lv_at hl 0 rfl) ?_
  refine lv_iconst (v := 4) hx hb dX5_init_77 (by decide) ?_
  refine lv_icmp_ge (tgt := 100) hx hb dX5_init_78 (by decide) (fun c34 => False.elim (by revert c34; decide)) (fun _ => ?_)
  refine lv_aload_n hx hb dX5_init_81 rfl (lv_at hl 1 rfl) ?_
  refine gf (k0 := 31) hX hB rfl rfl in5 0 (by decide) wm_1_137 rfl rfl dX5_init_82 ?_
  refine lv_iload_n hx hb dX5_init_85 rfl (lv_at hl 0 rfl) ?_
  refine newO (fs := [.null, .int 0, .int 0]) hX hB (ci := 4) rfl in3 tyX3_ok wm_1_38 wm_1_40 wm_1_2 df4 (Nat.le_of_ble_eq_true rfl) (Nat.le_of_ble_eq_true rfl) dX5_init_86 (fun q35 H hB => ?_)
  refine lv_dup hx hb dX5_init_89 rfl ?_
  refine call_IN (n := 0) (As := []) (rest := [.ref q35, .int 2, .ref q1]) hX hB (k_X3_init κ l (lA κ b33 20 (fun _ => 0) :: (q32, .inr (4, [.ref b33, .int 1, .int 1])) :: lA κ b30 20 (fun _ => 0) :: (q29, .inr (4, [.ref b30, .int 1, .int 1])) :: lA κ q27 4 (fun _ => 0) :: lA κ b26 20 (fun _ => 0) :: (g25, .inr (4, [.ref b26, .int 1, .int 1])) :: lA κ b24 20 (fun _ => 0) :: (g23, .inr (4, [.ref b24, .int 1, .int 1])) :: lA κ b22 20 (fun _ => 0) :: (g21, .inr (4, [.ref b22, .int 1, .int 1])) :: lA κ b20 20 (fun _ => 0) :: (g19, .inr (4, [.ref b20, .int 1, .int 1])) :: (q18, .inr (3, [.ref g19, .ref g21, .ref g23, .ref g25])) :: lA κ b17 20 (fun _ => 0) :: (g16, .inr (4, [.ref b17, .int 1, .int 1])) :: lA κ b15 20 (fun _ => 0) :: (g14, .inr (4, [.ref b15, .int 1, .int 1])) :: lA κ b13 20 (fun _ => 0) :: (g12, .inr (4, [.ref b13, .int 1, .int 1])) :: (q11, .inr (2, [.ref g12, .ref g14, .ref g16, .int 0])) :: lA κ b10 20 (fun _ => 0) :: (g9, .inr (4, [.ref b10, .int 1, .int 1])) :: lA κ b8 20 (fun _ => 0) :: (g7, .inr (4, [.ref b8, .int 1, .int 1])) :: (q6, .inr (5, [.ref g7, .ref g9, .int 0])) :: lA κ b5 20 (fun _ => 0) :: (q4, .inr (4, [.ref b5, .int 1, .int 1])) :: lA κ b3 20 (fun _ => 0) :: (q2, .inr (4, [.ref b3, .int 1, .int 1])) :: (q1, .inl (κ.2.1 1, 4, .inr (.inr (.inr (.inr (va_up (va_up (fun _ => none) (Int32.toNatClampNeg 0) (some q29)) (Int32.toNatClampNeg 1) (some q32))))))) :: (s_0, .inr (6, [.ref q1, .ref q2, .ref q4, .ref q6, .ref q11, .ref q18, .ref q27, .int 0, .int 0, .int 0])) :: w) q35 ) ⟨by decide, by decide, by decide +kernel⟩ rfl wn_1_41 wm_1_42 wm_1_2 wm_1_43 ⟨Nat.le_of_ble_eq_true rfl, Nat.le_of_ble_eq_true rfl⟩ ⟨Nat.le_of_ble_eq_true rfl, Nat.le_of_ble_eq_true rfl⟩ rfl hl.1 rfl (Nat.le_of_ble_eq_true rfl) dX5_init_90 (fun o w' H locs hp hB => ?_)
  obtain ⟨b36, rfl, hw9⟩ := hp
  replace hB : Bd κ A s (lA κ b36 20 (fun _ => 0) :: (q35, .inr (4, [.ref b36, .int 1, .int 1])) :: lA κ b33 20 (fun _ => 0) :: (q32, .inr (4, [.ref b33, .int 1, .int 1])) :: lA κ b30 20 (fun _ => 0) :: (q29, .inr (4, [.ref b30, .int 1, .int 1])) :: lA κ q27 4 (fun _ => 0) :: lA κ b26 20 (fun _ => 0) :: (g25, .inr (4, [.ref b26, .int 1, .int 1])) :: lA κ b24 20 (fun _ => 0) :: (g23, .inr (4, [.ref b24, .int 1, .int 1])) :: lA κ b22 20 (fun _ => 0) :: (g21, .inr (4, [.ref b22, .int 1, .int 1])) :: lA κ b20 20 (fun _ => 0) :: (g19, .inr (4, [.ref b20, .int 1, .int 1])) :: (q18, .inr (3, [.ref g19, .ref g21, .ref g23, .ref g25])) :: lA κ b17 20 (fun _ => 0) :: (g16, .inr (4, [.ref b17, .int 1, .int 1])) :: lA κ b15 20 (fun _ => 0) :: (g14, .inr (4, [.ref b15, .int 1, .int 1])) :: lA κ b13 20 (fun _ => 0) :: (g12, .inr (4, [.ref b13, .int 1, .int 1])) :: (q11, .inr (2, [.ref g12, .ref g14, .ref g16, .int 0])) :: lA κ b10 20 (fun _ => 0) :: (g9, .inr (4, [.ref b10, .int 1, .int 1])) :: lA κ b8 20 (fun _ => 0) :: (g7, .inr (4, [.ref b8, .int 1, .int 1])) :: (q6, .inr (5, [.ref g7, .ref g9, .int 0])) :: lA κ b5 20 (fun _ => 0) :: (q4, .inr (4, [.ref b5, .int 1, .int 1])) :: lA κ b3 20 (fun _ => 0) :: (q2, .inr (4, [.ref b3, .int 1, .int 1])) :: (q1, .inl (κ.2.1 1, 4, .inr (.inr (.inr (.inr (va_up (va_up (fun _ => none) (Int32.toNatClampNeg 0) (some q29)) (Int32.toNatClampNeg 1) (some q32))))))) :: (s_0, .inr (6, [.ref q1, .ref q2, .ref q4, .ref q6, .ref q11, .ref q18, .ref q27, .int 0, .int 0, .int 0])) :: w) H locs := by rw [hw9] at hB; exact hB
  refine W.eq (g2 := F0 m 93 ls [.ref q35, .int 2, .ref q1]) rfl ?_
  refine astG (f := va_up (va_up (fun _ => none) (Int32.toNatClampNeg 0) (some q29)) (Int32.toNatClampNeg 1) (some q32)) (k0 := 32) (k1 := 1) (i := 2) hX hB rfl rfl (vp_in_iff.mpr ⟨by decide, by decide⟩) (w1 := lA κ b36 20 (fun _ => 0) :: (q35, .inr (4, [.ref b36, .int 1, .int 1])) :: lA κ b33 20 (fun _ => 0) :: (q32, .inr (4, [.ref b33, .int 1, .int 1])) :: lA κ b30 20 (fun _ => 0) :: (q29, .inr (4, [.ref b30, .int 1, .int 1])) :: lA κ q27 4 (fun _ => 0) :: lA κ b26 20 (fun _ => 0) :: (g25, .inr (4, [.ref b26, .int 1, .int 1])) :: lA κ b24 20 (fun _ => 0) :: (g23, .inr (4, [.ref b24, .int 1, .int 1])) :: lA κ b22 20 (fun _ => 0) :: (g21, .inr (4, [.ref b22, .int 1, .int 1])) :: lA κ b20 20 (fun _ => 0) :: (g19, .inr (4, [.ref b20, .int 1, .int 1])) :: (q18, .inr (3, [.ref g19, .ref g21, .ref g23, .ref g25])) :: lA κ b17 20 (fun _ => 0) :: (g16, .inr (4, [.ref b17, .int 1, .int 1])) :: lA κ b15 20 (fun _ => 0) :: (g14, .inr (4, [.ref b15, .int 1, .int 1])) :: lA κ b13 20 (fun _ => 0) :: (g12, .inr (4, [.ref b13, .int 1, .int 1])) :: (q11, .inr (2, [.ref g12, .ref g14, .ref g16, .int 0])) :: lA κ b10 20 (fun _ => 0) :: (g9, .inr (4, [.ref b10, .int 1, .int 1])) :: lA κ b8 20 (fun _ => 0) :: (g7, .inr (4, [.ref b8, .int 1, .int 1])) :: (q6, .inr (5, [.ref g7, .ref g9, .int 0])) :: lA κ b5 20 (fun _ => 0) :: (q4, .inr (4, [.ref b5, .int 1, .int 1])) :: lA κ b3 20 (fun _ => 0) :: (q2, .inr (4, [.ref b3, .int 1, .int 1])) :: (q1, .inl (κ.2.1 1, 4, .inr (.inr (.inr (.inr (va_up (va_up (va_up (fun _ => none) (Int32.toNatClampNeg 0) (some q29)) (Int32.toNatClampNeg 1) (some q32)) (Int32.toNatClampNeg 2) (some q35))))))) :: (s_0, .inr (6, [.ref q1, .ref q2, .ref q4, .ref q6, .ref q11, .ref q18, .ref q27, .int 0, .int 0, .int 0])) :: w) rfl dX5_init_93 (fun H locs hB => ?_)
  refine lv_iinc (v := 3) (lv' := [(1, .int 3), (0, .ref s_0)]) hx hb dX5_init_94 hl (k := 0) rfl (by decide) (by decide) rfl (fun ls hl => ?_)
  refine lv_goto (tgt := 76) hx hb dX5_init_97 (by decide) ?_
  refine lv_iload_n hx hb dX5_init_76 rfl (lv_at hl 0 rfl) ?_
  refine lv_iconst (v := 4) hx hb dX5_init_77 (by decide) ?_
  refine lv_icmp_ge (tgt := 100) hx hb dX5_init_78 (by decide) (fun c37 => False.elim (by revert c37; decide)) (fun _ => ?_)
  refine lv_aload_n hx hb dX5_init_81 rfl (lv_at hl 1 rfl) ?_
  refine gf (k0 := 33) hX hB rfl rfl in5 0 (by decide) wm_1_137 rfl rfl dX5_init_82 ?_
  refine lv_iload_n hx hb dX5_init_85 rfl (lv_at hl 0 rfl) ?_
  refine newO (fs := [.null, .int 0, .int 0]) hX hB (ci := 4) rfl in3 tyX3_ok wm_1_38 wm_1_40 wm_1_2 df4 (Nat.le_of_ble_eq_true rfl) (Nat.le_of_ble_eq_true rfl) dX5_init_86 (fun q38 H hB => ?_)
  refine lv_dup hx hb dX5_init_89 rfl ?_
  refine call_IN (n := 0) (As := []) (rest := [.ref q38, .int 3, .ref q1]) hX hB (k_X3_init κ l (lA κ b36 20 (fun _ => 0) :: (q35, .inr (4, [.ref b36, .int 1, .int 1])) :: lA κ b33 20 (fun _ => 0) :: (q32, .inr (4, [.ref b33, .int 1, .int 1])) :: lA κ b30 20 (fun _ => 0) :: (q29, .inr (4, [.ref b30, .int 1, .int 1])) :: lA κ q27 4 (fun _ => 0) :: lA κ b26 20 (fun _ => 0) :: (g25, .inr (4, [.ref b26, .int 1, .int 1])) :: lA κ b24 20 (fun _ => 0) :: (g23, .inr (4, [.ref b24, .int 1, .int 1])) :: lA κ b22 20 (fun _ => 0) :: (g21, .inr (4, [.ref b22, .int 1, .int 1])) :: lA κ b20 20 (fun _ => 0) :: (g19, .inr (4, [.ref b20, .int 1, .int 1])) :: (q18, .inr (3, [.ref g19, .ref g21, .ref g23, .ref g25])) :: lA κ b17 20 (fun _ => 0) :: (g16, .inr (4, [.ref b17, .int 1, .int 1])) :: lA κ b15 20 (fun _ => 0) :: (g14, .inr (4, [.ref b15, .int 1, .int 1])) :: lA κ b13 20 (fun _ => 0) :: (g12, .inr (4, [.ref b13, .int 1, .int 1])) :: (q11, .inr (2, [.ref g12, .ref g14, .ref g16, .int 0])) :: lA κ b10 20 (fun _ => 0) :: (g9, .inr (4, [.ref b10, .int 1, .int 1])) :: lA κ b8 20 (fun _ => 0) :: (g7, .inr (4, [.ref b8, .int 1, .int 1])) :: (q6, .inr (5, [.ref g7, .ref g9, .int 0])) :: lA κ b5 20 (fun _ => 0) :: (q4, .inr (4, [.ref b5, .int 1, .int 1])) :: lA κ b3 20 (fun _ => 0) :: (q2, .inr (4, [.ref b3, .int 1, .int 1])) :: (q1, .inl (κ.2.1 1, 4, .inr (.inr (.inr (.inr (va_up (va_up (va_up (fun _ => none) (Int32.toNatClampNeg 0) (some q29)) (Int32.toNatClampNeg 1) (some q32)) (Int32.toNatClampNeg 2) (some q35))))))) :: (s_0, .inr (6, [.ref q1, .ref q2, .ref q4, .ref q6, .ref q11, .ref q18, .ref q27, .int 0, .int 0, .int 0])) :: w) q38 ) ⟨by decide, by decide, by decide +kernel⟩ rfl wn_1_41 wm_1_42 wm_1_2 wm_1_43 ⟨Nat.le_of_ble_eq_true rfl, Nat.le_of_ble_eq_true rfl⟩ ⟨Nat.le_of_ble_eq_true rfl, Nat.le_of_ble_eq_true rfl⟩ rfl hl.1 rfl (Nat.le_of_ble_eq_true rfl) dX5_init_90 (fun o w' H locs hp hB => ?_)
  obtain ⟨b39, rfl, hw9⟩ := hp
  replace hB : Bd κ A s (lA κ b39 20 (fun _ => 0) :: (q38, .inr (4, [.ref b39, .int 1, .int 1])) :: lA κ b36 20 (fun _ => 0) :: (q35, .inr (4, [.ref b36, .int 1, .int 1])) :: lA κ b33 20 (fun _ => 0) :: (q32, .inr (4, [.ref b33, .int 1, .int 1])) :: lA κ b30 20 (fun _ => 0) :: (q29, .inr (4, [.ref b30, .int 1, .int 1])) :: lA κ q27 4 (fun _ => 0) :: lA κ b26 20 (fun _ => 0) :: (g25, .inr (4, [.ref b26, .int 1, .int 1])) :: lA κ b24 20 (fun _ => 0) :: (g23, .inr (4, [.ref b24, .int 1, .int 1])) :: lA κ b22 20 (fun _ => 0) :: (g21, .inr (4, [.ref b22, .int 1, .int 1])) :: lA κ b20 20 (fun _ => 0) :: (g19, .inr (4, [.ref b20, .int 1, .int 1])) :: (q18, .inr (3, [.ref g19, .ref g21, .ref g23, .ref g25])) :: lA κ b17 20 (fun _ => 0) :: (g16, .inr (4, [.ref b17, .int 1, .int 1])) :: lA κ b15 20 (fun _ => 0) :: (g14, .inr (4, [.ref b15, .int 1, .int 1])) :: lA κ b13 20 (fun _ => 0) :: (g12, .inr (4, [.ref b13, .int 1, .int 1])) :: (q11, .inr (2, [.ref g12, .ref g14, .ref g16, .int 0])) :: lA κ b10 20 (fun _ => 0) :: (g9, .inr (4, [.ref b10, .int 1, .int 1])) :: lA κ b8 20 (fun _ => 0) :: (g7, .inr (4, [.ref b8, .int 1, .int 1])) :: (q6, .inr (5, [.ref g7, .ref g9, .int 0])) :: lA κ b5 20 (fun _ => 0) :: (q4, .inr (4, [.ref b5, .int 1, .int 1])) :: lA κ b3 20 (fun _ => 0) :: (q2, .inr (4, [.ref b3, .int 1, .int 1])) :: (q1, .inl (κ.2.1 1, 4, .inr (.inr (.inr (.inr (va_up (va_up (va_up (fun _ => none) (Int32.toNatClampNeg 0) (some q29)) (Int32.toNatClampNeg 1) (some q32)) (Int32.toNatClampNeg 2) (some q35))))))) :: (s_0, .inr (6, [.ref q1, .ref q2, .ref q4, .ref q6, .ref q11, .ref q18, .ref q27, .int 0, .int 0, .int 0])) :: w) H locs := by rw [hw9] at hB; exact hB
  refine W.eq (g2 := F0 m 93 ls [.ref q38, .int 3, .ref q1]) rfl ?_
  refine astG (f := va_up (va_up (va_up (fun _ => none) (Int32.toNatClampNeg 0) (some q29)) (Int32.toNatClampNeg 1) (some q32)) (Int32.toNatClampNeg 2) (some q35)) (k0 := 34) (k1 := 1) (i := 3) hX hB rfl rfl (vp_in_iff.mpr ⟨by decide, by decide⟩) (w1 := lA κ b39 20 (fun _ => 0) :: (q38, .inr (4, [.ref b39, .int 1, .int 1])) :: lA κ b36 20 (fun _ => 0) :: (q35, .inr (4, [.ref b36, .int 1, .int 1])) :: lA κ b33 20 (fun _ => 0) :: (q32, .inr (4, [.ref b33, .int 1, .int 1])) :: lA κ b30 20 (fun _ => 0) :: (q29, .inr (4, [.ref b30, .int 1, .int 1])) :: lA κ q27 4 (fun _ => 0) :: lA κ b26 20 (fun _ => 0) :: (g25, .inr (4, [.ref b26, .int 1, .int 1])) :: lA κ b24 20 (fun _ => 0) :: (g23, .inr (4, [.ref b24, .int 1, .int 1])) :: lA κ b22 20 (fun _ => 0) :: (g21, .inr (4, [.ref b22, .int 1, .int 1])) :: lA κ b20 20 (fun _ => 0) :: (g19, .inr (4, [.ref b20, .int 1, .int 1])) :: (q18, .inr (3, [.ref g19, .ref g21, .ref g23, .ref g25])) :: lA κ b17 20 (fun _ => 0) :: (g16, .inr (4, [.ref b17, .int 1, .int 1])) :: lA κ b15 20 (fun _ => 0) :: (g14, .inr (4, [.ref b15, .int 1, .int 1])) :: lA κ b13 20 (fun _ => 0) :: (g12, .inr (4, [.ref b13, .int 1, .int 1])) :: (q11, .inr (2, [.ref g12, .ref g14, .ref g16, .int 0])) :: lA κ b10 20 (fun _ => 0) :: (g9, .inr (4, [.ref b10, .int 1, .int 1])) :: lA κ b8 20 (fun _ => 0) :: (g7, .inr (4, [.ref b8, .int 1, .int 1])) :: (q6, .inr (5, [.ref g7, .ref g9, .int 0])) :: lA κ b5 20 (fun _ => 0) :: (q4, .inr (4, [.ref b5, .int 1, .int 1])) :: lA κ b3 20 (fun _ => 0) :: (q2, .inr (4, [.ref b3, .int 1, .int 1])) :: (q1, .inl (κ.2.1 1, 4, .inr (.inr (.inr (.inr (va_up (va_up (va_up (va_up (fun _ => none) (Int32.toNatClampNeg 0) (some q29)) (Int32.toNatClampNeg 1) (some q32)) (Int32.toNatClampNeg 2) (some q35)) (Int32.toNatClampNeg 3) (some q38))))))) :: (s_0, .inr (6, [.ref q1, .ref q2, .ref q4, .ref q6, .ref q11, .ref q18, .ref q27, .int 0, .int 0, .int 0])) :: w) rfl dX5_init_93 (fun H locs hB => ?_)
  refine lv_iinc (v := 4) (lv' := [(1, .int 4), (0, .ref s_0)]) hx hb dX5_init_94 hl (k := 0) rfl (by decide) (by decide) rfl (fun ls hl => ?_)
  refine lv_goto (tgt := 76) hx hb dX5_init_97 (by decide) ?_
  refine lv_iload_n hx hb dX5_init_76 rfl (lv_at hl 0 rfl) ?_
  refine lv_iconst (v := 4) hx hb dX5_init_77 (by decide) ?_
  refine lv_icmp_ge (tgt := 100) hx hb dX5_init_78 (by decide) (fun _ => ?_) (fun c40 => False.elim (by revert c40; decide))
  replace hB := Bd_arr (k0 := 34) (g := fun j => some ((va_ls [s_0, q1, q6, q11, q18, q27, q29, b30, q32, b33, q35, b36, q38, b39, q2, b3, q4, b5, g7, b8, g9, b10, g12, b13, g14, b15, g16, b17, g19, b20, g21, b22, g23, b24, g25, b26]) (6 + 2 * j))) rfl (fun j hj => by match j, hj with | 0, _ => rfl | 1, _ => rfl | 2, _ => rfl | 3, _ => rfl) hB
  replace hB : Bd κ A s (cw κ (va_ls [s_0, q1, q6, q11, q18, q27, q29, b30, q32, b33, q35, b36, q38, b39, q2, b3, q4, b5, g7, b8, g9, b10, g12, b13, g14, b15, g16, b17, g19, b20, g21, b22, g23, b24, g25, b26]) (fun _ => 1) (fun _ => 0) (fun _ _ => 0) ++ w) H locs := Bd_perm (u := [lA κ b39 20 (fun _ => 0), (q38, .inr (4, [.ref b39, .int 1, .int 1])), lA κ b36 20 (fun _ => 0), (q35, .inr (4, [.ref b36, .int 1, .int 1])), lA κ b33 20 (fun _ => 0), (q32, .inr (4, [.ref b33, .int 1, .int 1])), lA κ b30 20 (fun _ => 0), (q29, .inr (4, [.ref b30, .int 1, .int 1])), lA κ q27 4 (fun _ => 0), lA κ b26 20 (fun _ => 0), (g25, .inr (4, [.ref b26, .int 1, .int 1])), lA κ b24 20 (fun _ => 0), (g23, .inr (4, [.ref b24, .int 1, .int 1])), lA κ b22 20 (fun _ => 0), (g21, .inr (4, [.ref b22, .int 1, .int 1])), lA κ b20 20 (fun _ => 0), (g19, .inr (4, [.ref b20, .int 1, .int 1])), (q18, .inr (3, [.ref g19, .ref g21, .ref g23, .ref g25])), lA κ b17 20 (fun _ => 0), (g16, .inr (4, [.ref b17, .int 1, .int 1])), lA κ b15 20 (fun _ => 0), (g14, .inr (4, [.ref b15, .int 1, .int 1])), lA κ b13 20 (fun _ => 0), (g12, .inr (4, [.ref b13, .int 1, .int 1])), (q11, .inr (2, [.ref g12, .ref g14, .ref g16, .int 0])), lA κ b10 20 (fun _ => 0), (g9, .inr (4, [.ref b10, .int 1, .int 1])), lA κ b8 20 (fun _ => 0), (g7, .inr (4, [.ref b8, .int 1, .int 1])), (q6, .inr (5, [.ref g7, .ref g9, .int 0])), lA κ b5 20 (fun _ => 0), (q4, .inr (4, [.ref b5, .int 1, .int 1])), lA κ b3 20 (fun _ => 0), (q2, .inr (4, [.ref b3, .int 1, .int 1])), (q1, .inl (κ.2.1 1, 4, .inr (.inr (.inr (.inr (fun j => some ((va_ls [s_0, q1, q6, q11, q18, q27, q29, b30, q32, b33, q35, b36, q38, b39, q2, b3, q4, b5, g7, b8, g9, b10, g12, b13, g14, b15, g16, b17, g19, b20, g21, b22, g23, b24, g25, b26]) (6 + 2 * j)))))))), (s_0, .inr (6, [.ref q1, .ref q2, .ref q4, .ref q6, .ref q11, .ref q18, .ref q27, .int 0, .int 0, .int 0]))]) (P := [35, 34, 29, 24, 17, 8, 7, 6, 5, 4, 3, 2, 1, 0, 33, 32, 31, 30, 28, 27, 26, 25, 23, 22, 21, 20, 19, 18, 16, 15, 14, 13, 12, 11, 10, 9]) (d := (0, .inr (0, []))) (w := w) rfl rfl (by decide) (by decide) hB
  rw [← hQ]
  exact end_v hX hB hA3 rfl ⟨va_ls [s_0, q1, q6, q11, q18, q27, q29, b30, q32, b33, q35, b36, q38, b39, q2, b3, q4, b5, g7, b8, g9, b10, g12, b13, g14, b15, g16, b17, g19, b20, g21, b22, g23, b24, g25, b26], rfl, rfl, rfl⟩ (Nat.le_of_ble_eq_true rfl) (Nat.le_of_ble_eq_true rfl) dX5_init_100
set_option maxHeartbeats 4000000 in
set_option maxRecDepth 100000 in
theorem k_X10_init (κ : Kt) (l : Launch) (w : va_W) (s_0 : Nat)  : CM κ l yX10_init cX10_init 2 (none) 2 42 9 96 [.ref s_0] ((s_0, .inr (11, [.null, .int 0, .int 0, .int 0, .int 0])) :: w) (fun o w' => ∃ a : Nat → Nat, o = none ∧ a 0 = s_0 ∧ w' = mw κ a (fun _ => 1) (fun _ _ => 0) (fun _ => 0) (tb a) w) := by
  refine CM_begin (plainFor_of_name (by decide)) (Nat.le_of_ble_eq_true rfl) ?_
  intro p e s m args below meth c A Q hX hnm hA3 hQ hB ls hl
  have hx := hX.1.1
  have hb := hX.1.2.1
  have hl : lv_has ls 2 [(0, .ref s_0)] := hl
  refine lv_aload_n hx hb dX10_init_0 rfl (lv_at hl 0 rfl) ?_
  refine W.objInit hx hb hX.1.2.2.2.1 (hX.1.2.2.2.2 _ wm_5_137) (hX.1.2.2.2.2 _ wm_1_36) (hX.1.2.2.2.2 _ wm_1_37) rfl (by rw [hX.1.2.2.1]; exact hl.1) rfl dX10_init_1 (Nat.le_of_ble_eq_true rfl) (Nat.le_of_ble_eq_true rfl) ?_
  refine W.eq (g2 := F0 m 4 ls []) rfl ?_
  refine lv_aload_n hx hb dX10_init_4 rfl (lv_at hl 0 rfl) ?_
  refine lv_iconst (v := 4) hx hb dX10_init_5 (by decide) ?_
  refine newR (t0 := 2) (N := 4) hX hB rfl wm_5_138 hX.2.1.2.2.1.2.2.2.2.1 (by decide) (by decide) (Nat.le_of_ble_eq_true rfl) (Nat.le_of_ble_eq_true rfl) (Nat.le_of_ble_eq_true rfl) dX10_init_6 (fun q1 H hB => ?_)
  refine pfF (ty := .array (.object "GridmenderModel$Grid")) (k0 := 1) hX hnm hB rfl rfl in10 tyX10_ok nmX10 0 (by decide) wm_5_162 rfl rfl rfl rfl rfl rfl (Nat.le_of_ble_eq_true rfl) (w1 := (q1, .inl (κ.2.1 2, 4, .inr (.inr (.inr (.inr (fun _ => none)))))) :: (s_0, .inr (11, [.ref q1, .int 0, .int 0, .int 0, .int 0])) :: w) rfl dX10_init_9 (fun H locs hB => ?_)
  refine lv_iconst (v := 0) hx hb dX10_init_12 (by decide) ?_
  refine lv_istore_n (lv' := [(1, .int 0), (0, .ref s_0)]) hx hb dX10_init_13 rfl hl (by decide) rfl (fun ls hl => ?_)
  refine lv_iload_n hx hb dX10_init_14 rfl (lv_at hl 0 rfl) ?_
  refine lv_iconst (v := 4) hx hb dX10_init_15 (by decide) ?_
  refine lv_icmp_ge (tgt := 40) hx hb dX10_init_16 (by decide) (fun c2 => False.elim (by revert c2; decide)) (fun _ => ?_)
  refine lv_aload_n hx hb dX10_init_19 rfl (lv_at hl 1 rfl) ?_
  refine gf (k0 := 1) hX hB rfl rfl in10 0 (by decide) wm_5_162 rfl rfl dX10_init_20 ?_
  refine lv_iload_n hx hb dX10_init_23 rfl (lv_at hl 0 rfl) ?_
  refine newO (fs := [.int 0, .int 0, .null]) hX hB (ci := 8) rfl in7 tyX7_ok wm_5_138 wm_5_140 wm_1_7 df8 (Nat.le_of_ble_eq_true rfl) (Nat.le_of_ble_eq_true rfl) dX10_init_24 (fun q3 H hB => ?_)
  refine lv_dup hx hb dX10_init_27 rfl ?_
  refine lv_iconst (v := 1) hx hb dX10_init_28 (by decide) ?_
  refine lv_iconst (v := 1) hx hb dX10_init_29 (by decide) ?_
  refine call_I (n := 2) (As := [.int 1, .int 1]) (rest := [.ref q3, .int 0, .ref q1]) hX hB (k_X7_init κ l ((q1, .inl (κ.2.1 2, 4, .inr (.inr (.inr (.inr (fun _ => none)))))) :: (s_0, .inr (11, [.ref q1, .int 0, .int 0, .int 0, .int 0])) :: w) q3 1 1 1 1 rfl rfl (by omega)) ⟨by decide, by decide, by decide +kernel⟩ rfl wm_5_141 wm_5_142 wm_1_7 wm_5_143 ⟨Nat.le_of_ble_eq_true rfl, Nat.le_of_ble_eq_true rfl⟩ ⟨Nat.le_of_ble_eq_true rfl, Nat.le_of_ble_eq_true rfl⟩ rfl hl.1 rfl (Nat.le_of_ble_eq_true rfl) dX10_init_30 (fun o w' H locs hp hB => ?_)
  obtain ⟨b4, rfl, hw9⟩ := hp
  replace hB : Bd κ A s (lA κ b4 (1 * 5) (fun _ => 0) :: gO q3 1 1 b4 :: (q1, .inl (κ.2.1 2, 4, .inr (.inr (.inr (.inr (fun _ => none)))))) :: (s_0, .inr (11, [.ref q1, .int 0, .int 0, .int 0, .int 0])) :: w) H locs := by rw [hw9] at hB; exact hB
  refine W.eq (g2 := F0 m 33 ls [.ref q3, .int 0, .ref q1]) rfl ?_
  refine astM (f := fun _ => none) (k0 := 2) (k1 := 1) (i := 0) hX hB rfl rfl (vp_in_iff.mpr ⟨by decide, by decide⟩) (w1 := lA κ b4 (1 * 5) (fun _ => 0) :: gO q3 1 1 b4 :: (q1, .inl (κ.2.1 2, 4, .inr (.inr (.inr (.inr (va_up (fun _ => none) (Int32.toNatClampNeg 0) (some q3))))))) :: (s_0, .inr (11, [.ref q1, .int 0, .int 0, .int 0, .int 0])) :: w) rfl dX10_init_33 (fun H locs hB => ?_)
  refine lv_iinc (v := 1) (lv' := [(1, .int 1), (0, .ref s_0)]) hx hb dX10_init_34 hl (k := 0) rfl (by decide) (by decide) rfl (fun ls hl => ?_)
  refine lv_goto (tgt := 14) hx hb dX10_init_37 (by decide) ?_
  refine lv_iload_n hx hb dX10_init_14 rfl (lv_at hl 0 rfl) ?_
  refine lv_iconst (v := 4) hx hb dX10_init_15 (by decide) ?_
  refine lv_icmp_ge (tgt := 40) hx hb dX10_init_16 (by decide) (fun c5 => False.elim (by revert c5; decide)) (fun _ => ?_)
  refine lv_aload_n hx hb dX10_init_19 rfl (lv_at hl 1 rfl) ?_
  refine gf (k0 := 3) hX hB rfl rfl in10 0 (by decide) wm_5_162 rfl rfl dX10_init_20 ?_
  refine lv_iload_n hx hb dX10_init_23 rfl (lv_at hl 0 rfl) ?_
  refine newO (fs := [.int 0, .int 0, .null]) hX hB (ci := 8) rfl in7 tyX7_ok wm_5_138 wm_5_140 wm_1_7 df8 (Nat.le_of_ble_eq_true rfl) (Nat.le_of_ble_eq_true rfl) dX10_init_24 (fun q6 H hB => ?_)
  refine lv_dup hx hb dX10_init_27 rfl ?_
  refine lv_iconst (v := 1) hx hb dX10_init_28 (by decide) ?_
  refine lv_iconst (v := 1) hx hb dX10_init_29 (by decide) ?_
  refine call_I (n := 2) (As := [.int 1, .int 1]) (rest := [.ref q6, .int 1, .ref q1]) hX hB (k_X7_init κ l (lA κ b4 (1 * 5) (fun _ => 0) :: gO q3 1 1 b4 :: (q1, .inl (κ.2.1 2, 4, .inr (.inr (.inr (.inr (va_up (fun _ => none) (Int32.toNatClampNeg 0) (some q3))))))) :: (s_0, .inr (11, [.ref q1, .int 0, .int 0, .int 0, .int 0])) :: w) q6 1 1 1 1 rfl rfl (by omega)) ⟨by decide, by decide, by decide +kernel⟩ rfl wm_5_141 wm_5_142 wm_1_7 wm_5_143 ⟨Nat.le_of_ble_eq_true rfl, Nat.le_of_ble_eq_true rfl⟩ ⟨Nat.le_of_ble_eq_true rfl, Nat.le_of_ble_eq_true rfl⟩ rfl hl.1 rfl (Nat.le_of_ble_eq_true rfl) dX10_init_30 (fun o w' H locs hp hB => ?_)
  obtain ⟨b7, rfl, hw9⟩ := hp
  replace hB : Bd κ A s (lA κ b7 (1 * 5) (fun _ => 0) :: gO q6 1 1 b7 :: lA κ b4 (1 * 5) (fun _ => 0) :: gO q3 1 1 b4 :: (q1, .inl (κ.2.1 2, 4, .inr (.inr (.inr (.inr (va_up (fun _ => none) (Int32.toNatClampNeg 0) (some q3))))))) :: (s_0, .inr (11, [.ref q1, .int 0, .int 0, .int 0, .int 0])) :: w) H locs := by rw [hw9] at hB; exact hB
  refine W.eq (g2 := F0 m 33 ls [.ref q6, .int 1, .ref q1]) rfl ?_
  refine astM (f := va_up (fun _ => none) (Int32.toNatClampNeg 0) (some q3)) (k0 := 4) (k1 := 1) (i := 1) hX hB rfl rfl (vp_in_iff.mpr ⟨by decide, by decide⟩) (w1 := lA κ b7 (1 * 5) (fun _ => 0) :: gO q6 1 1 b7 :: lA κ b4 (1 * 5) (fun _ => 0) :: gO q3 1 1 b4 :: (q1, .inl (κ.2.1 2, 4, .inr (.inr (.inr (.inr (va_up (va_up (fun _ => none) (Int32.toNatClampNeg 0) (some q3)) (Int32.toNatClampNeg 1) (some q6))))))) :: (s_0, .inr (11, [.ref q1, .int 0, .int 0, .int 0, .int 0])) :: w) rfl dX10_init_33 (fun H locs hB => ?_)
  refine lv_iinc (v := 2) (lv' := [(1, .int 2), (0, .ref s_0)]) hx hb dX10_init_34 hl (k := 0) rfl (by decide) (by decide) rfl (fun ls hl => ?_)
  refine lv_goto (tgt := 14) hx hb dX10_init_37 (by decide) ?_
  refine lv_iload_n hx hb dX10_init_14 rfl (lv_at hl 0 rfl) ?_
  refine lv_iconst (v := 4) hx hb dX10_init_15 (by decide) ?_
  refine lv_icmp_ge (tgt := 40) hx hb dX10_init_16 (by decide) (fun c8 => False.elim (by revert c8; decide)) (fun _ => ?_)
  refine lv_aload_n hx hb dX10_init_19 rfl (lv_at hl 1 rfl) ?_
  refine gf (k0 := 5) hX hB rfl rfl in10 0 (by decide) wm_5_162 rfl rfl dX10_init_20 ?_
  refine lv_iload_n hx hb dX10_init_23 rfl (lv_at hl 0 rfl) ?_
  refine newO (fs := [.int 0, .int 0, .null]) hX hB (ci := 8) rfl in7 tyX7_ok wm_5_138 wm_5_140 wm_1_7 df8 (Nat.le_of_ble_eq_true rfl) (Nat.le_of_ble_eq_true rfl) dX10_init_24 (fun q9 H hB => ?_)
  refine lv_dup hx hb dX10_init_27 rfl ?_
  refine lv_iconst (v := 1) hx hb dX10_init_28 (by decide) ?_
  refine lv_iconst (v := 1) hx hb dX10_init_29 (by decide) ?_
  refine call_I (n := 2) (As := [.int 1, .int 1]) (rest := [.ref q9, .int 2, .ref q1]) hX hB (k_X7_init κ l (lA κ b7 (1 * 5) (fun _ => 0) :: gO q6 1 1 b7 :: lA κ b4 (1 * 5) (fun _ => 0) :: gO q3 1 1 b4 :: (q1, .inl (κ.2.1 2, 4, .inr (.inr (.inr (.inr (va_up (va_up (fun _ => none) (Int32.toNatClampNeg 0) (some q3)) (Int32.toNatClampNeg 1) (some q6))))))) :: (s_0, .inr (11, [.ref q1, .int 0, .int 0, .int 0, .int 0])) :: w) q9 1 1 1 1 rfl rfl (by omega)) ⟨by decide, by decide, by decide +kernel⟩ rfl wm_5_141 wm_5_142 wm_1_7 wm_5_143 ⟨Nat.le_of_ble_eq_true rfl, Nat.le_of_ble_eq_true rfl⟩ ⟨Nat.le_of_ble_eq_true rfl, Nat.le_of_ble_eq_true rfl⟩ rfl hl.1 rfl (Nat.le_of_ble_eq_true rfl) dX10_init_30 (fun o w' H locs hp hB => ?_)
  obtain ⟨b10, rfl, hw9⟩ := hp
  replace hB : Bd κ A s (lA κ b10 (1 * 5) (fun _ => 0) :: gO q9 1 1 b10 :: lA κ b7 (1 * 5) (fun _ => 0) :: gO q6 1 1 b7 :: lA κ b4 (1 * 5) (fun _ => 0) :: gO q3 1 1 b4 :: (q1, .inl (κ.2.1 2, 4, .inr (.inr (.inr (.inr (va_up (va_up (fun _ => none) (Int32.toNatClampNeg 0) (some q3)) (Int32.toNatClampNeg 1) (some q6))))))) :: (s_0, .inr (11, [.ref q1, .int 0, .int 0, .int 0, .int 0])) :: w) H locs := by rw [hw9] at hB; exact hB
  refine W.eq (g2 := F0 m 33 ls [.ref q9, .int 2, .ref q1]) rfl ?_
  refine astM (f := va_up (va_up (fun _ => none) (Int32.toNatClampNeg 0) (some q3)) (Int32.toNatClampNeg 1) (some q6)) (k0 := 6) (k1 := 1) (i := 2) hX hB rfl rfl (vp_in_iff.mpr ⟨by decide, by decide⟩) (w1 := lA κ b10 (1 * 5) (fun _ => 0) :: gO q9 1 1 b10 :: lA κ b7 (1 * 5) (fun _ => 0) :: gO q6 1 1 b7 :: lA κ b4 (1 * 5) (fun _ => 0) :: gO q3 1 1 b4 :: (q1, .inl (κ.2.1 2, 4, .inr (.inr (.inr (.inr (va_up (va_up (va_up (fun _ => none) (Int32.toNatClampNeg 0) (some q3)) (Int32.toNatClampNeg 1) (some q6)) (Int32.toNatClampNeg 2) (some q9))))))) :: (s_0, .inr (11, [.ref q1, .int 0, .int 0, .int 0, .int 0])) :: w) rfl dX10_init_33 (fun H locs hB => ?_)
  refine lv_iinc (v := 3) (lv' := [(1, .int 3), (0, .ref s_0)]) hx hb dX10_init_34 hl (k := 0) rfl (by decide) (by decide) rfl (fun ls hl => ?_)
  refine lv_goto (tgt := 14) hx hb dX10_init_37 (by decide) ?_
  refine lv_iload_n hx hb dX10_init_14 rfl (lv_at hl 0 rfl) ?_
  refine lv_iconst (v := 4) hx hb dX10_init_15 (by decide) ?_
  refine lv_icmp_ge (tgt := 40) hx hb dX10_init_16 (by decide) (fun c11 => False.elim (by revert c11; decide)) (fun _ => ?_)
  refine lv_aload_n hx hb dX10_init_19 rfl (lv_at hl 1 rfl) ?_
  refine gf (k0 := 7) hX hB rfl rfl in10 0 (by decide) wm_5_162 rfl rfl dX10_init_20 ?_
  refine lv_iload_n hx hb dX10_init_23 rfl (lv_at hl 0 rfl) ?_
  refine newO (fs := [.int 0, .int 0, .null]) hX hB (ci := 8) rfl in7 tyX7_ok wm_5_138 wm_5_140 wm_1_7 df8 (Nat.le_of_ble_eq_true rfl) (Nat.le_of_ble_eq_true rfl) dX10_init_24 (fun q12 H hB => ?_)
  refine lv_dup hx hb dX10_init_27 rfl ?_
  refine lv_iconst (v := 1) hx hb dX10_init_28 (by decide) ?_
  refine lv_iconst (v := 1) hx hb dX10_init_29 (by decide) ?_
  refine call_I (n := 2) (As := [.int 1, .int 1]) (rest := [.ref q12, .int 3, .ref q1]) hX hB (k_X7_init κ l (lA κ b10 (1 * 5) (fun _ => 0) :: gO q9 1 1 b10 :: lA κ b7 (1 * 5) (fun _ => 0) :: gO q6 1 1 b7 :: lA κ b4 (1 * 5) (fun _ => 0) :: gO q3 1 1 b4 :: (q1, .inl (κ.2.1 2, 4, .inr (.inr (.inr (.inr (va_up (va_up (va_up (fun _ => none) (Int32.toNatClampNeg 0) (some q3)) (Int32.toNatClampNeg 1) (some q6)) (Int32.toNatClampNeg 2) (some q9))))))) :: (s_0, .inr (11, [.ref q1, .int 0, .int 0, .int 0, .int 0])) :: w) q12 1 1 1 1 rfl rfl (by omega)) ⟨by decide, by decide, by decide +kernel⟩ rfl wm_5_141 wm_5_142 wm_1_7 wm_5_143 ⟨Nat.le_of_ble_eq_true rfl, Nat.le_of_ble_eq_true rfl⟩ ⟨Nat.le_of_ble_eq_true rfl, Nat.le_of_ble_eq_true rfl⟩ rfl hl.1 rfl (Nat.le_of_ble_eq_true rfl) dX10_init_30 (fun o w' H locs hp hB => ?_)
  obtain ⟨b13, rfl, hw9⟩ := hp
  replace hB : Bd κ A s (lA κ b13 (1 * 5) (fun _ => 0) :: gO q12 1 1 b13 :: lA κ b10 (1 * 5) (fun _ => 0) :: gO q9 1 1 b10 :: lA κ b7 (1 * 5) (fun _ => 0) :: gO q6 1 1 b7 :: lA κ b4 (1 * 5) (fun _ => 0) :: gO q3 1 1 b4 :: (q1, .inl (κ.2.1 2, 4, .inr (.inr (.inr (.inr (va_up (va_up (va_up (fun _ => none) (Int32.toNatClampNeg 0) (some q3)) (Int32.toNatClampNeg 1) (some q6)) (Int32.toNatClampNeg 2) (some q9))))))) :: (s_0, .inr (11, [.ref q1, .int 0, .int 0, .int 0, .int 0])) :: w) H locs := by rw [hw9] at hB; exact hB
  refine W.eq (g2 := F0 m 33 ls [.ref q12, .int 3, .ref q1]) rfl ?_
  refine astM (f := va_up (va_up (va_up (fun _ => none) (Int32.toNatClampNeg 0) (some q3)) (Int32.toNatClampNeg 1) (some q6)) (Int32.toNatClampNeg 2) (some q9)) (k0 := 8) (k1 := 1) (i := 3) hX hB rfl rfl (vp_in_iff.mpr ⟨by decide, by decide⟩) (w1 := lA κ b13 (1 * 5) (fun _ => 0) :: gO q12 1 1 b13 :: lA κ b10 (1 * 5) (fun _ => 0) :: gO q9 1 1 b10 :: lA κ b7 (1 * 5) (fun _ => 0) :: gO q6 1 1 b7 :: lA κ b4 (1 * 5) (fun _ => 0) :: gO q3 1 1 b4 :: (q1, .inl (κ.2.1 2, 4, .inr (.inr (.inr (.inr (va_up (va_up (va_up (va_up (fun _ => none) (Int32.toNatClampNeg 0) (some q3)) (Int32.toNatClampNeg 1) (some q6)) (Int32.toNatClampNeg 2) (some q9)) (Int32.toNatClampNeg 3) (some q12))))))) :: (s_0, .inr (11, [.ref q1, .int 0, .int 0, .int 0, .int 0])) :: w) rfl dX10_init_33 (fun H locs hB => ?_)
  refine lv_iinc (v := 4) (lv' := [(1, .int 4), (0, .ref s_0)]) hx hb dX10_init_34 hl (k := 0) rfl (by decide) (by decide) rfl (fun ls hl => ?_)
  refine lv_goto (tgt := 14) hx hb dX10_init_37 (by decide) ?_
  refine lv_iload_n hx hb dX10_init_14 rfl (lv_at hl 0 rfl) ?_
  refine lv_iconst (v := 4) hx hb dX10_init_15 (by decide) ?_
  refine lv_icmp_ge (tgt := 40) hx hb dX10_init_16 (by decide) (fun _ => ?_) (fun c14 => False.elim (by revert c14; decide))
  replace hB := Bd_arr (k0 := 8) (g := tb (va_ls [s_0, q1, q3, b4, q6, b7, q9, b10, q12, b13])) rfl (fun j hj => by match j, hj with | 0, _ => rfl | 1, _ => rfl | 2, _ => rfl | 3, _ => rfl) hB
  replace hB : Bd κ A s (mw κ (va_ls [s_0, q1, q3, b4, q6, b7, q9, b10, q12, b13]) (fun _ => 1) (fun _ _ => 0) (fun _ => 0) (tb (va_ls [s_0, q1, q3, b4, q6, b7, q9, b10, q12, b13])) w) H locs := Bd_perm (u := [lA κ b13 (1 * 5) (fun _ => 0), gO q12 1 1 b13, lA κ b10 (1 * 5) (fun _ => 0), gO q9 1 1 b10, lA κ b7 (1 * 5) (fun _ => 0), gO q6 1 1 b7, lA κ b4 (1 * 5) (fun _ => 0), gO q3 1 1 b4, (q1, .inl (κ.2.1 2, 4, .inr (.inr (.inr (.inr (tb (va_ls [s_0, q1, q3, b4, q6, b7, q9, b10, q12, b13]))))))), (s_0, .inr (11, [.ref q1, .int 0, .int 0, .int 0, .int 0]))]) (P := [9, 8, 7, 6, 5, 4, 3, 2, 1, 0]) (d := (0, .inr (0, []))) (w := w) rfl rfl (by decide) (by decide) hB
  rw [← hQ]
  exact end_v hX hB hA3 rfl ⟨va_ls [s_0, q1, q3, b4, q6, b7, q9, b10, q12, b13], rfl, rfl, rfl⟩ (Nat.le_of_ble_eq_true rfl) (Nat.le_of_ble_eq_true rfl) dX10_init_40
