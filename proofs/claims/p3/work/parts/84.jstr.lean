theorem castB {p : Program} {l : Launch} {e : Env} {R : Room} {s : State} {m : MethodId} {args : Array Value} {below : List Frame} {meth : Method} {c : Code} {H : Heap} {locs : List Loc} {cells slots : Nat} {Q : State → Prop} {κ : Kt} {cc : ByteArray} {nL : Nat} {own : String} {ret : Option FieldType} {A : Nat → Prop} {w : va_W} {pc : Nat} {ls : Array Slot} {rest : List Value} {k0 b n index : Nat} {f : Nat → Int32} (hX : Cx κ p m c cc nL s args own meth ret A) (hB : Bd κ A s w H locs) (hl : Cond.classLink own index "[B" ∈ wAll) (he : w[k0]? = some (bA κ b n f)) (hdg : decode cc pc = .ok (.checkcast index, 3))
    (kk : W p l e R s m args below meth c H locs cells slots Q (F0 m (pc + 3) ls (.ref b :: rest))) : W p l e R s m args below meth c H locs cells slots Q (F0 m pc ls (.ref b :: rest)) :=
  va_castA (nm := "[B") hX.1.1 hX.1.2.1 hX.1.2.2.2.1 (hX.1.2.2.2.2 _ hl) hB.1 k0 he (hX.2.1.1.2 3 _ rfl).2 hdg kk
theorem cloneB {p : Program} {l : Launch} {e : Env} {R : Room} {s : State} {m : MethodId} {args : Array Value} {below : List Frame} {meth : Method} {c : Code} {H : Heap} {locs : List Loc} {cells slots : Nat} {Q : State → Prop} {κ : Kt} {cc : ByteArray} {nL : Nat} {own : String} {ret : Option FieldType} {A : Nat → Prop} {w : va_W} {pc : Nat} {ls : Array Slot} {rest : List Value} {k0 b n mx index : Nat} {f : Nat → Int32} (hX : Cx κ p m c cc nL s args own meth ret A) (hB : Bd κ A s w H locs) (hml : ls.size = nL) (m1 : Cond.methodLink own index ⟨"[B", "clone", "()Ljava/lang/Object;"⟩ ∈ wAll) (m2 : Cond.sameMethod "[B" "java/lang/Object" "clone" "()Ljava/lang/Object;" ∈ wAll) (m3 : Cond.native ⟨"java/lang/Object", "clone", "()Ljava/lang/Object;"⟩ ∈ wNest) (m4 : Cond.instanceMethod ⟨"java/lang/Object", "clone", "()Ljava/lang/Object;"⟩ ∈ wAll) (m5 : Cond.selects "[B" ⟨"[B", "clone", "()Ljava/lang/Object;"⟩ ⟨"java/lang/Object", "clone", "()Ljava/lang/Object;"⟩ ∈ wAll) (m6 : Cond.castable "[B" "java/lang/Cloneable" ∈ wNest) (he : w[k0]? = some (bA κ b n f)) (hf : sb_Fit f) (hmx : n ≤ mx) (hfr : 1 ≤ R.frames) (hlo : (rest.map fun v => v.category).sum + 14 ≤ R.locals) (hcells : cells + 1 ≤ R.cells) (hslots : slots + mx ≤ R.slots) (hdg : decode cc pc = .ok (.invokevirtual index, 3))
    (kk : ∀ (q : Nat) (H1 : Heap), Bd κ A s (bA κ q n f :: w) H1 locs → W p l e R s m args below meth c H1 locs (cells + 1) (slots + mx) Q (F0 m (pc + 3) ls (.ref q :: rest))) : W p l e R s m args below meth c H locs cells slots Q (F0 m pc ls (.ref b :: rest)) := by
  have ht := hX.1.2.2.2.2
  have hnm : s.vm.findClass "[B" = some (κ.2.1 3) := (hX.2.1.1.2 3 _ rfl).2
  refine va_clone (tys := tysK κ) (x := (n, .inl f)) (ty := .byte) hX.1.1 hX.1.2.1 (by rw [hX.1.2.2.1]; exact hml.symm) hX.1.2.2.2.1 (ht _ m1) (ht _ m2) (va_Nw.use rfl (hX.2.1.2.1.use m3)) (ht _ m4) (ht _ m5) (hX.2.1.2.1.use m6) hX.2.1.1 hB.1 hB.2.1 hB.2.2 hX.2.2.2.1 k0 3 he rfl hnm (fun i v hv => ?_) hfr hlo hcells (Nat.le_trans (Nat.add_le_add_left hmx _) hslots) hdg (fun q H1 _ h1 h2 h3 => W.widen (Nat.le_refl _) (Nat.add_le_add_left hmx _) (kk q H1 (Bd_rot ⟨h1, h2, h3⟩)))
  have hi : i < n := by
    have := (Array.getElem?_eq_some_iff.mp hv).1
    have e : (vp_cell (κ.2.1 3) (n, .inl f)).slots.size = n := arrV_size _ _ _
    omega
  have e : (vp_cell (κ.2.1 3) (n, .inl f)).slots[i]? = some (.int (f i)) := arrV_read _ _ hi
  rw [e] at hv
  cases hv
  exact hf i

set_option maxHeartbeats 4000000 in
set_option maxRecDepth 100000 in
theorem k_J7_checkLength_df160 (κ : Kt) (l : Launch) (w : va_W) (xx : Int32) (x : Nat) (xy : Int32) (y : Nat) (hxx : xx = nI x) (hxy : xy = nI y) (hxy0 : x ≤ y) (hy6 : y ≤ 1000) : CM κ l yJ7_checkLength_df160 cJ7_checkLength_df160 2 (none) 0 0 0 0 [.int xx, .int xy] (w) (fun o w' => o = none ∧ w' = w) := by
  subst hxx
  subst hxy
  refine CM_begin (plainFor_of_name (by decide)) (Nat.le_of_ble_eq_true rfl) ?_
  intro p e s m args below meth c A Q hX hnm hA3 hQ hB ls hl
  have hx := hX.1.1
  have hb := hX.1.2.1
  have hl : lv_has ls 2 [(0, .int (nI x)), (1, .int (nI y))] := hl
  refine lv_iload_n hx hb dJ7_checkLength_df160_0 rfl (lv_at hl 1 rfl) ?_
  refine lv_iload_n hx hb dJ7_checkLength_df160_1 rfl (lv_at hl 0 rfl) ?_
  refine lv_icmp_ge (tgt := 37) hx hb dJ7_checkLength_df160_2 (by decide) (fun c1 => ?_) (fun c1 => ?_)
  · rw [nleP (a := x) (b := y) (by omega) (by omega)] at c1
    rw [← hQ]
    exact end_v hX hB hA3 rfl ⟨rfl, rfl⟩ (Nat.le_of_ble_eq_true rfl) (Nat.le_of_ble_eq_true rfl) dJ7_checkLength_df160_37
  · rw [nleP (a := x) (b := y) (by omega) (by omega)] at c1
    exact False.elim (by omega)
set_option maxHeartbeats 4000000 in
set_option maxRecDepth 100000 in
theorem k_J7_copyOfRangeByte_39247 (κ : Kt) (l : Launch) (w : va_W) (k_b b_b n_b : Nat) (f_b : Nat → Int32) (xx : Int32) (x : Nat) (xy : Int32) (y : Nat) (h_b : w[k_b]? = some (bA κ b_b n_b f_b)) (hnb : n_b ≤ 1000) (hft : sb_Fit f_b) (hxx : xx = nI x) (hxy : xy = nI y) (hx0 : x = 0) (hy6 : y ≤ n_b) : CM κ l yJ7_copyOfRangeByte_39247 cJ7_copyOfRangeByte_39247 5 (some (.array .byte)) 1 60 1 1000 [.ref b_b, .int xx, .int xy] (w) (fun o w' => ∃ (q1 : Nat) (F : Nat → Int32), o = some (.ref q1) ∧ (sb_Fit F) ∧ w' = bA κ q1 (y - x) F :: w) := by
  subst hxx
  subst hxy
  refine CM_begin (plainFor_of_name (by decide)) (Nat.le_of_ble_eq_true rfl) ?_
  intro p e s m args below meth c A Q hX hnm hA3 hQ hB ls hl
  have hx := hX.1.1
  have hb := hX.1.2.1
  have hl : lv_has ls 5 [(0, .ref b_b), (1, .int (nI x)), (2, .int (nI y))] := hl
  refine lv_iload_n hx hb dJ7_copyOfRangeByte_39247_0 rfl (lv_at hl 1 rfl) ?_
  refine lv_iload_n hx hb dJ7_copyOfRangeByte_39247_1 rfl (lv_at hl 2 rfl) ?_
  refine call_S (n := 2) (As := [.int (nI x), .int (nI y)]) (rest := []) hX hB (k_J7_checkLength_df160 κ l (w) (nI x) x (nI y) y rfl rfl (by omega) (by omega)) ⟨by decide, by decide, by decide +kernel⟩ wm_4_179 wm_4_180 wm_1_22 wm_4_181 ⟨Nat.le_of_ble_eq_true rfl, Nat.le_of_ble_eq_true rfl⟩ ⟨Nat.le_of_ble_eq_true rfl, Nat.le_of_ble_eq_true rfl⟩ rfl hl.1 rfl (Nat.le_of_ble_eq_true rfl) dJ7_copyOfRangeByte_39247_2 (fun o w' H locs hp hB => ?_)
  obtain ⟨rfl, hw9⟩ := hp
  replace hB : Bd κ A s (w) H locs := by rw [hw9] at hB; exact hB
  refine W.eq (g2 := F0 m 5 ls []) rfl ?_
  refine lv_iload_n hx hb dJ7_copyOfRangeByte_39247_5 rfl (lv_at hl 2 rfl) ?_
  refine lv_iload_n hx hb dJ7_copyOfRangeByte_39247_6 rfl (lv_at hl 1 rfl) ?_
  refine lv_isub hx hb dJ7_copyOfRangeByte_39247_7 ?_
  refine eqi (y := nI (y - x)) (nI_sub (a := y) (b := x) (by omega)) ?_
  refine lv_istore_n (lv' := [(3, .int (nI (y - x))), (0, .ref b_b), (1, .int (nI x)), (2, .int (nI y))]) hx hb dJ7_copyOfRangeByte_39247_8 rfl hl (by decide) rfl (fun ls hl => ?_)
  refine lv_iload_n hx hb dJ7_copyOfRangeByte_39247_9 rfl (lv_at hl 0 rfl) ?_
  refine newA (t0 := 3) (ty := .byte) (N := y - x) (mx := 1000) (a0 := ((y - x), .inl (fun _ => 0))) hX hB rfl rfl (fun h => h) wm_2_236 (fun _ => rfl) (nI_pos (n := y - x) (by omega)) (nI_clamp (n := y - x) (by omega)) (by omega) (Nat.le_of_ble_eq_true rfl) (Nat.le_of_ble_eq_true rfl) (Nat.le_of_ble_eq_true rfl) dJ7_copyOfRangeByte_39247_10 (fun q1 H hB => ?_)
  refine lv_astore (lv' := [(4, .ref q1), (3, .int (nI (y - x))), (0, .ref b_b), (1, .int (nI x)), (2, .int (nI y))]) hx hb dJ7_copyOfRangeByte_39247_12 hl (by decide) rfl (fun ls hl => ?_)
  refine lv_aload_n hx hb dJ7_copyOfRangeByte_39247_14 rfl (lv_at hl 2 rfl) ?_
  refine lv_iload_n hx hb dJ7_copyOfRangeByte_39247_15 rfl (lv_at hl 3 rfl) ?_
  refine lv_aload hx hb dJ7_copyOfRangeByte_39247_16 (lv_at hl 0 rfl) ?_
  refine lv_iconst (v := 0) hx hb dJ7_copyOfRangeByte_39247_18 (by decide) ?_
  refine lv_aload_n hx hb dJ7_copyOfRangeByte_39247_19 rfl (lv_at hl 2 rfl) ?_
  refine alenB (k0 := k_b + 1) (v := nI (n_b)) hX hB h_b rfl dJ7_copyOfRangeByte_39247_20 ?_
  refine lv_iload_n hx hb dJ7_copyOfRangeByte_39247_21 rfl (lv_at hl 3 rfl) ?_
  refine lv_isub hx hb dJ7_copyOfRangeByte_39247_22 ?_
  refine eqi (y := nI (n_b - x)) (nI_sub (a := n_b) (b := x) (by omega)) ?_
  refine lv_iload_n hx hb dJ7_copyOfRangeByte_39247_23 rfl (lv_at hl 1 rfl) ?_
  refine va_mmin hx hb (by rw [hX.1.2.2.1]; exact hl.1.symm) hX.1.2.2.2.1 (hX.1.2.2.2.2 _ wm_4_55) (hX.1.2.2.2.2 _ wm_1_217) (hX.1.2.2.2.2 _ wm_1_14) (hX.1.2.2.2.2 _ wm_1_218) (Nat.le_of_ble_eq_true rfl) (Nat.le_of_ble_eq_true rfl) (Nat.le_of_ble_eq_true rfl) (Nat.le_of_ble_eq_true rfl) dJ7_copyOfRangeByte_39247_24 ?_
  refine lv_topi (fun t2 et2 => ?_)
  refine eqi (y := nI (min (n_b - x) (y - x))) (et2.trans (nmin (by omega) (by omega))) ?_
  refine copyB (k0 := k_b + 1) (k1 := 0) (sp := x) (dp := 0) (n := min (n_b - x) (y - x)) hX hB hl.1 wm_4_56 wn_4_58 wm_4_57 wm_1_23 h_b rfl (by omega) (by omega) (by omega) (by omega) hft (Nat.le_of_ble_eq_true rfl) (Nat.le_of_ble_eq_true rfl) (w1 := bA κ q1 (y - x) (va_cpy f_b (fun _ => 0) x 0 (min (n_b - x) (y - x))) :: w) rfl dJ7_copyOfRangeByte_39247_27 (fun H locs hB => ?_)
  refine lv_aload hx hb dJ7_copyOfRangeByte_39247_30 (lv_at hl 0 rfl) ?_
  rw [← hQ]
  exact end_aA hX hB hA3 rfl (Or.inr ⟨_, rfl⟩) ⟨q1, (va_cpy f_b (fun _ => 0) x 0 (min (n_b - x) (y - x))), rfl, (sb_fitC hft sb_fit0), rfl⟩ (Nat.le_of_ble_eq_true rfl) (Nat.le_of_ble_eq_true rfl) dJ7_copyOfRangeByte_39247_32
set_option maxHeartbeats 4000000 in
set_option maxRecDepth 100000 in
theorem k_J7_copyOfRange_39247 (κ : Kt) (l : Launch) (w : va_W) (k_b b_b n_b : Nat) (f_b : Nat → Int32) (xx : Int32) (x : Nat) (xy : Int32) (y : Nat) (h_b : w[k_b]? = some (bA κ b_b n_b f_b)) (hnb : n_b ≤ 1000) (hft : sb_Fit f_b) (hxx : xx = nI x) (hxy : xy = nI y) (hx0 : x = 0) (hy6 : y ≤ n_b) : CM κ l yJ7_copyOfRange_39247 cJ7_copyOfRange_39247 3 (some (.array .byte)) 2 84 1 1000 [.ref b_b, .int xx, .int xy] (w) (fun o w' => ∃ (q1 : Nat) (n1 : Nat) (F : Nat → Int32), o = some (.ref q1) ∧ (sb_Fit F) ∧ w' = bA κ q1 n1 F :: w) := by
  subst hxx
  subst hxy
  refine CM_begin (plainFor_of_name (by decide)) (Nat.le_of_ble_eq_true rfl) ?_
  intro p e s m args below meth c A Q hX hnm hA3 hQ hB ls hl
  have hx := hX.1.1
  have hb := hX.1.2.1
  have hl : lv_has ls 3 [(0, .ref b_b), (1, .int (nI x)), (2, .int (nI y))] := hl
  refine lv_iload_n hx hb dJ7_copyOfRange_39247_0 rfl (lv_at hl 1 rfl) ?_
  refine lv_if_ne (tgt := 10) hx hb dJ7_copyOfRange_39247_1 (by decide) (fun c1 => ?_) (fun c1 => ?_)
  · replace c1 : ¬ nI x = nI 0 := c1
    rw [neqP (by omega) (by omega)] at c1
    refine lv_aload_n hx hb dJ7_copyOfRange_39247_10 rfl (lv_at hl 0 rfl) ?_
    refine lv_iload_n hx hb dJ7_copyOfRange_39247_11 rfl (lv_at hl 1 rfl) ?_
    refine lv_iload_n hx hb dJ7_copyOfRange_39247_12 rfl (lv_at hl 2 rfl) ?_
    refine call_S (n := 3) (As := [.ref b_b, .int (nI x), .int (nI y)]) (rest := []) hX hB (k_J7_copyOfRangeByte_39247 κ l (w) k_b b_b n_b f_b (nI x) x (nI y) y h_b (by omega) hft rfl rfl (by omega) (by omega)) ⟨by decide, by decide, by decide +kernel⟩ wm_4_176 wm_4_177 wm_1_22 wm_4_178 ⟨Nat.le_of_ble_eq_true rfl, Nat.le_of_ble_eq_true rfl⟩ ⟨Nat.le_of_ble_eq_true rfl, Nat.le_of_ble_eq_true rfl⟩ rfl hl.1 rfl (Nat.le_of_ble_eq_true rfl) dJ7_copyOfRange_39247_13 (fun o w' H locs hp hB => ?_)
    obtain ⟨q2, F3, rfl, hf4, hw9⟩ := hp
    replace hB : Bd κ A s (bA κ q2 (y - x) F3 :: w) H locs := by rw [hw9] at hB; exact hB
    refine W.eq (g2 := F0 m 16 ls [.ref q2]) rfl ?_
    rw [← hQ]
    exact end_aA hX hB hA3 rfl (Or.inr ⟨_, rfl⟩) ⟨q2, (y - x), F3, rfl, hf4, rfl⟩ (Nat.le_of_ble_eq_true rfl) (Nat.le_of_ble_eq_true rfl) dJ7_copyOfRange_39247_16
  · replace c1 : nI x = nI 0 := c1
    rw [neqP (by omega) (by omega)] at c1
    refine lv_iload_n hx hb dJ7_copyOfRange_39247_4 rfl (lv_at hl 2 rfl) ?_
    refine lv_aload_n hx hb dJ7_copyOfRange_39247_5 rfl (lv_at hl 0 rfl) ?_
    refine alenB (k0 := k_b) (v := nI (n_b)) hX hB h_b rfl dJ7_copyOfRange_39247_6 ?_
    refine lv_icmp_eq (tgt := 17) hx hb dJ7_copyOfRange_39247_7 (by decide) (fun c5 => ?_) (fun c5 => ?_)
    · rw [neqP (a := y) (b := n_b) (by omega) (by omega)] at c5
      refine lv_aload_n hx hb dJ7_copyOfRange_39247_17 rfl (lv_at hl 0 rfl) ?_
      refine cloneB (k0 := k_b) (mx := 1000) hX hB hl.1 wm_4_48 wm_4_49 wn_4_50 wm_4_51 wm_4_52 wn_4_53 h_b hft (by omega) (Nat.le_of_ble_eq_true rfl) (Nat.le_of_ble_eq_true rfl) (Nat.le_of_ble_eq_true rfl) (Nat.le_of_ble_eq_true rfl) dJ7_copyOfRange_39247_18 (fun q6 H hB => ?_)
      refine castB (k0 := 0) hX hB wm_4_54 rfl dJ7_copyOfRange_39247_21 ?_
      rw [← hQ]
      exact end_aA hX hB hA3 rfl (Or.inr ⟨_, rfl⟩) ⟨q6, n_b, f_b, rfl, hft, rfl⟩ (Nat.le_of_ble_eq_true rfl) (Nat.le_of_ble_eq_true rfl) dJ7_copyOfRange_39247_24
    · rw [neqP (a := y) (b := n_b) (by omega) (by omega)] at c5
      refine lv_aload_n hx hb dJ7_copyOfRange_39247_10 rfl (lv_at hl 0 rfl) ?_
      refine lv_iload_n hx hb dJ7_copyOfRange_39247_11 rfl (lv_at hl 1 rfl) ?_
      refine lv_iload_n hx hb dJ7_copyOfRange_39247_12 rfl (lv_at hl 2 rfl) ?_
      refine call_S (n := 3) (As := [.ref b_b, .int (nI x), .int (nI y)]) (rest := []) hX hB (k_J7_copyOfRangeByte_39247 κ l (w) k_b b_b n_b f_b (nI x) x (nI y) y h_b (by omega) hft rfl rfl (by omega) (by omega)) ⟨by decide, by decide, by decide +kernel⟩ wm_4_176 wm_4_177 wm_1_22 wm_4_178 ⟨Nat.le_of_ble_eq_true rfl, Nat.le_of_ble_eq_true rfl⟩ ⟨Nat.le_of_ble_eq_true rfl, Nat.le_of_ble_eq_true rfl⟩ rfl hl.1 rfl (Nat.le_of_ble_eq_true rfl) dJ7_copyOfRange_39247_13 (fun o w' H locs hp hB => ?_)
      obtain ⟨q7, F8, rfl, hf9, hw9⟩ := hp
      replace hB : Bd κ A s (bA κ q7 (y - x) F8 :: w) H locs := by rw [hw9] at hB; exact hB
      refine W.eq (g2 := F0 m 16 ls [.ref q7]) rfl ?_
      rw [← hQ]
      exact end_aA hX hB hA3 rfl (Or.inr ⟨_, rfl⟩) ⟨q7, (y - x), F8, rfl, hf9, rfl⟩ (Nat.le_of_ble_eq_true rfl) (Nat.le_of_ble_eq_true rfl) dJ7_copyOfRange_39247_16
set_option maxHeartbeats 4000000 in
set_option maxRecDepth 100000 in
theorem k_J0_init_db425 (κ : Kt) (l : Launch) (w : va_W) (s_0 k1 k2 g_s b_s n_s c_s : Nat) (ml : Int32) (f_s : Nat → Int32) (h1 : w[k1]? = some (g_s, .inr (1, [.ref b_s, .int 0, .int ml, .int (nI c_s)]))) (h2 : w[k2]? = some (bA κ b_s n_s f_s)) (hcn : c_s ≤ n_s) (hnb : n_s ≤ 1000) (hft : sb_Fit f_s) : CM κ l yJ0_init_db425 cJ0_init_db425 5 (none) 3 106 1 1000 [.ref s_0, .ref g_s, .null] ((s_0, .inr (0, [.null, .int 0, .int 0, .int 0])) :: w) (fun o w' => o = none ∧ w' = w) := by
  refine CM_begin (plainFor_of_name (by decide)) (Nat.le_of_ble_eq_true rfl) ?_
  intro p e s m args below meth c A Q hX hnm hA3 hQ hB ls hl
  have hx := hX.1.1
  have hb := hX.1.2.1
  have hl : lv_has ls 5 [(0, .ref s_0), (1, .ref g_s), (2, .null)] := hl
  refine lv_aload_n hx hb dJ0_init_db425_0 rfl (lv_at hl 0 rfl) ?_
  refine W.objInit hx hb hX.1.2.2.2.1 (hX.1.2.2.2.2 _ wm_4_158) (hX.1.2.2.2.2 _ wm_1_36) (hX.1.2.2.2.2 _ wm_1_37) rfl (by rw [hX.1.2.2.1]; exact hl.1) rfl dJ0_init_db425_1 (Nat.le_of_ble_eq_true rfl) (Nat.le_of_ble_eq_true rfl) ?_
  refine W.eq (g2 := F0 m 4 ls []) rfl ?_
  refine lv_aload_n hx hb dJ0_init_db425_4 rfl (lv_at hl 1 rfl) ?_
  refine call_U (n := 0) (k0 := k1 + 1) (As := []) (rest := []) hX hB (k_J5_getValue_6d5f1 κ l ((s_0, .inr (0, [.null, .int 0, .int 0, .int 0])) :: w) (k1 + 1) g_s b_s c_s ml h1) ⟨by decide, by decide, by decide +kernel⟩ wm_4_159 wm_4_161 wm_4_160 (Or.inl wm_4_162) wm_1_17 wm_4_163 ⟨Nat.le_of_ble_eq_true rfl, Nat.le_of_ble_eq_true rfl⟩ ⟨Nat.le_of_ble_eq_true rfl, Nat.le_of_ble_eq_true rfl⟩ h1 rfl rfl rfl hl.1 rfl (Nat.le_of_ble_eq_true rfl) dJ0_init_db425_5 (fun o w' H locs hp hB => ?_)
  obtain ⟨rfl, hw9⟩ := hp
  replace hB : Bd κ A s ((s_0, .inr (0, [.null, .int 0, .int 0, .int 0])) :: w) H locs := by rw [hw9] at hB; exact hB
  refine W.eq (g2 := F0 m 8 ls [.ref b_s]) rfl ?_
  refine lv_astore_n (lv' := [(3, .ref b_s), (0, .ref s_0), (1, .ref g_s), (2, .null)]) hx hb dJ0_init_db425_8 rfl hl (by decide) rfl (fun ls hl => ?_)
  refine lv_aload_n hx hb dJ0_init_db425_9 rfl (lv_at hl 2 rfl) ?_
  refine call_O (x := yJ5_length_8abf5) (C := "java/lang/StringBuilder") (n := 0) (k0 := k1 + 1) (As := []) (rest := []) hX hB (k_J4_length_8abf5 κ l ((s_0, .inr (0, [.null, .int 0, .int 0, .int 0])) :: w) (k1 + 1) g_s b_s c_s ml h1) ⟨by decide, by decide, by decide +kernel⟩ rfl wm_4_164 wm_4_166 wm_4_165 wm_4_171 wm_4_167 wm_4_168 wm_1_18 wm_4_169 ⟨Nat.le_of_ble_eq_true rfl, Nat.le_of_ble_eq_true rfl⟩ ⟨Nat.le_of_ble_eq_true rfl, Nat.le_of_ble_eq_true rfl⟩ h1 rfl rfl rfl hl.1 rfl (Nat.le_of_ble_eq_true rfl) dJ0_init_db425_10 (fun o w' H locs hp hB => ?_)
  obtain ⟨rfl, hw9⟩ := hp
  replace hB : Bd κ A s ((s_0, .inr (0, [.null, .int 0, .int 0, .int 0])) :: w) H locs := by rw [hw9] at hB; exact hB
  refine W.eq (g2 := F0 m 13 ls [.int (nI c_s)]) rfl ?_
  refine lv_istore (lv' := [(4, .int (nI c_s)), (3, .ref b_s), (0, .ref s_0), (1, .ref g_s), (2, .null)]) hx hb dJ0_init_db425_13 hl (by decide) rfl (fun ls hl => ?_)
  refine lv_aload_n hx hb dJ0_init_db425_15 rfl (lv_at hl 3 rfl) ?_
  refine call_U (n := 0) (k0 := k1 + 1) (As := []) (rest := []) hX hB (k_J5_isLatin1_aae02 κ l ((s_0, .inr (0, [.null, .int 0, .int 0, .int 0])) :: w) (k1 + 1) g_s b_s c_s ml h1) ⟨by decide, by decide, by decide +kernel⟩ wm_4_172 wm_4_61 wm_4_60 (Or.inl wm_4_62) wm_1_17 wm_4_63 ⟨Nat.le_of_ble_eq_true rfl, Nat.le_of_ble_eq_true rfl⟩ ⟨Nat.le_of_ble_eq_true rfl, Nat.le_of_ble_eq_true rfl⟩ h1 rfl rfl rfl hl.1 rfl (Nat.le_of_ble_eq_true rfl) dJ0_init_db425_16 (fun o w' H locs hp hB => ?_)
  obtain ⟨rfl, hw9⟩ := hp
  replace hB : Bd κ A s ((s_0, .inr (0, [.null, .int 0, .int 0, .int 0])) :: w) H locs := by rw [hw9] at hB; exact hB
  refine W.eq (g2 := F0 m 19 ls [.int 1]) rfl ?_
  refine lv_if_eq (tgt := 41) hx hb dJ0_init_db425_19 (by decide) (fun c1 => False.elim (by revert c1; decide)) (fun _ => ?_)
  refine lv_aload_n hx hb dJ0_init_db425_22 rfl (lv_at hl 2 rfl) ?_
  refine lv_iconst (v := 0) hx hb dJ0_init_db425_23 (by decide) ?_
  refine pfF (ty := .byte) (k0 := 0) hX hnm hB rfl rfl inJ0 tyJ0_ok nmJ0 1 (by decide) wm_5_1 rfl rfl rfl rfl rfl rfl (Nat.le_of_ble_eq_true rfl) (w1 := (s_0, .inr (0, [.null, .int 0, .int 0, .int 0])) :: w) rfl dJ0_init_db425_24 (fun H locs hB => ?_)
  refine lv_aload_n hx hb dJ0_init_db425_27 rfl (lv_at hl 2 rfl) ?_
  refine lv_aload_n hx hb dJ0_init_db425_28 rfl (lv_at hl 1 rfl) ?_
  refine lv_iconst (v := 0) hx hb dJ0_init_db425_29 (by decide) ?_
  refine lv_iload hx hb dJ0_init_db425_30 (lv_at hl 0 rfl) ?_
  refine call_S (n := 3) (As := [.ref b_s, .int 0, .int (nI c_s)]) (rest := [.ref s_0]) hX hB (k_J7_copyOfRange_39247 κ l ((s_0, .inr (0, [.null, .int 0, .int 0, .int 0])) :: w) (k2 + 1) b_s n_s f_s 0 0 (nI c_s) c_s h2 (by omega) hft rfl rfl (by omega) (by omega)) ⟨by decide, by decide, by decide +kernel⟩ wm_4_173 wm_4_174 wm_1_22 wm_4_175 ⟨Nat.le_of_ble_eq_true rfl, Nat.le_of_ble_eq_true rfl⟩ ⟨Nat.le_of_ble_eq_true rfl, Nat.le_of_ble_eq_true rfl⟩ rfl hl.1 rfl (Nat.le_of_ble_eq_true rfl) dJ0_init_db425_32 (fun o w' H locs hp hB => ?_)
  obtain ⟨q2, n3, F4, rfl, hf5, hw9⟩ := hp
  replace hB : Bd κ A s (bA κ q2 n3 F4 :: (s_0, .inr (0, [.null, .int 0, .int 0, .int 0])) :: w) H locs := by rw [hw9] at hB; exact hB
  refine W.eq (g2 := F0 m 35 ls [.ref q2, .ref s_0]) rfl ?_
  refine pfF (ty := .array .byte) (k0 := 1) hX hnm hB rfl rfl inJ0 tyJ0_ok nmJ0 0 (by decide) wm_5_0 rfl rfl rfl rfl rfl rfl (Nat.le_of_ble_eq_true rfl) (w1 := bA κ q2 n3 F4 :: (s_0, .inr (0, [.ref q2, .int 0, .int 0, .int 0])) :: w) rfl dJ0_init_db425_35 (fun H locs hB => ?_)
  refine lv_goto (tgt := 97) hx hb dJ0_init_db425_38 (by decide) ?_
  replace hB : Bd κ A s (bA κ q2 n3 F4 :: w) H locs := Bd_del 1 hB
  replace hB : Bd κ A s (w) H locs := Bd_del 0 hB
  rw [← hQ]
  exact end_v hX hB hA3 rfl ⟨rfl, rfl⟩ (Nat.le_of_ble_eq_true rfl) (Nat.le_of_ble_eq_true rfl) dJ0_init_db425_97
set_option maxHeartbeats 4000000 in
set_option maxRecDepth 100000 in
theorem k_J0_init_81219 (κ : Kt) (l : Launch) (w : va_W) (s_0 k1 k2 g_s b_s n_s c_s : Nat) (ml : Int32) (f_s : Nat → Int32) (h1 : w[k1]? = some (g_s, .inr (1, [.ref b_s, .int 0, .int ml, .int (nI c_s)]))) (h2 : w[k2]? = some (bA κ b_s n_s f_s)) (hcn : c_s ≤ n_s) (hnb : n_s ≤ 1000) (hft : sb_Fit f_s) : CM κ l yJ0_init_81219 cJ0_init_81219 2 (none) 4 130 1 1000 [.ref s_0, .ref g_s] ((s_0, .inr (0, [.null, .int 0, .int 0, .int 0])) :: w) (fun o w' => o = none ∧ w' = w) := by
  refine CM_begin (plainFor_of_name (by decide)) (Nat.le_of_ble_eq_true rfl) ?_
  intro p e s m args below meth c A Q hX hnm hA3 hQ hB ls hl
  have hx := hX.1.1
  have hb := hX.1.2.1
  have hl : lv_has ls 2 [(0, .ref s_0), (1, .ref g_s)] := hl
  refine lv_aload_n hx hb dJ0_init_81219_0 rfl (lv_at hl 0 rfl) ?_
  refine lv_aload_n hx hb dJ0_init_81219_1 rfl (lv_at hl 1 rfl) ?_
  refine lv_null hx hb dJ0_init_81219_2 ?_
  refine call_I (n := 2) (As := [.ref g_s, .null]) (rest := []) hX hB (k_J0_init_db425 κ l (w) s_0 k1 k2 g_s b_s n_s c_s ml f_s h1 h2 (by omega) (by omega) hft) ⟨by decide, by decide, by decide +kernel⟩ rfl wm_4_155 wm_4_156 wm_1_19 wm_4_157 ⟨Nat.le_of_ble_eq_true rfl, Nat.le_of_ble_eq_true rfl⟩ ⟨Nat.le_of_ble_eq_true rfl, Nat.le_of_ble_eq_true rfl⟩ rfl hl.1 rfl (Nat.le_of_ble_eq_true rfl) dJ0_init_81219_3 (fun o w' H locs hp hB => ?_)
  obtain ⟨rfl, hw9⟩ := hp
  replace hB : Bd κ A s (w) H locs := by rw [hw9] at hB; exact hB
  refine W.eq (g2 := F0 m 6 ls []) rfl ?_
  rw [← hQ]
  exact end_v hX hB hA3 rfl ⟨rfl, rfl⟩ (Nat.le_of_ble_eq_true rfl) (Nat.le_of_ble_eq_true rfl) dJ0_init_81219_6
set_option maxHeartbeats 4000000 in
set_option maxRecDepth 100000 in
theorem k_J4_toString_0e30d (κ : Kt) (l : Launch) (w : va_W) (s_0 b_s n_s c_s : Nat) (ml : Int32) (f_s : Nat → Int32) (hcn : c_s ≤ n_s) (hnb : n_s ≤ 1000) (hft : sb_Fit f_s) : CM κ l yJ4_toString_0e30d cJ4_toString_0e30d 1 (some (.object "java/lang/String")) 5 151 2 1004 [.ref s_0] (bA κ b_s n_s f_s :: (s_0, .inr (1, [.ref b_s, .int 0, .int ml, .int (nI c_s)])) :: w) (fun o w' => ∃ (q1 : Nat), o = some (.ref q1) ∧ w' = bA κ b_s n_s f_s :: (s_0, .inr (1, [.ref b_s, .int 0, .int ml, .int (nI c_s)])) :: w) := by
  refine CM_begin (plainFor_of_name (by decide)) (Nat.le_of_ble_eq_true rfl) ?_
  intro p e s m args below meth c A Q hX hnm hA3 hQ hB ls hl
  have hx := hX.1.1
  have hb := hX.1.2.1
  have hl : lv_has ls 1 [(0, .ref s_0)] := hl
  refine newO (fs := [.null, .int 0, .int 0, .int 0]) hX hB (ci := 0) rfl inJ0 tyJ0_ok wm_4_150 wm_4_151 wm_1_19 df0 (Nat.le_of_ble_eq_true rfl) (Nat.le_of_ble_eq_true rfl) dJ4_toString_0e30d_0 (fun q1 H hB => ?_)
  refine lv_dup hx hb dJ4_toString_0e30d_3 rfl ?_
  refine lv_aload_n hx hb dJ4_toString_0e30d_4 rfl (lv_at hl 0 rfl) ?_
  refine call_I (n := 1) (As := [.ref s_0]) (rest := [.ref q1]) hX hB (k_J0_init_81219 κ l (bA κ b_s n_s f_s :: (s_0, .inr (1, [.ref b_s, .int 0, .int ml, .int (nI c_s)])) :: w) q1 1 0 s_0 b_s n_s c_s ml f_s rfl rfl (by omega) (by omega) hft) ⟨by decide, by decide, by decide +kernel⟩ rfl wm_4_152 wm_4_153 wm_1_19 wm_4_154 ⟨Nat.le_of_ble_eq_true rfl, Nat.le_of_ble_eq_true rfl⟩ ⟨Nat.le_of_ble_eq_true rfl, Nat.le_of_ble_eq_true rfl⟩ rfl hl.1 rfl (Nat.le_of_ble_eq_true rfl) dJ4_toString_0e30d_5 (fun o w' H locs hp hB => ?_)
  obtain ⟨rfl, hw9⟩ := hp
  replace hB : Bd κ A s (bA κ b_s n_s f_s :: (s_0, .inr (1, [.ref b_s, .int 0, .int ml, .int (nI c_s)])) :: w) H locs := by rw [hw9] at hB; exact hB
  refine W.eq (g2 := F0 m 8 ls [.ref q1]) rfl ?_
  rw [← hQ]
  exact end_a hX hB hA3 rfl (Or.inr ⟨_, rfl⟩) ⟨q1, rfl, rfl⟩ (Nat.le_of_ble_eq_true rfl) (Nat.le_of_ble_eq_true rfl) dJ4_toString_0e30d_8
set_option maxHeartbeats 4000000 in
set_option maxRecDepth 100000 in
theorem k_J5_init_d00df (κ : Kt) (l : Launch) (w : va_W) (s_0 : Nat) (xn0 : Int32) (n0 : Nat) (hxn0 : xn0 = nI n0) (hn0 : n0 ≤ 1000) : CM κ l yJ5_init_d00df cJ5_init_d00df 2 (none) 1 20 1 1000 [.ref s_0, .int xn0] ((s_0, .inr (1, [.null, .int 0, .int 0, .int 0])) :: w) (fun o w' => ∃ (b_n : Nat), o = none ∧ w' = bA κ b_n n0 (fun _ => 0) :: (s_0, .inr (1, [.ref b_n, .int 0, .int 0, .int 0])) :: w) := by
  subst hxn0
  refine CM_begin (plainFor_of_name (by decide)) (Nat.le_of_ble_eq_true rfl) ?_
  intro p e s m args below meth c A Q hX hnm hA3 hQ hB ls hl
  have hx := hX.1.1
  have hb := hX.1.2.1
  have hl : lv_has ls 2 [(0, .ref s_0), (1, .int (nI n0))] := hl
  refine lv_aload_n hx hb dJ5_init_d00df_0 rfl (lv_at hl 0 rfl) ?_
  refine W.objInit hx hb hX.1.2.2.2.1 (hX.1.2.2.2.2 _ wm_3_238) (hX.1.2.2.2.2 _ wm_1_36) (hX.1.2.2.2.2 _ wm_1_37) rfl (by rw [hX.1.2.2.1]; exact hl.1) rfl dJ5_init_d00df_1 (Nat.le_of_ble_eq_true rfl) (Nat.le_of_ble_eq_true rfl) ?_
  refine W.eq (g2 := F0 m 4 ls []) rfl ?_
  refine gsv hX hB hX.2.1.2.2.1.1.2.2.1 wm_3_239 dJ5_init_d00df_4 ?_
  refine lv_if_eq (tgt := 25) hx hb dJ5_init_d00df_7 (by decide) (fun c1 => False.elim (by revert c1; decide)) (fun _ => ?_)
  refine lv_aload_n hx hb dJ5_init_d00df_10 rfl (lv_at hl 0 rfl) ?_
  refine lv_iload_n hx hb dJ5_init_d00df_11 rfl (lv_at hl 1 rfl) ?_
  refine newA (t0 := 3) (ty := .byte) (N := n0) (mx := 1000) (a0 := (n0, .inl (fun _ => 0))) hX hB rfl rfl (fun h => h) wm_2_236 (fun _ => rfl) (nI_pos (n := n0) (by omega)) (nI_clamp (n := n0) (by omega)) (by omega) (Nat.le_of_ble_eq_true rfl) (Nat.le_of_ble_eq_true rfl) (Nat.le_of_ble_eq_true rfl) dJ5_init_d00df_12 (fun q2 H hB => ?_)
  refine pfU (ty := .array .byte) (k0 := 1) hX hB rfl rfl inJ4 tyJ4_ok nmJ4 0 (by decide) wm_4_8 rfl rfl rfl rfl rfl (Nat.le_of_ble_eq_true rfl) (w1 := bA κ q2 n0 (fun _ => 0) :: (s_0, .inr (1, [.ref q2, .int 0, .int 0, .int 0])) :: w) rfl dJ5_init_d00df_14 (fun H locs hB => ?_)
  refine lv_aload_n hx hb dJ5_init_d00df_17 rfl (lv_at hl 0 rfl) ?_
  refine lv_iconst (v := 0) hx hb dJ5_init_d00df_18 (by decide) ?_
  refine pfU (ty := .byte) (k0 := 1) hX hB rfl rfl inJ4 tyJ4_ok nmJ4 1 (by decide) wm_4_9 rfl rfl rfl rfl rfl (Nat.le_of_ble_eq_true rfl) (w1 := bA κ q2 n0 (fun _ => 0) :: (s_0, .inr (1, [.ref q2, .int 0, .int 0, .int 0])) :: w) rfl dJ5_init_d00df_19 (fun H locs hB => ?_)
  refine lv_goto (tgt := 38) hx hb dJ5_init_d00df_22 (by decide) ?_
  rw [← hQ]
  exact end_v hX hB hA3 rfl ⟨q2, rfl, rfl⟩ (Nat.le_of_ble_eq_true rfl) (Nat.le_of_ble_eq_true rfl) dJ5_init_d00df_38
set_option maxHeartbeats 4000000 in
set_option maxRecDepth 100000 in
theorem k_J4_init_da8c8 (κ : Kt) (l : Launch) (w : va_W) (s_0 : Nat)  : CM κ l yJ4_init_da8c8 cJ4_init_da8c8 1 (none) 2 41 1 1000 [.ref s_0] ((s_0, .inr (1, [.null, .int 0, .int 0, .int 0])) :: w) (fun o w' => ∃ (b_n : Nat), o = none ∧ w' = bA κ b_n 16 (fun _ => 0) :: (s_0, .inr (1, [.ref b_n, .int 0, .int 0, .int 0])) :: w) := by
  refine CM_begin (plainFor_of_name (by decide)) (Nat.le_of_ble_eq_true rfl) ?_
  intro p e s m args below meth c A Q hX hnm hA3 hQ hB ls hl
  have hx := hX.1.1
  have hb := hX.1.2.1
  have hl : lv_has ls 1 [(0, .ref s_0)] := hl
  refine lv_aload_n hx hb dJ4_init_da8c8_0 rfl (lv_at hl 0 rfl) ?_
  refine lv_bipush (v := 16) hx hb dJ4_init_da8c8_1 (by decide) ?_
  refine call_I (n := 1) (As := [.int 16]) (rest := []) hX hB (k_J5_init_d00df κ l (w) s_0 16 16 rfl (by omega)) ⟨by decide, by decide, by decide +kernel⟩ rfl wm_3_235 wm_3_236 wm_1_17 wm_3_237 ⟨Nat.le_of_ble_eq_true rfl, Nat.le_of_ble_eq_true rfl⟩ ⟨Nat.le_of_ble_eq_true rfl, Nat.le_of_ble_eq_true rfl⟩ rfl hl.1 rfl (Nat.le_of_ble_eq_true rfl) dJ4_init_da8c8_3 (fun o w' H locs hp hB => ?_)
  obtain ⟨b1, rfl, hw9⟩ := hp
  replace hB : Bd κ A s (bA κ b1 16 (fun _ => 0) :: (s_0, .inr (1, [.ref b1, .int 0, .int 0, .int 0])) :: w) H locs := by rw [hw9] at hB; exact hB
  refine W.eq (g2 := F0 m 6 ls []) rfl ?_
  rw [← hQ]
  exact end_v hX hB hA3 rfl ⟨b1, rfl, rfl⟩ (Nat.le_of_ble_eq_true rfl) (Nat.le_of_ble_eq_true rfl) dJ4_init_da8c8_6
