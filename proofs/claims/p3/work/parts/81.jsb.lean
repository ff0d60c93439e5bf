abbrev bA (κ : Kt) (b n : Nat) (f : Nat → Int32) : Nat × va_E := (b, .inl (κ.2.1 3, n, .inl f))
theorem shl0 (x : Int32) : x <<< ((0 : Int32) &&& 31) = x := by
  have e : ((0 : Int32) &&& 31) = 0 := by decide
  rw [e, Int32.shiftLeft_zero]
theorem shr0z (x : Int32) : x >>> ((0 : Int32) &&& 31) = x := by
  have e : ((0 : Int32) &&& 31) = 0 := by decide
  rw [e, Int32.shiftRight_zero]
theorem nmax {a b : Nat} (ha : a < 2 ^ 31) (hb : b < 2 ^ 31) : (if nI a < nI b then nI b else nI a) = nI (max a b) := by
  by_cases h : a < b
  · rw [if_pos ((nI_ltI ha hb).mpr h), Nat.max_eq_right (by omega)]
  · rw [if_neg (fun z => h ((nI_ltI ha hb).mp z)), Nat.max_eq_left (by omega)]
theorem subleP {a b : Nat} (ha : a < 2 ^ 31) (hb : b < 2 ^ 31) : (nI a - nI b ≤ 0) = (a ≤ b) := by
  apply propext
  rw [i32_le, Int32.toInt_sub, nI_toInt ha, nI_toInt hb, Int.bmod_eq_of_le (by omega) (by omega), show (0 : Int32).toInt = 0 from rfl]
  omega
theorem nI_dec {a : Nat} (h : 1 ≤ a) : nI a + Int32.ofInt (-1) = nI (a - 1) := by
  have e := nI_sub (a := a) (b := 1) h
  rw [← e, show nI 1 = 1 from rfl, Int32.sub_eq_add_neg]
  rfl
theorem df1 : ∀ j, j < 4 → defaultValue (tyJ4 j) = vp_V [.null, .int 0, .int 0, .int 0] j := by
  intro j hj
  match j, hj with
  | 0, _ => rfl
  | 1, _ => rfl
  | 2, _ => rfl
  | 3, _ => rfl
theorem df0 : ∀ j, j < 4 → defaultValue (tyJ0 j) = vp_V [.null, .int 0, .int 0, .int 0] j := by
  intro j hj
  match j, hj with
  | 0, _ => rfl
  | 1, _ => rfl
  | 2, _ => rfl
  | 3, _ => rfl
theorem end_aA {p : Program} {l : Launch} {e : Env} {R : Room} {s : State} {m : MethodId} {args : Array Value} {below : List Frame} {meth : Method} {c : Code} {H : Heap} {locs : List Loc} {cells slots : Nat} {κ : Kt} {cc : ByteArray} {nL : Nat} {own : String} {ret : Option FieldType} {A : Nat → Prop} {w : va_W} {pc : Nat} {ls : Array Slot} {w0 : va_W} {post : Option Value → va_W → Prop} {mc ms : Nat} {v : Value} {ty : FieldType} (hX : Cx κ p m c cc nL s args own meth ret A) (hB : Bd κ A s w H locs) (hA3 : ∀ q, A q → Fw w0 q ∨ s.heap.size ≤ q) (hr : ret = some (.array ty)) (hv : v = .null ∨ ∃ a, v = .ref a) (hp : post (some v) w) (hc : cells ≤ mc) (hs : slots ≤ ms) (hdg : decode cc pc = .ok (.areturn, 1)) :
    W p l e R s m args below meth c H locs cells slots (Zm κ below w0 post args s mc ms) (F0 m pc ls [v]) := by
  refine W.widen hc hs (W.aret hX.1.1 hX.1.2.1 (hX.2.2.2.2.1.trans hr) (Or.inr ⟨_, rfl⟩) hv (fun t ht hW => ⟨⟨_, w, rfl, hp, by rw [ht]; exact hB.1, hB.2.1.weaken (fun _ q _ h => hA3 q.1 h)⟩, ?_⟩) (fun q hq => hA3 _ (hB.2.2.2.2 q hq)) hdg (hlocks := hX.2.2.2.2.2))
  exact ⟨by rw [ht]; exact hB.2.2.1, fun q h1 h2 => by rw [ht]; exact hB.2.2.2.1 q h1 (fun h => h2 (hA3 q h))⟩

set_option maxHeartbeats 4000000 in
set_option maxRecDepth 100000 in
theorem k_J8_newLength_cabcc (κ : Kt) (l : Launch) (w : va_W) (xx : Int32) (x : Nat) (xy : Int32) (y : Nat) (xz : Int32) (z : Nat) (hxx : xx = nI x) (hxy : xy = nI y) (hxz : xz = nI z) (hbd : x ≤ 1000 ∧ y ≤ 1000 ∧ z ≤ 2000 ∧ 1 ≤ z) : CM κ l yJ8_newLength_cabcc cJ8_newLength_cabcc 4 (some .int) 1 21 0 0 [.int xx, .int xy, .int xz] (w) (fun o w' => o = some (.int (nI (x + max y z))) ∧ w' = w) := by
  subst hxx
  subst hxy
  subst hxz
  refine CM_begin (plainFor_of_name (by decide)) (Nat.le_of_ble_eq_true rfl) ?_
  intro p e s m args below meth c A Q hX hnm hA3 hQ hB ls hl
  have hx := hX.1.1
  have hb := hX.1.2.1
  have hl : lv_has ls 4 [(0, .int (nI x)), (1, .int (nI y)), (2, .int (nI z))] := hl
  refine lv_iload_n hx hb dJ8_newLength_cabcc_0 rfl (lv_at hl 0 rfl) ?_
  refine lv_iload_n hx hb dJ8_newLength_cabcc_1 rfl (lv_at hl 1 rfl) ?_
  refine lv_iload_n hx hb dJ8_newLength_cabcc_2 rfl (lv_at hl 2 rfl) ?_
  refine va_mmax hx hb (by rw [hX.1.2.2.1]; exact hl.1.symm) hX.1.2.2.2.1 (hX.1.2.2.2.2 _ wm_4_39) (hX.1.2.2.2.2 _ wm_1_220) (hX.1.2.2.2.2 _ wm_1_14) (hX.1.2.2.2.2 _ wm_1_221) (Nat.le_of_ble_eq_true rfl) (Nat.le_of_ble_eq_true rfl) (Nat.le_of_ble_eq_true rfl) (Nat.le_of_ble_eq_true rfl) dJ8_newLength_cabcc_3 ?_
  refine lv_topi (fun t1 et1 => ?_)
  refine eqi (y := nI (max y z)) (et1.trans (nmax (by omega) (by omega))) ?_
  refine lv_iadd hx hb dJ8_newLength_cabcc_6 ?_
  refine eqi (y := nI (x + (max y z))) (nI_add x (max y z)) ?_
  refine lv_istore_n (lv' := [(3, .int (nI (x + (max y z)))), (0, .int (nI x)), (1, .int (nI y)), (2, .int (nI z))]) hx hb dJ8_newLength_cabcc_7 rfl hl (by decide) rfl (fun ls hl => ?_)
  refine lv_iconst (v := 0) hx hb dJ8_newLength_cabcc_8 (by decide) ?_
  refine lv_iload_n hx hb dJ8_newLength_cabcc_9 rfl (lv_at hl 0 rfl) ?_
  refine lv_icmp_ge (tgt := 21) hx hb dJ8_newLength_cabcc_10 (by decide) (fun c2 => ?_) (fun c2 => ?_)
  · replace c2 : nI (x + (max y z)) ≤ nI 0 := c2
    rw [nleP (by omega) (by omega)] at c2
    exact False.elim (by omega)
  · replace c2 : ¬ nI (x + (max y z)) ≤ nI 0 := c2
    rw [nleP (by omega) (by omega)] at c2
    refine lv_iload_n hx hb dJ8_newLength_cabcc_13 rfl (lv_at hl 0 rfl) ?_
    refine lv_ldc (own := RJ8) (v := 2147483639) hx hb hX.1.2.2.2.1 (hX.1.2.2.2.2 _ wm_4_40) dJ8_newLength_cabcc_14 ?_
    refine lv_icmp_gt (tgt := 21) hx hb dJ8_newLength_cabcc_16 (by decide) (fun c3 => ?_) (fun c3 => ?_)
    · replace c3 : nI 2147483639 < nI (x + (max y z)) := c3
      rw [nltP (by omega) (by omega)] at c3
      exact False.elim (by omega)
    · replace c3 : ¬ nI 2147483639 < nI (x + (max y z)) := c3
      rw [nltP (by omega) (by omega)] at c3
      refine lv_iload_n hx hb dJ8_newLength_cabcc_19 rfl (lv_at hl 0 rfl) ?_
      rw [← hQ]
      exact end_i hX hB hA3 rfl rfl ⟨rfl, rfl⟩ (Nat.le_of_ble_eq_true rfl) (Nat.le_of_ble_eq_true rfl) dJ8_newLength_cabcc_20
set_option maxHeartbeats 4000000 in
set_option maxRecDepth 100000 in
theorem k_J5_newCapacity_0f7a4 (κ : Kt) (l : Launch) (w : va_W) (s_0 b_s n_s c_s : Nat) (ml : Int32) (f_s : Nat → Int32) (xm0 : Int32) (m0 : Nat) (hcn : c_s ≤ n_s) (hnb : n_s ≤ 1000) (hft : sb_Fit f_s) (hxm0 : xm0 = nI m0) (hm1 : n_s < m0) (hm2 : m0 ≤ 400) : CM κ l yJ5_newCapacity_0f7a4 cJ5_newCapacity_0f7a4 6 (some .int) 2 44 0 0 [.ref s_0, .int xm0] (bA κ b_s n_s f_s :: (s_0, .inr (1, [.ref b_s, .int 0, .int ml, .int (nI c_s)])) :: w) (fun o w' => o = some (.int (nI (n_s + max (m0 - n_s) (n_s + 2)))) ∧ w' = bA κ b_s n_s f_s :: (s_0, .inr (1, [.ref b_s, .int 0, .int ml, .int (nI c_s)])) :: w) := by
  subst hxm0
  refine CM_begin (plainFor_of_name (by decide)) (Nat.le_of_ble_eq_true rfl) ?_
  intro p e s m args below meth c A Q hX hnm hA3 hQ hB ls hl
  have hx := hX.1.1
  have hb := hX.1.2.1
  have hl : lv_has ls 6 [(0, .ref s_0), (1, .int (nI m0))] := hl
  refine lv_aload_n hx hb dJ5_newCapacity_0f7a4_0 rfl (lv_at hl 0 rfl) ?_
  refine gfU (k0 := 1) hX hB rfl rfl inJ4 0 (by decide) wm_4_8 rfl rfl dJ5_newCapacity_0f7a4_1 ?_
  refine alenB (k0 := 0) (v := nI (n_s)) hX hB rfl rfl dJ5_newCapacity_0f7a4_4 ?_
  refine lv_istore_n (lv' := [(2, .int (nI (n_s))), (0, .ref s_0), (1, .int (nI m0))]) hx hb dJ5_newCapacity_0f7a4_5 rfl hl (by decide) rfl (fun ls hl => ?_)
  refine lv_iload_n hx hb dJ5_newCapacity_0f7a4_6 rfl (lv_at hl 2 rfl) ?_
  refine lv_aload_n hx hb dJ5_newCapacity_0f7a4_7 rfl (lv_at hl 1 rfl) ?_
  refine gfU (k0 := 1) hX hB rfl rfl inJ4 1 (by decide) wm_4_9 rfl rfl dJ5_newCapacity_0f7a4_8 ?_
  refine lv_ishl hx hb dJ5_newCapacity_0f7a4_11 ?_
  refine eqi (y := nI m0) (shl0 _) ?_
  refine lv_istore_n (lv' := [(3, .int (nI m0)), (2, .int (nI (n_s))), (0, .ref s_0), (1, .int (nI m0))]) hx hb dJ5_newCapacity_0f7a4_12 rfl hl (by decide) rfl (fun ls hl => ?_)
  refine lv_iload_n hx hb dJ5_newCapacity_0f7a4_13 rfl (lv_at hl 0 rfl) ?_
  refine lv_iload_n hx hb dJ5_newCapacity_0f7a4_14 rfl (lv_at hl 1 rfl) ?_
  refine lv_isub hx hb dJ5_newCapacity_0f7a4_15 ?_
  refine eqi (y := nI (m0 - n_s)) (nI_sub (a := m0) (b := n_s) (by omega)) ?_
  refine lv_istore (lv' := [(4, .int (nI (m0 - n_s))), (3, .int (nI m0)), (2, .int (nI (n_s))), (0, .ref s_0), (1, .int (nI m0))]) hx hb dJ5_newCapacity_0f7a4_16 hl (by decide) rfl (fun ls hl => ?_)
  refine lv_iload_n hx hb dJ5_newCapacity_0f7a4_18 rfl (lv_at hl 2 rfl) ?_
  refine lv_iload hx hb dJ5_newCapacity_0f7a4_19 (lv_at hl 0 rfl) ?_
  refine lv_iload_n hx hb dJ5_newCapacity_0f7a4_21 rfl (lv_at hl 2 rfl) ?_
  refine lv_iconst (v := 2) hx hb dJ5_newCapacity_0f7a4_22 (by decide) ?_
  refine lv_aload_n hx hb dJ5_newCapacity_0f7a4_23 rfl (lv_at hl 3 rfl) ?_
  refine gfU (k0 := 1) hX hB rfl rfl inJ4 1 (by decide) wm_4_9 rfl rfl dJ5_newCapacity_0f7a4_24 ?_
  refine lv_ishl hx hb dJ5_newCapacity_0f7a4_27 ?_
  refine eqi (y := 2) (shl0 _) ?_
  refine lv_iadd hx hb dJ5_newCapacity_0f7a4_28 ?_
  refine eqi (y := nI (n_s + 2)) (nI_add n_s 2) ?_
  refine call_S (n := 3) (As := [.int (nI (n_s)), .int (nI (m0 - n_s)), .int (nI (n_s + 2))]) (rest := []) hX hB (k_J8_newLength_cabcc κ l (bA κ b_s n_s f_s :: (s_0, .inr (1, [.ref b_s, .int 0, .int ml, .int (nI c_s)])) :: w) (nI (n_s)) n_s (nI (m0 - n_s)) (m0 - n_s) (nI (n_s + 2)) (n_s + 2) rfl rfl rfl (by omega)) ⟨by decide, by decide, by decide +kernel⟩ wm_4_36 wm_4_37 wm_1_21 wm_4_38 ⟨Nat.le_of_ble_eq_true rfl, Nat.le_of_ble_eq_true rfl⟩ ⟨Nat.le_of_ble_eq_true rfl, Nat.le_of_ble_eq_true rfl⟩ rfl hl.1 rfl (Nat.le_of_ble_eq_true rfl) dJ5_newCapacity_0f7a4_29 (fun o w' H locs hp hB => ?_)
  obtain ⟨rfl, hw9⟩ := hp
  replace hB : Bd κ A s (bA κ b_s n_s f_s :: (s_0, .inr (1, [.ref b_s, .int 0, .int ml, .int (nI c_s)])) :: w) H locs := by rw [hw9] at hB; exact hB
  refine W.eq (g2 := F0 m 32 ls [.int (nI (n_s + max (m0 - n_s) (n_s + 2)))]) rfl ?_
  refine lv_istore (lv' := [(5, .int (nI (n_s + max (m0 - n_s) (n_s + 2)))), (4, .int (nI (m0 - n_s))), (3, .int (nI m0)), (2, .int (nI (n_s))), (0, .ref s_0), (1, .int (nI m0))]) hx hb dJ5_newCapacity_0f7a4_32 hl (by decide) rfl (fun ls hl => ?_)
  refine lv_iload hx hb dJ5_newCapacity_0f7a4_34 (lv_at hl 0 rfl) ?_
  refine lv_ldc (own := RJ5) (v := 2147483647) hx hb hX.1.2.2.2.1 (hX.1.2.2.2.2 _ wm_4_44) dJ5_newCapacity_0f7a4_36 ?_
  refine lv_icmp_ne (tgt := 51) hx hb dJ5_newCapacity_0f7a4_38 (by decide) (fun c1 => ?_) (fun c1 => ?_)
  · replace c1 : ¬ nI (n_s + max (m0 - n_s) (n_s + 2)) = nI 2147483647 := c1
    rw [neqP (by omega) (by omega)] at c1
    refine lv_iload hx hb dJ5_newCapacity_0f7a4_51 (lv_at hl 0 rfl) ?_
    refine lv_aload_n hx hb dJ5_newCapacity_0f7a4_53 rfl (lv_at hl 4 rfl) ?_
    refine gfU (k0 := 1) hX hB rfl rfl inJ4 1 (by decide) wm_4_9 rfl rfl dJ5_newCapacity_0f7a4_54 ?_
    refine lv_ishr hx hb dJ5_newCapacity_0f7a4_57 ?_
    refine eqi (y := nI (n_s + max (m0 - n_s) (n_s + 2))) (shr0z _) ?_
    rw [← hQ]
    exact end_i hX hB hA3 rfl rfl ⟨rfl, rfl⟩ (Nat.le_of_ble_eq_true rfl) (Nat.le_of_ble_eq_true rfl) dJ5_newCapacity_0f7a4_58
  · replace c1 : nI (n_s + max (m0 - n_s) (n_s + 2)) = nI 2147483647 := c1
    rw [neqP (by omega) (by omega)] at c1
    exact False.elim (by omega)
set_option maxHeartbeats 4000000 in
set_option maxRecDepth 100000 in
theorem k_J7_copyOf_9075b (κ : Kt) (l : Launch) (w : va_W) (k_b b_b n_b : Nat) (f_b : Nat → Int32) (xm0 : Int32) (m0 : Nat) (h_b : w[k_b]? = some (bA κ b_b n_b f_b)) (hnb : n_b ≤ 1000) (hft : sb_Fit f_b) (hxm0 : xm0 = nI m0) (hne : m0 ≠ n_b) (hm2 : m0 ≤ 820) : CM κ l yJ7_copyOf_9075b cJ7_copyOf_9075b 3 (some (.array .byte)) 1 60 1 820 [.ref b_b, .int xm0] (w) (fun o w' => ∃ (q1 : Nat) (F : Nat → Int32), o = some (.ref q1) ∧ (sb_Fit F) ∧ w' = bA κ q1 m0 F :: w) := by
  subst hxm0
  refine CM_begin (plainFor_of_name (by decide)) (Nat.le_of_ble_eq_true rfl) ?_
  intro p e s m args below meth c A Q hX hnm hA3 hQ hB ls hl
  have hx := hX.1.1
  have hb := hX.1.2.1
  have hl : lv_has ls 3 [(0, .ref b_b), (1, .int (nI m0))] := hl
  refine lv_iload_n hx hb dJ7_copyOf_9075b_0 rfl (lv_at hl 1 rfl) ?_
  refine lv_aload_n hx hb dJ7_copyOf_9075b_1 rfl (lv_at hl 0 rfl) ?_
  refine alenB (k0 := k_b) (v := nI (n_b)) hX hB h_b rfl dJ7_copyOf_9075b_2 ?_
  refine lv_icmp_ne (tgt := 14) hx hb dJ7_copyOf_9075b_3 (by decide) (fun c1 => ?_) (fun c1 => ?_)
  · rw [neqP (a := m0) (b := n_b) (by omega) (by omega)] at c1
    refine lv_iload_n hx hb dJ7_copyOf_9075b_14 rfl (lv_at hl 1 rfl) ?_
    refine newA (t0 := 3) (ty := .byte) (N := m0) (mx := 820) (a0 := (m0, .inl (fun _ => 0))) hX hB rfl rfl (fun h => h) wm_2_236 (fun _ => rfl) (nI_pos (n := m0) (by omega)) (nI_clamp (n := m0) (by omega)) (by omega) (Nat.le_of_ble_eq_true rfl) (Nat.le_of_ble_eq_true rfl) (Nat.le_of_ble_eq_true rfl) dJ7_copyOf_9075b_15 (fun q2 H hB => ?_)
    refine lv_astore_n (lv' := [(2, .ref q2), (0, .ref b_b), (1, .int (nI m0))]) hx hb dJ7_copyOf_9075b_17 rfl hl (by decide) rfl (fun ls hl => ?_)
    refine lv_aload_n hx hb dJ7_copyOf_9075b_18 rfl (lv_at hl 1 rfl) ?_
    refine lv_iconst (v := 0) hx hb dJ7_copyOf_9075b_19 (by decide) ?_
    refine lv_aload_n hx hb dJ7_copyOf_9075b_20 rfl (lv_at hl 0 rfl) ?_
    refine lv_iconst (v := 0) hx hb dJ7_copyOf_9075b_21 (by decide) ?_
    refine lv_aload_n hx hb dJ7_copyOf_9075b_22 rfl (lv_at hl 1 rfl) ?_
    refine alenB (k0 := k_b + 1) (v := nI (n_b)) hX hB h_b rfl dJ7_copyOf_9075b_23 ?_
    refine lv_iload_n hx hb dJ7_copyOf_9075b_24 rfl (lv_at hl 2 rfl) ?_
    refine va_mmin hx hb (by rw [hX.1.2.2.1]; exact hl.1.symm) hX.1.2.2.2.1 (hX.1.2.2.2.2 _ wm_4_55) (hX.1.2.2.2.2 _ wm_1_217) (hX.1.2.2.2.2 _ wm_1_14) (hX.1.2.2.2.2 _ wm_1_218) (Nat.le_of_ble_eq_true rfl) (Nat.le_of_ble_eq_true rfl) (Nat.le_of_ble_eq_true rfl) (Nat.le_of_ble_eq_true rfl) dJ7_copyOf_9075b_25 ?_
    refine lv_topi (fun t3 et3 => ?_)
    refine eqi (y := nI (min n_b m0)) (et3.trans (nmin (by omega) (by omega))) ?_
    refine copyB (k0 := k_b + 1) (k1 := 0) (sp := 0) (dp := 0) (n := min n_b m0) hX hB hl.1 wm_4_56 wn_4_58 wm_4_57 wm_1_23 h_b rfl (by omega) (by omega) (by omega) (by omega) hft (Nat.le_of_ble_eq_true rfl) (Nat.le_of_ble_eq_true rfl) (w1 := bA κ q2 m0 (va_cpy f_b (fun _ => 0) 0 0 (min n_b m0)) :: w) rfl dJ7_copyOf_9075b_28 (fun H locs hB => ?_)
    refine lv_aload_n hx hb dJ7_copyOf_9075b_31 rfl (lv_at hl 0 rfl) ?_
    rw [← hQ]
    exact end_aA hX hB hA3 rfl (Or.inr ⟨_, rfl⟩) ⟨q2, (va_cpy f_b (fun _ => 0) 0 0 (min n_b m0)), rfl, (sb_fitC hft sb_fit0), rfl⟩ (Nat.le_of_ble_eq_true rfl) (Nat.le_of_ble_eq_true rfl) dJ7_copyOf_9075b_32
  · rw [neqP (a := m0) (b := n_b) (by omega) (by omega)] at c1
    exact False.elim (by omega)
set_option maxHeartbeats 4000000 in
set_option maxRecDepth 100000 in
theorem k_J5_ensureCapacityInternal_d00df (κ : Kt) (l : Launch) (w : va_W) (s_0 b_s n_s c_s : Nat) (ml : Int32) (f_s : Nat → Int32) (xm0 : Int32) (m0 : Nat) (hcn : c_s ≤ n_s) (hnb : n_s ≤ 1000) (hft : sb_Fit f_s) (hxm0 : xm0 = nI m0) (hm2 : m0 ≤ 400) : CM κ l yJ5_ensureCapacityInternal_d00df cJ5_ensureCapacityInternal_d00df 3 (none) 3 82 1 820 [.ref s_0, .int xm0] (bA κ b_s n_s f_s :: (s_0, .inr (1, [.ref b_s, .int 0, .int ml, .int (nI c_s)])) :: w) (fun o w' => ∃ (q1 : Nat) (n1 : Nat) (F : Nat → Int32), o = none ∧ (m0 ≤ n1 ∧ n_s ≤ n1 ∧ n1 ≤ 1000 ∧ (n1 = n_s ∨ n1 ≤ 2 * m0)) ∧ (sb_Fit F) ∧ w' = bA κ q1 n1 F :: (s_0, .inr (1, [.ref q1, .int 0, .int ml, .int (nI c_s)])) :: w) := by
  subst hxm0
  refine CM_begin (plainFor_of_name (by decide)) (Nat.le_of_ble_eq_true rfl) ?_
  intro p e s m args below meth c A Q hX hnm hA3 hQ hB ls hl
  have hx := hX.1.1
  have hb := hX.1.2.1
  have hl : lv_has ls 3 [(0, .ref s_0), (1, .int (nI m0))] := hl
  refine lv_aload_n hx hb dJ5_ensureCapacityInternal_d00df_0 rfl (lv_at hl 0 rfl) ?_
  refine gfU (k0 := 1) hX hB rfl rfl inJ4 0 (by decide) wm_4_8 rfl rfl dJ5_ensureCapacityInternal_d00df_1 ?_
  refine alenB (k0 := 0) (v := nI (n_s)) hX hB rfl rfl dJ5_ensureCapacityInternal_d00df_4 ?_
  refine lv_aload_n hx hb dJ5_ensureCapacityInternal_d00df_5 rfl (lv_at hl 0 rfl) ?_
  refine gfU (k0 := 1) hX hB rfl rfl inJ4 1 (by decide) wm_4_9 rfl rfl dJ5_ensureCapacityInternal_d00df_6 ?_
  refine lv_ishr hx hb dJ5_ensureCapacityInternal_d00df_9 ?_
  refine eqi (y := nI (n_s)) (shr0z _) ?_
  refine lv_istore_n (lv' := [(2, .int (nI (n_s))), (0, .ref s_0), (1, .int (nI m0))]) hx hb dJ5_ensureCapacityInternal_d00df_10 rfl hl (by decide) rfl (fun ls hl => ?_)
  refine lv_iload_n hx hb dJ5_ensureCapacityInternal_d00df_11 rfl (lv_at hl 2 rfl) ?_
  refine lv_iload_n hx hb dJ5_ensureCapacityInternal_d00df_12 rfl (lv_at hl 0 rfl) ?_
  refine lv_isub hx hb dJ5_ensureCapacityInternal_d00df_13 ?_
  refine lv_if_le (tgt := 38) hx hb dJ5_ensureCapacityInternal_d00df_14 (by decide) (fun c1 => ?_) (fun c1 => ?_)
  · rw [subleP (by omega) (by omega)] at c1
    rw [← hQ]
    exact end_v hX hB hA3 rfl ⟨b_s, n_s, f_s, rfl, (by omega), hft, rfl⟩ (Nat.le_of_ble_eq_true rfl) (Nat.le_of_ble_eq_true rfl) dJ5_ensureCapacityInternal_d00df_38
  · rw [subleP (by omega) (by omega)] at c1
    refine lv_aload_n hx hb dJ5_ensureCapacityInternal_d00df_17 rfl (lv_at hl 1 rfl) ?_
    refine lv_aload_n hx hb dJ5_ensureCapacityInternal_d00df_18 rfl (lv_at hl 1 rfl) ?_
    refine gfU (k0 := 1) hX hB rfl rfl inJ4 0 (by decide) wm_4_8 rfl rfl dJ5_ensureCapacityInternal_d00df_19 ?_
    refine lv_aload_n hx hb dJ5_ensureCapacityInternal_d00df_22 rfl (lv_at hl 1 rfl) ?_
    refine lv_iload_n hx hb dJ5_ensureCapacityInternal_d00df_23 rfl (lv_at hl 2 rfl) ?_
    refine call_U (n := 1) (k0 := 1) (As := [.int (nI m0)]) (rest := [.ref b_s, .ref s_0]) hX hB (k_J5_newCapacity_0f7a4 κ l (w) s_0 b_s n_s c_s ml f_s (nI m0) m0 (by omega) (by omega) hft rfl (by omega) (by omega)) ⟨by decide, by decide, by decide +kernel⟩ wm_4_32 wm_7_187 wm_4_34 (Or.inr wn_4_33) wm_1_17 wm_4_35 ⟨Nat.le_of_ble_eq_true rfl, Nat.le_of_ble_eq_true rfl⟩ ⟨Nat.le_of_ble_eq_true rfl, Nat.le_of_ble_eq_true rfl⟩ rfl rfl rfl rfl hl.1 rfl (Nat.le_of_ble_eq_true rfl) dJ5_ensureCapacityInternal_d00df_24 (fun o w' H locs hp hB => ?_)
    obtain ⟨rfl, hw9⟩ := hp
    replace hB : Bd κ A s (bA κ b_s n_s f_s :: (s_0, .inr (1, [.ref b_s, .int 0, .int ml, .int (nI c_s)])) :: w) H locs := by rw [hw9] at hB; exact hB
    refine W.eq (g2 := F0 m 27 ls [.int (nI (n_s + max (m0 - n_s) (n_s + 2))), .ref b_s, .ref s_0]) rfl ?_
    refine lv_aload_n hx hb dJ5_ensureCapacityInternal_d00df_27 rfl (lv_at hl 1 rfl) ?_
    refine gfU (k0 := 1) hX hB rfl rfl inJ4 1 (by decide) wm_4_9 rfl rfl dJ5_ensureCapacityInternal_d00df_28 ?_
    refine lv_ishl hx hb dJ5_ensureCapacityInternal_d00df_31 ?_
    refine eqi (y := nI (n_s + max (m0 - n_s) (n_s + 2))) (shl0 _) ?_
    refine call_S (n := 2) (As := [.ref b_s, .int (nI (n_s + max (m0 - n_s) (n_s + 2)))]) (rest := [.ref s_0]) hX hB (k_J7_copyOf_9075b κ l (bA κ b_s n_s f_s :: (s_0, .inr (1, [.ref b_s, .int 0, .int ml, .int (nI c_s)])) :: w) 0 b_s n_s f_s (nI (n_s + max (m0 - n_s) (n_s + 2))) (n_s + max (m0 - n_s) (n_s + 2)) rfl (by omega) hft rfl (by omega) (by omega)) ⟨by decide, by decide, by decide +kernel⟩ wm_4_45 wm_4_46 wm_1_22 wm_4_47 ⟨Nat.le_of_ble_eq_true rfl, Nat.le_of_ble_eq_true rfl⟩ ⟨Nat.le_of_ble_eq_true rfl, Nat.le_of_ble_eq_true rfl⟩ rfl hl.1 rfl (Nat.le_of_ble_eq_true rfl) dJ5_ensureCapacityInternal_d00df_32 (fun o w' H locs hp hB => ?_)
    obtain ⟨q2, F3, rfl, hf4, hw9⟩ := hp
    replace hB : Bd κ A s (bA κ q2 (n_s + max (m0 - n_s) (n_s + 2)) F3 :: bA κ b_s n_s f_s :: (s_0, .inr (1, [.ref b_s, .int 0, .int ml, .int (nI c_s)])) :: w) H locs := by rw [hw9] at hB; exact hB
    refine W.eq (g2 := F0 m 35 ls [.ref q2, .ref s_0]) rfl ?_
    refine pfU (ty := .array .byte) (k0 := 2) hX hB rfl rfl inJ4 tyJ4_ok nmJ4 0 (by decide) wm_4_8 rfl rfl rfl rfl rfl (Nat.le_of_ble_eq_true rfl) (w1 := bA κ q2 (n_s + max (m0 - n_s) (n_s + 2)) F3 :: bA κ b_s n_s f_s :: (s_0, .inr (1, [.ref q2, .int 0, .int ml, .int (nI c_s)])) :: w) rfl dJ5_ensureCapacityInternal_d00df_35 (fun H locs hB => ?_)
    replace hB : Bd κ A s (bA κ q2 (n_s + max (m0 - n_s) (n_s + 2)) F3 :: (s_0, .inr (1, [.ref q2, .int 0, .int ml, .int (nI c_s)])) :: w) H locs := Bd_del 1 hB
    rw [← hQ]
    exact end_v hX hB hA3 rfl ⟨q2, (n_s + max (m0 - n_s) (n_s + 2)), F3, rfl, (by omega), hf4, rfl⟩ (Nat.le_of_ble_eq_true rfl) (Nat.le_of_ble_eq_true rfl) dJ5_ensureCapacityInternal_d00df_38
set_option maxHeartbeats 4000000 in
set_option maxRecDepth 100000 in
theorem k_J5_isLatin1_aae02 (κ : Kt) (l : Launch) (w : va_W) (k_s s_0 b_s c_s : Nat) (ml : Int32) (h_s : w[k_s]? = some (s_0, .inr (1, [.ref b_s, .int 0, .int ml, .int (nI c_s)]))) : CM κ l yJ5_isLatin1_aae02 cJ5_isLatin1_aae02 1 (some .boolean) 0 0 0 0 [.ref s_0] (w) (fun o w' => o = some (.int 1) ∧ w' = w) := by
  refine CM_begin (plainFor_of_name (by decide)) (Nat.le_of_ble_eq_true rfl) ?_
  intro p e s m args below meth c A Q hX hnm hA3 hQ hB ls hl
  have hx := hX.1.1
  have hb := hX.1.2.1
  have hl : lv_has ls 1 [(0, .ref s_0)] := hl
  refine gsv hX hB hX.2.1.2.2.1.1.2.2.1 wm_3_239 dJ5_isLatin1_aae02_0 ?_
  refine lv_if_eq (tgt := 17) hx hb dJ5_isLatin1_aae02_3 (by decide) (fun c1 => False.elim (by revert c1; decide)) (fun _ => ?_)
  refine lv_aload_n hx hb dJ5_isLatin1_aae02_6 rfl (lv_at hl 0 rfl) ?_
  refine gfU (k0 := k_s) hX hB h_s rfl inJ4 1 (by decide) wm_4_9 rfl rfl dJ5_isLatin1_aae02_7 ?_
  refine lv_if_ne (tgt := 17) hx hb dJ5_isLatin1_aae02_10 (by decide) (fun c2 => False.elim (by revert c2; decide)) (fun _ => ?_)
  refine lv_iconst (v := 1) hx hb dJ5_isLatin1_aae02_13 (by decide) ?_
  refine lv_goto (tgt := 18) hx hb dJ5_isLatin1_aae02_14 (by decide) ?_
  rw [← hQ]
  exact end_i hX hB hA3 rfl rfl ⟨rfl, rfl⟩ (Nat.le_of_ble_eq_true rfl) (Nat.le_of_ble_eq_true rfl) dJ5_isLatin1_aae02_18
set_option maxHeartbeats 4000000 in
set_option maxRecDepth 100000 in
theorem k_J5_length_8abf5 (κ : Kt) (l : Launch) (w : va_W) (k_s s_0 b_s c_s : Nat) (ml : Int32) (h_s : w[k_s]? = some (s_0, .inr (1, [.ref b_s, .int 0, .int ml, .int (nI c_s)]))) : CM κ l yJ5_length_8abf5 cJ5_length_8abf5 1 (some .int) 0 0 0 0 [.ref s_0] (w) (fun o w' => o = some (.int (nI c_s)) ∧ w' = w) := by
  refine CM_begin (plainFor_of_name (by decide)) (Nat.le_of_ble_eq_true rfl) ?_
  intro p e s m args below meth c A Q hX hnm hA3 hQ hB ls hl
  have hx := hX.1.1
  have hb := hX.1.2.1
  have hl : lv_has ls 1 [(0, .ref s_0)] := hl
  refine lv_aload_n hx hb dJ5_length_8abf5_0 rfl (lv_at hl 0 rfl) ?_
  refine gfU (k0 := k_s) hX hB h_s rfl inJ4 3 (by decide) wm_4_11 rfl rfl dJ5_length_8abf5_1 ?_
  rw [← hQ]
  exact end_i hX hB hA3 rfl rfl ⟨rfl, rfl⟩ (Nat.le_of_ble_eq_true rfl) (Nat.le_of_ble_eq_true rfl) dJ5_length_8abf5_4
set_option maxHeartbeats 4000000 in
set_option maxRecDepth 100000 in
theorem k_J4_length_8abf5 (κ : Kt) (l : Launch) (w : va_W) (k_s s_0 b_s c_s : Nat) (ml : Int32) (h_s : w[k_s]? = some (s_0, .inr (1, [.ref b_s, .int 0, .int ml, .int (nI c_s)]))) : CM κ l yJ4_length_8abf5 cJ4_length_8abf5 1 (some .int) 1 20 0 0 [.ref s_0] (w) (fun o w' => o = some (.int (nI c_s)) ∧ w' = w) := by
  refine CM_begin (plainFor_of_name (by decide)) (Nat.le_of_ble_eq_true rfl) ?_
  intro p e s m args below meth c A Q hX hnm hA3 hQ hB ls hl
  have hx := hX.1.1
  have hb := hX.1.2.1
  have hl : lv_has ls 1 [(0, .ref s_0)] := hl
  refine lv_aload_n hx hb dJ4_length_8abf5_0 rfl (lv_at hl 0 rfl) ?_
  refine call_SU (n := 0) (k0 := k_s) (As := []) (rest := []) hX hB (k_J5_length_8abf5 κ l (w) k_s s_0 b_s c_s ml h_s) ⟨by decide, by decide +kernel⟩ wm_4_170 wm_4_166 wm_4_20 wm_4_165 wm_1_17 wm_4_171 ⟨Nat.le_of_ble_eq_true rfl, Nat.le_of_ble_eq_true rfl⟩ ⟨Nat.le_of_ble_eq_true rfl, Nat.le_of_ble_eq_true rfl⟩ h_s rfl rfl rfl hl.1 rfl (Nat.le_of_ble_eq_true rfl) dJ4_length_8abf5_1 (fun o w' H locs hp hB => ?_)
  obtain ⟨rfl, hw9⟩ := hp
  replace hB : Bd κ A s (w) H locs := by rw [hw9] at hB; exact hB
  refine W.eq (g2 := F0 m 4 ls [.int (nI c_s)]) rfl ?_
  rw [← hQ]
  exact end_i hX hB hA3 rfl rfl ⟨rfl, rfl⟩ (Nat.le_of_ble_eq_true rfl) (Nat.le_of_ble_eq_true rfl) dJ4_length_8abf5_4
set_option maxHeartbeats 4000000 in
set_option maxRecDepth 100000 in
theorem k_J5_getValue_6d5f1 (κ : Kt) (l : Launch) (w : va_W) (k_s s_0 b_s c_s : Nat) (ml : Int32) (h_s : w[k_s]? = some (s_0, .inr (1, [.ref b_s, .int 0, .int ml, .int (nI c_s)]))) : CM κ l yJ5_getValue_6d5f1 cJ5_getValue_6d5f1 1 (some (.array .byte)) 0 0 0 0 [.ref s_0] (w) (fun o w' => o = some (.ref b_s) ∧ w' = w) := by
  refine CM_begin (plainFor_of_name (by decide)) (Nat.le_of_ble_eq_true rfl) ?_
  intro p e s m args below meth c A Q hX hnm hA3 hQ hB ls hl
  have hx := hX.1.1
  have hb := hX.1.2.1
  have hl : lv_has ls 1 [(0, .ref s_0)] := hl
  refine lv_aload_n hx hb dJ5_getValue_6d5f1_0 rfl (lv_at hl 0 rfl) ?_
  refine gfU (k0 := k_s) hX hB h_s rfl inJ4 0 (by decide) wm_4_8 rfl rfl dJ5_getValue_6d5f1_1 ?_
  rw [← hQ]
  exact end_aA hX hB hA3 rfl (Or.inr ⟨_, rfl⟩) ⟨rfl, rfl⟩ (Nat.le_of_ble_eq_true rfl) (Nat.le_of_ble_eq_true rfl) dJ5_getValue_6d5f1_4
set_option maxHeartbeats 4000000 in
set_option maxRecDepth 100000 in
theorem k_J1_canEncode_fc78d (κ : Kt) (l : Launch) (w : va_W) (xx : Int32) (x : Nat) (hxx : xx = nI x) (hx5 : x ≤ 255) : CM κ l yJ1_canEncode_fc78d cJ1_canEncode_fc78d 1 (some .boolean) 0 0 0 0 [.int xx] (w) (fun o w' => o = some (.int 1) ∧ w' = w) := by
  subst hxx
  refine CM_begin (plainFor_of_name (by decide)) (Nat.le_of_ble_eq_true rfl) ?_
  intro p e s m args below meth c A Q hX hnm hA3 hQ hB ls hl
  have hx := hX.1.1
  have hb := hX.1.2.1
  have hl : lv_has ls 1 [(0, .int (nI x))] := hl
  refine lv_iload_n hx hb dJ1_canEncode_fc78d_0 rfl (lv_at hl 0 rfl) ?_
  refine lv_sipush (v := 255) hx hb dJ1_canEncode_fc78d_1 (by decide) ?_
  refine lv_icmp_gt (tgt := 11) hx hb dJ1_canEncode_fc78d_4 (by decide) (fun c1 => ?_) (fun c1 => ?_)
  · replace c1 : nI 255 < nI x := c1
    rw [nltP (by omega) (by omega)] at c1
    exact False.elim (by omega)
  · replace c1 : ¬ nI 255 < nI x := c1
    rw [nltP (by omega) (by omega)] at c1
    refine lv_iconst (v := 1) hx hb dJ1_canEncode_fc78d_7 (by decide) ?_
    refine lv_goto (tgt := 12) hx hb dJ1_canEncode_fc78d_8 (by decide) ?_
    rw [← hQ]
    exact end_i hX hB hA3 rfl rfl ⟨rfl, rfl⟩ (Nat.le_of_ble_eq_true rfl) (Nat.le_of_ble_eq_true rfl) dJ1_canEncode_fc78d_12
set_option maxHeartbeats 4000000 in
set_option maxRecDepth 100000 in
theorem k_J5_append_3fe6f (κ : Kt) (l : Launch) (w : va_W) (s_0 b_s n_s c_s : Nat) (ml : Int32) (f_s : Nat → Int32) (xx : Int32) (x : Nat) (hcn : c_s ≤ n_s) (hnb : n_s ≤ 1000) (hft : sb_Fit f_s) (hxx : xx = nI x) (hc3 : c_s ≤ 300) (hn2 : n_s ≤ 2 * c_s + 16) (hx5 : x ≤ 255) : CM κ l yJ5_append_3fe6f cJ5_append_3fe6f 2 (some (.object "java/lang/AbstractStringBuilder")) 4 104 1 820 [.ref s_0, .int xx] (bA κ b_s n_s f_s :: (s_0, .inr (1, [.ref b_s, .int 0, .int ml, .int (nI c_s)])) :: w) (fun o w' => ∃ (q1 : Nat) (n1 : Nat) (F : Nat → Int32), o = some (.ref s_0) ∧ (c_s + 1 ≤ n1 ∧ n1 ≤ 1000 ∧ n1 ≤ 2 * (c_s + 1) + 16) ∧ (sb_Fit F) ∧ w' = bA κ q1 n1 F :: (s_0, .inr (1, [.ref q1, .int 0, .int ml, .int (nI (c_s + 1))])) :: w) := by
  subst hxx
  refine CM_begin (plainFor_of_name (by decide)) (Nat.le_of_ble_eq_true rfl) ?_
  intro p e s m args below meth c A Q hX hnm hA3 hQ hB ls hl
  have hx := hX.1.1
  have hb := hX.1.2.1
  have hl : lv_has ls 2 [(0, .ref s_0), (1, .int (nI x))] := hl
  refine lv_aload_n hx hb dJ5_append_3fe6f_0 rfl (lv_at hl 0 rfl) ?_
  refine lv_aload_n hx hb dJ5_append_3fe6f_1 rfl (lv_at hl 0 rfl) ?_
  refine gfU (k0 := 1) hX hB rfl rfl inJ4 3 (by decide) wm_4_11 rfl rfl dJ5_append_3fe6f_2 ?_
  refine lv_iconst (v := 1) hx hb dJ5_append_3fe6f_5 (by decide) ?_
  refine lv_iadd hx hb dJ5_append_3fe6f_6 ?_
  refine eqi (y := nI (c_s + 1)) (nI_add c_s 1) ?_
  refine call_U (n := 1) (k0 := 1) (As := [.int (nI (c_s + 1))]) (rest := []) hX hB (k_J5_ensureCapacityInternal_d00df κ l (w) s_0 b_s n_s c_s ml f_s (nI (c_s + 1)) (c_s + 1) (by omega) (by omega) hft rfl (by omega)) ⟨by decide, by decide, by decide +kernel⟩ wm_4_28 wm_7_186 wm_4_30 (Or.inr wn_4_29) wm_1_17 wm_4_31 ⟨Nat.le_of_ble_eq_true rfl, Nat.le_of_ble_eq_true rfl⟩ ⟨Nat.le_of_ble_eq_true rfl, Nat.le_of_ble_eq_true rfl⟩ rfl rfl rfl rfl hl.1 rfl (Nat.le_of_ble_eq_true rfl) dJ5_append_3fe6f_7 (fun o w' H locs hp hB => ?_)
  obtain ⟨q1, n2, F3, rfl, hf4, hf5, hw9⟩ := hp
  replace hB : Bd κ A s (bA κ q1 n2 F3 :: (s_0, .inr (1, [.ref q1, .int 0, .int ml, .int (nI c_s)])) :: w) H locs := by rw [hw9] at hB; exact hB
  refine W.eq (g2 := F0 m 10 ls []) rfl ?_
  refine lv_aload_n hx hb dJ5_append_3fe6f_10 rfl (lv_at hl 0 rfl) ?_
  refine call_U (n := 0) (k0 := 1) (As := []) (rest := []) hX hB (k_J5_isLatin1_aae02 κ l (bA κ q1 n2 F3 :: (s_0, .inr (1, [.ref q1, .int 0, .int ml, .int (nI c_s)])) :: w) 1 s_0 q1 c_s ml rfl) ⟨by decide, by decide, by decide +kernel⟩ wm_4_59 wm_4_61 wm_4_60 (Or.inl wm_4_62) wm_1_17 wm_4_63 ⟨Nat.le_of_ble_eq_true rfl, Nat.le_of_ble_eq_true rfl⟩ ⟨Nat.le_of_ble_eq_true rfl, Nat.le_of_ble_eq_true rfl⟩ rfl rfl rfl rfl hl.1 rfl (Nat.le_of_ble_eq_true rfl) dJ5_append_3fe6f_11 (fun o w' H locs hp hB => ?_)
  obtain ⟨rfl, hw9⟩ := hp
  replace hB : Bd κ A s (bA κ q1 n2 F3 :: (s_0, .inr (1, [.ref q1, .int 0, .int ml, .int (nI c_s)])) :: w) H locs := by rw [hw9] at hB; exact hB
  refine W.eq (g2 := F0 m 14 ls [.int 1]) rfl ?_
  refine lv_if_eq (tgt := 45) hx hb dJ5_append_3fe6f_14 (by decide) (fun c6 => False.elim (by revert c6; decide)) (fun _ => ?_)
  refine lv_iload_n hx hb dJ5_append_3fe6f_17 rfl (lv_at hl 1 rfl) ?_
  refine call_S (n := 1) (As := [.int (nI x)]) (rest := []) hX hB (k_J1_canEncode_fc78d κ l (bA κ q1 n2 F3 :: (s_0, .inr (1, [.ref q1, .int 0, .int ml, .int (nI c_s)])) :: w) (nI x) x rfl (by omega)) ⟨by decide, by decide, by decide +kernel⟩ wm_4_64 wm_4_65 wm_1_24 wm_4_66 ⟨Nat.le_of_ble_eq_true rfl, Nat.le_of_ble_eq_true rfl⟩ ⟨Nat.le_of_ble_eq_true rfl, Nat.le_of_ble_eq_true rfl⟩ rfl hl.1 rfl (Nat.le_of_ble_eq_true rfl) dJ5_append_3fe6f_18 (fun o w' H locs hp hB => ?_)
  obtain ⟨rfl, hw9⟩ := hp
  replace hB : Bd κ A s (bA κ q1 n2 F3 :: (s_0, .inr (1, [.ref q1, .int 0, .int ml, .int (nI c_s)])) :: w) H locs := by rw [hw9] at hB; exact hB
  refine W.eq (g2 := F0 m 21 ls [.int 1]) rfl ?_
  refine lv_if_eq (tgt := 45) hx hb dJ5_append_3fe6f_21 (by decide) (fun c7 => False.elim (by revert c7; decide)) (fun _ => ?_)
  refine lv_aload_n hx hb dJ5_append_3fe6f_24 rfl (lv_at hl 0 rfl) ?_
  refine gfU (k0 := 1) hX hB rfl rfl inJ4 0 (by decide) wm_4_8 rfl rfl dJ5_append_3fe6f_25 ?_
  refine lv_aload_n hx hb dJ5_append_3fe6f_28 rfl (lv_at hl 0 rfl) ?_
  refine lv_dup hx hb dJ5_append_3fe6f_29 rfl ?_
  refine gfU (k0 := 1) hX hB rfl rfl inJ4 3 (by decide) wm_4_11 rfl rfl dJ5_append_3fe6f_30 ?_
  refine lv_dup_x1 hx hb dJ5_append_3fe6f_33 rfl rfl ?_
  refine lv_iconst (v := 1) hx hb dJ5_append_3fe6f_34 (by decide) ?_
  refine lv_iadd hx hb dJ5_append_3fe6f_35 ?_
  refine eqi (y := nI (c_s + 1)) (nI_add c_s 1) ?_
  refine pfU (ty := .int) (k0 := 1) hX hB rfl rfl inJ4 tyJ4_ok nmJ4 3 (by decide) wm_4_11 rfl rfl rfl rfl rfl (Nat.le_of_ble_eq_true rfl) (w1 := bA κ q1 n2 F3 :: (s_0, .inr (1, [.ref q1, .int 0, .int ml, .int (nI (c_s + 1))])) :: w) rfl dJ5_append_3fe6f_36 (fun H locs hB => ?_)
  refine lv_iload_n hx hb dJ5_append_3fe6f_39 rfl (lv_at hl 1 rfl) ?_
  refine lv_i2b (v := (nI x).toInt8.toInt32) hx hb dJ5_append_3fe6f_40 rfl ?_
  refine bastN (k0 := 0) (k := c_s) hX hB rfl (by omega) (by omega) (w1 := bA κ q1 n2 (upd F3 c_s (vp_nar .byte ((nI x).toInt8.toInt32))) :: (s_0, .inr (1, [.ref q1, .int 0, .int ml, .int (nI (c_s + 1))])) :: w) rfl dJ5_append_3fe6f_41 (fun H locs hB => ?_)
  refine lv_goto (tgt := 75) hx hb dJ5_append_3fe6f_42 (by decide) ?_
  refine lv_aload_n hx hb dJ5_append_3fe6f_75 rfl (lv_at hl 0 rfl) ?_
  rw [← hQ]
  exact end_a hX hB hA3 rfl (Or.inr ⟨_, rfl⟩) ⟨q1, n2, (upd F3 c_s (vp_nar .byte ((nI x).toInt8.toInt32))), rfl, (by omega), (sb_fitU hf5 (pk_fb _)), rfl⟩ (Nat.le_of_ble_eq_true rfl) (Nat.le_of_ble_eq_true rfl) dJ5_append_3fe6f_76
set_option maxHeartbeats 4000000 in
set_option maxRecDepth 100000 in
theorem k_J4_append_cf468 (κ : Kt) (l : Launch) (w : va_W) (s_0 b_s n_s c_s : Nat) (ml : Int32) (f_s : Nat → Int32) (xx : Int32) (x : Nat) (hcn : c_s ≤ n_s) (hnb : n_s ≤ 1000) (hft : sb_Fit f_s) (hxx : xx = nI x) (hc3 : c_s ≤ 300) (hn2 : n_s ≤ 2 * c_s + 16) (hx5 : x ≤ 255) : CM κ l yJ4_append_cf468 cJ4_append_cf468 2 (some (.object "java/lang/StringBuilder")) 5 125 1 820 [.ref s_0, .int xx] (bA κ b_s n_s f_s :: (s_0, .inr (1, [.ref b_s, .int 0, .int ml, .int (nI c_s)])) :: w) (fun o w' => ∃ (q1 : Nat) (n1 : Nat) (F : Nat → Int32), o = some (.ref s_0) ∧ (c_s + 1 ≤ n1 ∧ n1 ≤ 1000 ∧ n1 ≤ 2 * (c_s + 1) + 16) ∧ (sb_Fit F) ∧ w' = bA κ q1 n1 F :: (s_0, .inr (1, [.ref q1, .int 0, .int ml, .int (nI (c_s + 1))])) :: w) := by
  subst hxx
  refine CM_begin (plainFor_of_name (by decide)) (Nat.le_of_ble_eq_true rfl) ?_
  intro p e s m args below meth c A Q hX hnm hA3 hQ hB ls hl
  have hx := hX.1.1
  have hb := hX.1.2.1
  have hl : lv_has ls 2 [(0, .ref s_0), (1, .int (nI x))] := hl
  refine lv_aload_n hx hb dJ4_append_cf468_0 rfl (lv_at hl 0 rfl) ?_
  refine lv_iload_n hx hb dJ4_append_cf468_1 rfl (lv_at hl 1 rfl) ?_
  refine call_SU (n := 1) (k0 := 1) (As := [.int (nI x)]) (rest := []) hX hB (k_J5_append_3fe6f κ l (w) s_0 b_s n_s c_s ml f_s (nI x) x (by omega) (by omega) hft rfl (by omega) (by omega) (by omega)) ⟨by decide, by decide +kernel⟩ wm_4_25 wm_7_185 wm_4_20 wm_4_26 wm_1_17 wm_4_27 ⟨Nat.le_of_ble_eq_true rfl, Nat.le_of_ble_eq_true rfl⟩ ⟨Nat.le_of_ble_eq_true rfl, Nat.le_of_ble_eq_true rfl⟩ rfl rfl rfl rfl hl.1 rfl (Nat.le_of_ble_eq_true rfl) dJ4_append_cf468_2 (fun o w' H locs hp hB => ?_)
  obtain ⟨q1, n2, F3, rfl, hf4, hf5, hw9⟩ := hp
  replace hB : Bd κ A s (bA κ q1 n2 F3 :: (s_0, .inr (1, [.ref q1, .int 0, .int ml, .int (nI (c_s + 1))])) :: w) H locs := by rw [hw9] at hB; exact hB
  refine W.eq (g2 := F0 m 5 ls [.ref s_0]) rfl ?_
  refine lv_pop hx hb dJ4_append_cf468_5 rfl ?_
  refine lv_aload_n hx hb dJ4_append_cf468_6 rfl (lv_at hl 0 rfl) ?_
  rw [← hQ]
  exact end_a hX hB hA3 rfl (Or.inr ⟨_, rfl⟩) ⟨q1, n2, F3, rfl, (by omega), hf5, rfl⟩ (Nat.le_of_ble_eq_true rfl) (Nat.le_of_ble_eq_true rfl) dJ4_append_cf468_7
