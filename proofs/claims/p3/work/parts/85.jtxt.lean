/-! ===== the texts of the reference, appended ===== -/
def sL (i : Nat) : Nat := ([0, 1, 1] : List Nat).getD i 0
def sB (i : Nat) : Nat → Int32 := fun j => (([[], [32], [47]] : List (List Int32)).getD i []).getD j 0
theorem sL_le {i : Nat} (h : i < 3) : sL i ≤ 1 := (by decide : ∀ i, i < 3 → sL i ≤ 1) i h
theorem sB_fit {i : Nat} (h : i < 3) : sb_Fit (sB i) := by
  intro j
  have h3 : i = 0 ∨ i = 1 ∨ i = 2 := by omega
  rcases h3 with rfl | rfl | rfl <;> (cases j <;> rfl)
section JRL
variable {p : Program} {l : Launch} {e : Env} {R : Room} {s : State} {m : MethodId} {args : Array Value} {below : List Frame} {meth : Method} {c : Code} {H : Heap} {locs : List Loc} {cells slots : Nat} {Q : State → Prop}
variable {κ : Kt} {cc : ByteArray} {nL : Nat} {own : String} {ret : Option FieldType} {A : Nat → Prop} {w : va_W}
variable {pc : Nat} {ls : Array Slot} {rest : List Value} {i : Nat}
theorem litS (hX : Cx κ p m c cc nL s args own meth ret A) : vk_S 3 [0, 1, 1] [[], [32], [47]] (adK κ) (adV κ) A s s.heap := hX.2.1.2.2.1.2.1.2.2.2.narrow hX.2.2.1
theorem litV {index : Nat} (hX : Cx κ p m c cc nL s args own meth ret A) (hB : Bd κ A s w H locs) (hi : i < 3) (hl : Cond.fieldLink own index "java/lang/String" "value" "[B" ∈ wAll) (hdg : decode cc pc = .ok (.getfield index, 3))
    (kk : W p l e R s m args below meth c H locs cells slots Q (F0 m (pc + 3) ls (.ref (adV κ i) :: rest))) : W p l e R s m args below meth c H locs cells slots Q (F0 m pc ls (.ref (adK κ i) :: rest)) :=
  vk_getf hX.1.1 hX.1.2.1 ((litS hX).1 i hi).2.2.1 hB.2.2 hX.1.2.2.2.1 (hX.1.2.2.2.2 _ hl) (fun _ h => h) hdg kk
theorem litC {index : Nat} (hX : Cx κ p m c cc nL s args own meth ret A) (hB : Bd κ A s w H locs) (hi : i < 3) (hl : Cond.fieldLink own index "java/lang/String" "coder" "B" ∈ wAll) (hdg : decode cc pc = .ok (.getfield index, 3))
    (kk : W p l e R s m args below meth c H locs cells slots Q (F0 m (pc + 3) ls (.int 0 :: rest))) : W p l e R s m args below meth c H locs cells slots Q (F0 m pc ls (.ref (adK κ i) :: rest)) :=
  vk_getf hX.1.1 hX.1.2.1 ((litS hX).1 i hi).2.1 hB.2.2 hX.1.2.2.2.1 (hX.1.2.2.2.2 _ hl) (fun _ h => h) hdg kk
theorem litN (hX : Cx κ p m c cc nL s args own meth ret A) (hB : Bd κ A s w H locs) (hi : i < 3) (hdg : decode cc pc = .ok (.arraylength, 1))
    (kk : W p l e R s m args below meth c H locs cells slots Q (F0 m (pc + 1) ls (.int (nI (sL i)) :: rest))) : W p l e R s m args below meth c H locs cells slots Q (F0 m pc ls (.ref (adV κ i) :: rest)) :=
  va_tlen hX.1.1 hX.1.2.1 ((litS hX).1 i hi).2.2.2 hB.2.2 rfl hdg kk
theorem ldcT {index : Nat} {tx : String} (hX : Cx κ p m c cc nL s args own meth ret A) (hZ : vk_R own index tx (adK κ i) s) (hdg : decode cc pc = .ok (.ldc index, 2))
    (kk : W p l e R s m args below meth c H locs cells slots Q (F0 m (pc + 2) ls (.ref (adK κ i) :: rest))) : W p l e R s m args below meth c H locs cells slots Q (F0 m pc ls rest) :=
  va_ldcS hX.1.1 hX.1.2.1 hX.1.2.2.2.1 hZ hdg kk
theorem copyT {k1 b n1 index dp : Nat} {g : Nat → Int32} (hX : Cx κ p m c cc nL s args own meth ret A) (hB : Bd κ A s w H locs) (hi : i < 3) (hml : ls.size = nL) (m1 : Cond.methodLink own index arraycopyName ∈ wAll) (m2 : Cond.native arraycopyName ∈ wNest) (m3 : Cond.static arraycopyName ∈ wAll) (m4 : Cond.initialized "java/lang/System" ∈ wAll) (h1 : w[k1]? = some (bA κ b n1 g)) (hn1 : n1 < 2 ^ 31) (h5 : dp + sL i ≤ n1) (hfr : 1 ≤ R.frames) (hlo : (rest.map fun v => v.category).sum + (nativeFrameWords "java/lang/System" "arraycopy" 5 + 11) ≤ R.locals) {w1 : va_W} (hw : w.set k1 (bA κ b n1 (va_cpy (sB i) g 0 dp (sL i))) = w1) (hdg : decode cc pc = .ok (.invokestatic index, 3))
    (kk : ∀ (H1 : Heap) (locs1 : List Loc), Bd κ A s w1 H1 locs1 → W p l e R s m args below meth c H1 locs1 cells slots Q (F0 m (pc + 3) ls rest)) : W p l e R s m args below meth c H locs cells slots Q (F0 m pc ls (.int (nI (sL i)) :: .int (nI dp) :: .ref b :: .int 0 :: .ref (adV κ i) :: rest)) := by
  subst hw
  have hv := hX.1.2.2.2.2
  have hs := sL_le hi
  have e2 : (nI dp).toNatClampNeg = dp := nI_clamp (by omega)
  have e3 : (nI (sL i)).toNatClampNeg = sL i := nI_clamp (by omega)
  have e1 : (0 : Int32).toNatClampNeg = 0 := rfl
  refine vk_copyt (tys := tysK κ) (f := sB i) hX.1.1 hX.1.2.1 (by rw [hX.1.2.2.1]; exact hml.symm) hX.1.2.2.2.1 (hv _ m1) (va_Nw.use rfl (hX.2.1.2.1.use m2)) (hv _ m3) (hv _ m4) hX.2.1.1 hB.1 hB.2.1 hB.2.2 ((litS hX).1 i hi).2.2.2 k1 3 h1 rfl (by decide) (nI_pos (by omega)) (nI_pos (by omega)) (by rw [e1, e3]; exact Nat.le_of_eq (Nat.zero_add _)) (by rw [e2, e3]; exact h5) (fun j _ => sB_fit hi _) hfr hlo hdg (fun H1 locs1 a1 a2 a3 => kk H1 locs1 ?_)
  rw [e1, e2, e3] at a1 a2
  exact ⟨a1, a2, a3⟩
theorem call_L {post : Option Value → va_W → Prop} {y : MethodName} {bytes : ByteArray} {maxL fr lo mc ms n index : Nat} {rt : Option FieldType} {As st0 : List Value} (hX : Cx κ p m c cc nL s args own meth ret A) (hB : Bd κ A s w H locs) (hi : i < 3)
    (hM : CM κ l y bytes maxL rt fr lo mc ms (.ref (adK κ i) :: As) w post) (hy : y.cls = "java/lang/String" ∧ Yk y n) (m1 : Cond.methodLink own index y ∈ wAll) (m2 : Cond.instanceMethod y ∈ wAll) (m3 : Cond.selects "java/lang/String" y y ∈ wAll) (m4 : Cond.initialized "java/lang/String" ∈ wAll) (m5 : Cond.code y bytes maxL rt ∈ wAll)
    (hR : fr + 1 ≤ R.frames ∧ 8 + (maxL + 11) + lo ≤ R.locals) (hf : cells + mc ≤ R.cells ∧ slots + ms ≤ R.slots)
    (hn : As.length = n) (hl : ls.size = nL) (hst : st0 = As.reverse ++ .ref (adK κ i) :: rest) (hcat : (rest.map fun v => v.category).sum ≤ 8) (hdg : decode cc pc = .ok (.invokevirtual index, 3))
    (kk : ∀ (r : Option Value) (w' : va_W) (H1 : Heap) (locs1 : List Loc), post r w' → Bd κ A s w' H1 locs1 → W p l e R s m args below meth c H1 locs1 (cells + mc) (slots + ms) Q (F0 m (pc + 3) ls (r.toList ++ rest))) : W p l e R s m args below meth c H locs cells slots Q (F0 m pc ls st0) := by
  refine CM_after hX hB (va_runV (As := As) (rest := rest) (nL := nL) (own := own) (C := "java/lang/String") (b := adK κ i) hX.1 (hM H.size) (cwV n hX.1.2.2.2.2 (gAll1 m1 (gAll1 m2 (gAll1 m3 (gAll1 m4 (gAll m5))))) rfl rfl rfl ⟨hy.1, hy.2⟩ hR) ⟨Pm_blind, ?_, Pm_at hX hB⟩ rfl hn hl hst (lv_room hcat) hdg hf) kk
  obtain ⟨cell, z1, z2, z3⟩ := vk_recv (litS hX) hi hB.2.2
  exact ⟨cell, z1, z2, z3⟩
end JRL

set_option maxHeartbeats 4000000 in
set_option maxRecDepth 100000 in
theorem k_J0_coder_7d493 (κ : Kt) (l : Launch) (w : va_W) (i0 : Nat) (hi3 : i0 < 3) : CM κ l yJ0_coder_7d493 cJ0_coder_7d493 1 (some .byte) 0 0 0 0 [.ref (adK κ i0)] (w) (fun o w' => o = some (.int 0) ∧ w' = w) := by
  refine CM_begin (plainFor_of_name (by decide)) (Nat.le_of_ble_eq_true rfl) ?_
  intro p e s m args below meth c A Q hX hnm hA3 hQ hB ls hl
  have hx := hX.1.1
  have hb := hX.1.2.1
  have hl : lv_has ls 1 [(0, .ref (adK κ i0))] := hl
  refine gsv hX hB hX.2.1.2.2.1.1.2.2.1 wm_4_209 dJ0_coder_7d493_0 ?_
  refine lv_if_eq (tgt := 13) hx hb dJ0_coder_7d493_3 (by decide) (fun c1 => False.elim (by revert c1; decide)) (fun _ => ?_)
  refine lv_aload_n hx hb dJ0_coder_7d493_6 rfl (lv_at hl 0 rfl) ?_
  refine litC (i := i0) hX hB (by omega) wm_5_1 dJ0_coder_7d493_7 ?_
  refine lv_goto (tgt := 14) hx hb dJ0_coder_7d493_10 (by decide) ?_
  rw [← hQ]
  exact end_i hX hB hA3 rfl rfl ⟨rfl, rfl⟩ (Nat.le_of_ble_eq_true rfl) (Nat.le_of_ble_eq_true rfl) dJ0_coder_7d493_14
set_option maxHeartbeats 4000000 in
set_option maxRecDepth 100000 in
theorem k_J0_length_8abf5 (κ : Kt) (l : Launch) (w : va_W) (i0 : Nat) (hi3 : i0 < 3) : CM κ l yJ0_length_8abf5 cJ0_length_8abf5 1 (some .int) 1 20 0 0 [.ref (adK κ i0)] (w) (fun o w' => o = some (.int (nI (sL i0))) ∧ w' = w) := by
  refine CM_begin (plainFor_of_name (by decide)) (Nat.le_of_ble_eq_true rfl) ?_
  intro p e s m args below meth c A Q hX hnm hA3 hQ hB ls hl
  have hx := hX.1.1
  have hb := hX.1.2.1
  have hl : lv_has ls 1 [(0, .ref (adK κ i0))] := hl
  refine lv_aload_n hx hb dJ0_length_8abf5_0 rfl (lv_at hl 0 rfl) ?_
  refine litV (i := i0) hX hB (by omega) wm_5_0 dJ0_length_8abf5_1 ?_
  refine litN (i := i0) hX hB (by omega) dJ0_length_8abf5_4 ?_
  refine lv_aload_n hx hb dJ0_length_8abf5_5 rfl (lv_at hl 0 rfl) ?_
  refine call_L (i := i0) (n := 0) (As := []) (rest := [.int (nI (sL i0))]) hX hB (by omega) (k_J0_coder_7d493 κ l (w) i0 (by omega)) ⟨rfl, by decide, by decide, by decide +kernel⟩ wm_4_205 wm_4_206 wm_4_207 wm_1_19 wm_4_208 ⟨Nat.le_of_ble_eq_true rfl, Nat.le_of_ble_eq_true rfl⟩ ⟨Nat.le_of_ble_eq_true rfl, Nat.le_of_ble_eq_true rfl⟩ rfl hl.1 rfl (Nat.le_of_ble_eq_true rfl) dJ0_length_8abf5_6 (fun o w' H locs hp hB => ?_)
  obtain ⟨rfl, hw9⟩ := hp
  replace hB : Bd κ A s (w) H locs := by rw [hw9] at hB; exact hB
  refine W.eq (g2 := F0 m 9 ls [.int 0, .int (nI (sL i0))]) rfl ?_
  refine lv_ishr hx hb dJ0_length_8abf5_9 ?_
  refine eqi (y := nI (sL i0)) (shr0z _) ?_
  rw [← hQ]
  exact end_i hX hB hA3 rfl rfl ⟨rfl, rfl⟩ (Nat.le_of_ble_eq_true rfl) (Nat.le_of_ble_eq_true rfl) dJ0_length_8abf5_10
set_option maxHeartbeats 4000000 in
set_option maxRecDepth 100000 in
theorem k_J0_getBytes_840e7 (κ : Kt) (l : Launch) (w : va_W) (i0 : Nat) (k_b b_b n_b : Nat) (f_b : Nat → Int32) (xdp : Int32) (dp : Nat) (h_b : w[k_b]? = some (bA κ b_b n_b f_b)) (hnb : n_b ≤ 1000) (hft : sb_Fit f_b) (hxdp : xdp = nI dp) (hi3 : i0 < 3) (hdp : dp + sL i0 ≤ n_b) : CM κ l yJ0_getBytes_840e7 cJ0_getBytes_840e7 4 (none) 1 60 0 0 [.ref (adK κ i0), .ref b_b, .int xdp, .int 0] (w) (fun o w' => ∃ (F : Nat → Int32), o = none ∧ (sb_Fit F) ∧ w' = w.set k_b (bA κ b_b n_b F)) := by
  subst hxdp
  refine CM_begin (plainFor_of_name (by decide)) (Nat.le_of_ble_eq_true rfl) ?_
  intro p e s m args below meth c A Q hX hnm hA3 hQ hB ls hl
  have hx := hX.1.1
  have hb := hX.1.2.1
  have hl : lv_has ls 4 [(0, .ref (adK κ i0)), (1, .ref b_b), (2, .int (nI dp)), (3, .int 0)] := hl
  have hB : Bd κ A s (w.set k_b (bA κ b_b n_b f_b)) s.heap [] := by rw [wset0 h_b]; exact hB
  have hsl := sL_le hi3
  refine lv_aload_n hx hb dJ0_getBytes_840e7_0 rfl (lv_at hl 0 rfl) ?_
  refine call_L (i := i0) (n := 0) (As := []) (rest := []) hX hB (by omega) (k_J0_coder_7d493 κ l ((w.set k_b (bA κ b_b n_b f_b))) i0 (by omega)) ⟨rfl, by decide, by decide, by decide +kernel⟩ wm_4_205 wm_4_206 wm_4_207 wm_1_19 wm_4_208 ⟨Nat.le_of_ble_eq_true rfl, Nat.le_of_ble_eq_true rfl⟩ ⟨Nat.le_of_ble_eq_true rfl, Nat.le_of_ble_eq_true rfl⟩ rfl hl.1 rfl (Nat.le_of_ble_eq_true rfl) dJ0_getBytes_840e7_1 (fun o w' H locs hp hB => ?_)
  obtain ⟨rfl, hw9⟩ := hp
  replace hB : Bd κ A s ((w.set k_b (bA κ b_b n_b f_b))) H locs := by rw [hw9] at hB; exact hB
  refine W.eq (g2 := F0 m 4 ls [.int 0]) rfl ?_
  refine lv_iload_n hx hb dJ0_getBytes_840e7_4 rfl (lv_at hl 3 rfl) ?_
  refine lv_icmp_ne (tgt := 28) hx hb dJ0_getBytes_840e7_5 (by decide) (fun c1 => False.elim (by revert c1; decide)) (fun _ => ?_)
  refine lv_aload_n hx hb dJ0_getBytes_840e7_8 rfl (lv_at hl 0 rfl) ?_
  refine litV (i := i0) hX hB (by omega) wm_5_0 dJ0_getBytes_840e7_9 ?_
  refine lv_iconst (v := 0) hx hb dJ0_getBytes_840e7_12 (by decide) ?_
  refine lv_aload_n hx hb dJ0_getBytes_840e7_13 rfl (lv_at hl 1 rfl) ?_
  refine lv_iload_n hx hb dJ0_getBytes_840e7_14 rfl (lv_at hl 2 rfl) ?_
  refine lv_iload_n hx hb dJ0_getBytes_840e7_15 rfl (lv_at hl 3 rfl) ?_
  refine lv_ishl hx hb dJ0_getBytes_840e7_16 ?_
  refine eqi (y := nI dp) (shl0 _) ?_
  refine lv_aload_n hx hb dJ0_getBytes_840e7_17 rfl (lv_at hl 0 rfl) ?_
  refine litV (i := i0) hX hB (by omega) wm_5_0 dJ0_getBytes_840e7_18 ?_
  refine litN (i := i0) hX hB (by omega) dJ0_getBytes_840e7_21 ?_
  refine copyT (i := i0) (k1 := k_b) (dp := dp) hX hB (by omega) hl.1 wm_4_223 wn_4_58 wm_4_57 wm_1_23 (wset1 h_b) (by omega) (by omega) (Nat.le_of_ble_eq_true rfl) (Nat.le_of_ble_eq_true rfl) (w1 := (w.set k_b (bA κ b_b n_b (va_cpy (sB i0) f_b 0 dp (sL i0))))) (List.set_set _) dJ0_getBytes_840e7_22 (fun H locs hB => ?_)
  refine lv_goto (tgt := 43) hx hb dJ0_getBytes_840e7_25 (by decide) ?_
  rw [← hQ]
  exact end_v hX hB hA3 rfl ⟨(va_cpy (sB i0) f_b 0 dp (sL i0)), rfl, (sb_fitC (sB_fit (i := i0) (by omega)) hft), rfl⟩ (Nat.le_of_ble_eq_true rfl) (Nat.le_of_ble_eq_true rfl) dJ0_getBytes_840e7_43
set_option maxHeartbeats 4000000 in
set_option maxRecDepth 100000 in
theorem k_J5_inflateIfNeededFor_a7421 (κ : Kt) (l : Launch) (w : va_W) (i0 : Nat) (s_0 b_s n_s c_s : Nat) (ml : Int32) (f_s : Nat → Int32) (hcn : c_s ≤ n_s) (hnb : n_s ≤ 1000) (hft : sb_Fit f_s) (hi3 : i0 < 3) : CM κ l yJ5_inflateIfNeededFor_a7421 cJ5_inflateIfNeededFor_a7421 2 (none) 1 20 0 0 [.ref s_0, .ref (adK κ i0)] (bA κ b_s n_s f_s :: (s_0, .inr (1, [.ref b_s, .int 0, .int ml, .int (nI c_s)])) :: w) (fun o w' => o = none ∧ w' = bA κ b_s n_s f_s :: (s_0, .inr (1, [.ref b_s, .int 0, .int ml, .int (nI c_s)])) :: w) := by
  refine CM_begin (plainFor_of_name (by decide)) (Nat.le_of_ble_eq_true rfl) ?_
  intro p e s m args below meth c A Q hX hnm hA3 hQ hB ls hl
  have hx := hX.1.1
  have hb := hX.1.2.1
  have hl : lv_has ls 2 [(0, .ref s_0), (1, .ref (adK κ i0))] := hl
  refine gsv hX hB hX.2.1.2.2.1.1.2.2.1 wm_3_239 dJ5_inflateIfNeededFor_a7421_0 ?_
  refine lv_if_eq (tgt := 21) hx hb dJ5_inflateIfNeededFor_a7421_3 (by decide) (fun c1 => False.elim (by revert c1; decide)) (fun _ => ?_)
  refine lv_aload_n hx hb dJ5_inflateIfNeededFor_a7421_6 rfl (lv_at hl 0 rfl) ?_
  refine gfU (k0 := 1) hX hB rfl rfl inJ4 1 (by decide) wm_4_9 rfl rfl dJ5_inflateIfNeededFor_a7421_7 ?_
  refine lv_aload_n hx hb dJ5_inflateIfNeededFor_a7421_10 rfl (lv_at hl 1 rfl) ?_
  refine call_L (i := i0) (n := 0) (As := []) (rest := [.int 0]) hX hB (by omega) (k_J0_coder_7d493 κ l (bA κ b_s n_s f_s :: (s_0, .inr (1, [.ref b_s, .int 0, .int ml, .int (nI c_s)])) :: w) i0 (by omega)) ⟨rfl, by decide, by decide, by decide +kernel⟩ wm_4_218 wm_4_206 wm_4_207 wm_1_19 wm_4_208 ⟨Nat.le_of_ble_eq_true rfl, Nat.le_of_ble_eq_true rfl⟩ ⟨Nat.le_of_ble_eq_true rfl, Nat.le_of_ble_eq_true rfl⟩ rfl hl.1 rfl (Nat.le_of_ble_eq_true rfl) dJ5_inflateIfNeededFor_a7421_11 (fun o w' H locs hp hB => ?_)
  obtain ⟨rfl, hw9⟩ := hp
  replace hB : Bd κ A s (bA κ b_s n_s f_s :: (s_0, .inr (1, [.ref b_s, .int 0, .int ml, .int (nI c_s)])) :: w) H locs := by rw [hw9] at hB; exact hB
  refine W.eq (g2 := F0 m 14 ls [.int 0, .int 0]) rfl ?_
  refine lv_icmp_eq (tgt := 21) hx hb dJ5_inflateIfNeededFor_a7421_14 (by decide) (fun _ => ?_) (fun c2 => False.elim (by revert c2; decide))
  rw [← hQ]
  exact end_v hX hB hA3 rfl ⟨rfl, rfl⟩ (Nat.le_of_ble_eq_true rfl) (Nat.le_of_ble_eq_true rfl) dJ5_inflateIfNeededFor_a7421_21
set_option maxHeartbeats 4000000 in
set_option maxRecDepth 100000 in
theorem k_J5_putStringAt_47b60 (κ : Kt) (l : Launch) (w : va_W) (i0 : Nat) (s_0 b_s n_s c_s : Nat) (ml : Int32) (f_s : Nat → Int32) (xx : Int32) (x : Nat) (hcn : c_s ≤ n_s) (hnb : n_s ≤ 1000) (hft : sb_Fit f_s) (hxx : xx = nI x) (hi3 : i0 < 3) (hx5 : x + sL i0 ≤ n_s) : CM κ l yJ5_putStringAt_47b60 cJ5_putStringAt_47b60 3 (none) 2 83 0 0 [.ref s_0, .int xx, .ref (adK κ i0)] (bA κ b_s n_s f_s :: (s_0, .inr (1, [.ref b_s, .int 0, .int ml, .int (nI c_s)])) :: w) (fun o w' => ∃ (F : Nat → Int32), o = none ∧ (sb_Fit F) ∧ w' = bA κ b_s n_s F :: (s_0, .inr (1, [.ref b_s, .int 0, .int ml, .int (nI c_s)])) :: w) := by
  subst hxx
  refine CM_begin (plainFor_of_name (by decide)) (Nat.le_of_ble_eq_true rfl) ?_
  intro p e s m args below meth c A Q hX hnm hA3 hQ hB ls hl
  have hx := hX.1.1
  have hb := hX.1.2.1
  have hl : lv_has ls 3 [(0, .ref s_0), (1, .int (nI x)), (2, .ref (adK κ i0))] := hl
  refine lv_aload_n hx hb dJ5_putStringAt_47b60_0 rfl (lv_at hl 0 rfl) ?_
  refine lv_aload_n hx hb dJ5_putStringAt_47b60_1 rfl (lv_at hl 2 rfl) ?_
  refine call_U (n := 1) (k0 := 1) (As := [.ref (adK κ i0)]) (rest := []) hX hB (k_J5_inflateIfNeededFor_a7421 κ l (w) i0 s_0 b_s n_s c_s ml f_s (by omega) (by omega) hft (by omega)) ⟨by decide, by decide, by decide +kernel⟩ wm_4_214 wm_7_193 wm_4_216 (Or.inr wn_4_215) wm_1_17 wm_4_217 ⟨Nat.le_of_ble_eq_true rfl, Nat.le_of_ble_eq_true rfl⟩ ⟨Nat.le_of_ble_eq_true rfl, Nat.le_of_ble_eq_true rfl⟩ rfl rfl rfl rfl hl.1 rfl (Nat.le_of_ble_eq_true rfl) dJ5_putStringAt_47b60_2 (fun o w' H locs hp hB => ?_)
  obtain ⟨rfl, hw9⟩ := hp
  replace hB : Bd κ A s (bA κ b_s n_s f_s :: (s_0, .inr (1, [.ref b_s, .int 0, .int ml, .int (nI c_s)])) :: w) H locs := by rw [hw9] at hB; exact hB
  refine W.eq (g2 := F0 m 5 ls []) rfl ?_
  refine lv_aload_n hx hb dJ5_putStringAt_47b60_5 rfl (lv_at hl 2 rfl) ?_
  refine lv_aload_n hx hb dJ5_putStringAt_47b60_6 rfl (lv_at hl 0 rfl) ?_
  refine gfU (k0 := 1) hX hB rfl rfl inJ4 0 (by decide) wm_4_8 rfl rfl dJ5_putStringAt_47b60_7 ?_
  refine lv_iload_n hx hb dJ5_putStringAt_47b60_10 rfl (lv_at hl 1 rfl) ?_
  refine lv_aload_n hx hb dJ5_putStringAt_47b60_11 rfl (lv_at hl 0 rfl) ?_
  refine gfU (k0 := 1) hX hB rfl rfl inJ4 1 (by decide) wm_4_9 rfl rfl dJ5_putStringAt_47b60_12 ?_
  refine call_L (i := i0) (n := 3) (As := [.ref b_s, .int (nI x), .int 0]) (rest := []) hX hB (by omega) (k_J0_getBytes_840e7 κ l (bA κ b_s n_s f_s :: (s_0, .inr (1, [.ref b_s, .int 0, .int ml, .int (nI c_s)])) :: w) i0 0 b_s n_s f_s (nI x) x rfl (by omega) hft rfl (by omega) (by omega)) ⟨rfl, by decide, by decide, by decide +kernel⟩ wm_4_219 wm_4_220 wm_4_221 wm_1_19 wm_4_222 ⟨Nat.le_of_ble_eq_true rfl, Nat.le_of_ble_eq_true rfl⟩ ⟨Nat.le_of_ble_eq_true rfl, Nat.le_of_ble_eq_true rfl⟩ rfl hl.1 rfl (Nat.le_of_ble_eq_true rfl) dJ5_putStringAt_47b60_15 (fun o w' H locs hp hB => ?_)
  obtain ⟨F1, rfl, hf2, hw9⟩ := hp
  replace hB : Bd κ A s (bA κ b_s n_s F1 :: (s_0, .inr (1, [.ref b_s, .int 0, .int ml, .int (nI c_s)])) :: w) H locs := by rw [hw9] at hB; exact hB
  refine W.eq (g2 := F0 m 18 ls []) rfl ?_
  rw [← hQ]
  exact end_v hX hB hA3 rfl ⟨F1, rfl, hf2, rfl⟩ (Nat.le_of_ble_eq_true rfl) (Nat.le_of_ble_eq_true rfl) dJ5_putStringAt_47b60_18
set_option maxHeartbeats 4000000 in
set_option maxRecDepth 100000 in
theorem k_J5_append_cf1ce (κ : Kt) (l : Launch) (w : va_W) (i0 : Nat) (s_0 b_s n_s c_s : Nat) (ml : Int32) (f_s : Nat → Int32) (hcn : c_s ≤ n_s) (hnb : n_s ≤ 1000) (hft : sb_Fit f_s) (hi3 : i0 < 3) (hc3 : c_s ≤ 300) (hn2 : n_s ≤ 2 * c_s + 16) : CM κ l yJ5_append_cf1ce cJ5_append_cf1ce 3 (some (.object "java/lang/AbstractStringBuilder")) 4 105 1 820 [.ref s_0, .ref (adK κ i0)] (bA κ b_s n_s f_s :: (s_0, .inr (1, [.ref b_s, .int 0, .int ml, .int (nI c_s)])) :: w) (fun o w' => ∃ (q1 : Nat) (n1 : Nat) (F : Nat → Int32) (c1 : Nat), o = some (.ref s_0) ∧ (c1 = c_s + sL i0 ∧ c1 ≤ n1 ∧ n1 ≤ 1000 ∧ n1 ≤ 2 * c1 + 16) ∧ (sb_Fit F) ∧ w' = bA κ q1 n1 F :: (s_0, .inr (1, [.ref q1, .int 0, .int ml, .int (nI c1)])) :: w) := by
  refine CM_begin (plainFor_of_name (by decide)) (Nat.le_of_ble_eq_true rfl) ?_
  intro p e s m args below meth c A Q hX hnm hA3 hQ hB ls hl
  have hx := hX.1.1
  have hb := hX.1.2.1
  have hl : lv_has ls 3 [(0, .ref s_0), (1, .ref (adK κ i0))] := hl
  have hsl := sL_le hi3
  refine lv_aload_n hx hb dJ5_append_cf1ce_0 rfl (lv_at hl 1 rfl) ?_
  refine lv_ifnonnull (tgt := 9) hx hb dJ5_append_cf1ce_1 (by decide) ?_
  refine lv_aload_n hx hb dJ5_append_cf1ce_9 rfl (lv_at hl 1 rfl) ?_
  refine call_L (i := i0) (n := 0) (As := []) (rest := []) hX hB (by omega) (k_J0_length_8abf5 κ l (bA κ b_s n_s f_s :: (s_0, .inr (1, [.ref b_s, .int 0, .int ml, .int (nI c_s)])) :: w) i0 (by omega)) ⟨rfl, by decide, by decide, by decide +kernel⟩ wm_4_201 wm_4_202 wm_4_203 wm_1_19 wm_4_204 ⟨Nat.le_of_ble_eq_true rfl, Nat.le_of_ble_eq_true rfl⟩ ⟨Nat.le_of_ble_eq_true rfl, Nat.le_of_ble_eq_true rfl⟩ rfl hl.1 rfl (Nat.le_of_ble_eq_true rfl) dJ5_append_cf1ce_10 (fun o w' H locs hp hB => ?_)
  obtain ⟨rfl, hw9⟩ := hp
  replace hB : Bd κ A s (bA κ b_s n_s f_s :: (s_0, .inr (1, [.ref b_s, .int 0, .int ml, .int (nI c_s)])) :: w) H locs := by rw [hw9] at hB; exact hB
  refine W.eq (g2 := F0 m 13 ls [.int (nI (sL i0))]) rfl ?_
  refine lv_istore_n (lv' := [(2, .int (nI (sL i0))), (0, .ref s_0), (1, .ref (adK κ i0))]) hx hb dJ5_append_cf1ce_13 rfl hl (by decide) rfl (fun ls hl => ?_)
  refine lv_aload_n hx hb dJ5_append_cf1ce_14 rfl (lv_at hl 1 rfl) ?_
  refine lv_aload_n hx hb dJ5_append_cf1ce_15 rfl (lv_at hl 1 rfl) ?_
  refine gfU (k0 := 1) hX hB rfl rfl inJ4 3 (by decide) wm_4_11 rfl rfl dJ5_append_cf1ce_16 ?_
  refine lv_iload_n hx hb dJ5_append_cf1ce_19 rfl (lv_at hl 0 rfl) ?_
  refine lv_iadd hx hb dJ5_append_cf1ce_20 ?_
  refine eqi (y := nI (c_s + (sL i0))) (nI_add c_s (sL i0)) ?_
  refine call_U (n := 1) (k0 := 1) (As := [.int (nI (c_s + (sL i0)))]) (rest := []) hX hB (k_J5_ensureCapacityInternal_d00df κ l (w) s_0 b_s n_s c_s ml f_s (nI (c_s + (sL i0))) (c_s + (sL i0)) (by omega) (by omega) hft rfl (by omega)) ⟨by decide, by decide, by decide +kernel⟩ wm_4_28 wm_7_186 wm_4_30 (Or.inr wn_4_29) wm_1_17 wm_4_31 ⟨Nat.le_of_ble_eq_true rfl, Nat.le_of_ble_eq_true rfl⟩ ⟨Nat.le_of_ble_eq_true rfl, Nat.le_of_ble_eq_true rfl⟩ rfl rfl rfl rfl hl.1 rfl (Nat.le_of_ble_eq_true rfl) dJ5_append_cf1ce_21 (fun o w' H locs hp hB => ?_)
  obtain ⟨q1, n2, F3, rfl, hf4, hf5, hw9⟩ := hp
  replace hB : Bd κ A s (bA κ q1 n2 F3 :: (s_0, .inr (1, [.ref q1, .int 0, .int ml, .int (nI c_s)])) :: w) H locs := by rw [hw9] at hB; exact hB
  refine W.eq (g2 := F0 m 24 ls []) rfl ?_
  refine lv_aload_n hx hb dJ5_append_cf1ce_24 rfl (lv_at hl 1 rfl) ?_
  refine lv_aload_n hx hb dJ5_append_cf1ce_25 rfl (lv_at hl 1 rfl) ?_
  refine gfU (k0 := 1) hX hB rfl rfl inJ4 3 (by decide) wm_4_11 rfl rfl dJ5_append_cf1ce_26 ?_
  refine lv_aload_n hx hb dJ5_append_cf1ce_29 rfl (lv_at hl 2 rfl) ?_
  refine call_U (n := 2) (k0 := 1) (As := [.int (nI c_s), .ref (adK κ i0)]) (rest := []) hX hB (k_J5_putStringAt_47b60 κ l (w) i0 s_0 q1 n2 c_s ml F3 (nI c_s) c_s (by omega) (by omega) hf5 rfl (by omega) (by omega)) ⟨by decide, by decide, by decide +kernel⟩ wm_4_210 wm_7_192 wm_4_212 (Or.inr wn_4_211) wm_1_17 wm_4_213 ⟨Nat.le_of_ble_eq_true rfl, Nat.le_of_ble_eq_true rfl⟩ ⟨Nat.le_of_ble_eq_true rfl, Nat.le_of_ble_eq_true rfl⟩ rfl rfl rfl rfl hl.1 rfl (Nat.le_of_ble_eq_true rfl) dJ5_append_cf1ce_30 (fun o w' H locs hp hB => ?_)
  obtain ⟨F6, rfl, hf7, hw9⟩ := hp
  replace hB : Bd κ A s (bA κ q1 n2 F6 :: (s_0, .inr (1, [.ref q1, .int 0, .int ml, .int (nI c_s)])) :: w) H locs := by rw [hw9] at hB; exact hB
  refine W.eq (g2 := F0 m 33 ls []) rfl ?_
  refine lv_aload_n hx hb dJ5_append_cf1ce_33 rfl (lv_at hl 1 rfl) ?_
  refine lv_dup hx hb dJ5_append_cf1ce_34 rfl ?_
  refine gfU (k0 := 1) hX hB rfl rfl inJ4 3 (by decide) wm_4_11 rfl rfl dJ5_append_cf1ce_35 ?_
  refine lv_iload_n hx hb dJ5_append_cf1ce_38 rfl (lv_at hl 0 rfl) ?_
  refine lv_iadd hx hb dJ5_append_cf1ce_39 ?_
  refine eqi (y := nI (c_s + (sL i0))) (nI_add c_s (sL i0)) ?_
  refine pfU (ty := .int) (k0 := 1) hX hB rfl rfl inJ4 tyJ4_ok nmJ4 3 (by decide) wm_4_11 rfl rfl rfl rfl rfl (Nat.le_of_ble_eq_true rfl) (w1 := bA κ q1 n2 F6 :: (s_0, .inr (1, [.ref q1, .int 0, .int ml, .int (nI (c_s + (sL i0)))])) :: w) rfl dJ5_append_cf1ce_40 (fun H locs hB => ?_)
  refine lv_aload_n hx hb dJ5_append_cf1ce_43 rfl (lv_at hl 1 rfl) ?_
  rw [← hQ]
  exact end_a hX hB hA3 rfl (Or.inr ⟨_, rfl⟩) ⟨q1, n2, F6, (c_s + (sL i0)), rfl, (by omega), hf7, rfl⟩ (Nat.le_of_ble_eq_true rfl) (Nat.le_of_ble_eq_true rfl) dJ5_append_cf1ce_44
set_option maxHeartbeats 4000000 in
set_option maxRecDepth 100000 in
theorem k_J4_append_15ec4 (κ : Kt) (l : Launch) (w : va_W) (i0 : Nat) (s_0 b_s n_s c_s : Nat) (ml : Int32) (f_s : Nat → Int32) (hcn : c_s ≤ n_s) (hnb : n_s ≤ 1000) (hft : sb_Fit f_s) (hi3 : i0 < 3) (hc3 : c_s ≤ 300) (hn2 : n_s ≤ 2 * c_s + 16) : CM κ l yJ4_append_15ec4 cJ4_append_15ec4 2 (some (.object "java/lang/StringBuilder")) 5 127 1 820 [.ref s_0, .ref (adK κ i0)] (bA κ b_s n_s f_s :: (s_0, .inr (1, [.ref b_s, .int 0, .int ml, .int (nI c_s)])) :: w) (fun o w' => ∃ (q1 : Nat) (n1 : Nat) (F : Nat → Int32) (c1 : Nat), o = some (.ref s_0) ∧ (c1 = c_s + sL i0 ∧ c1 ≤ n1 ∧ n1 ≤ 1000 ∧ n1 ≤ 2 * c1 + 16) ∧ (sb_Fit F) ∧ w' = bA κ q1 n1 F :: (s_0, .inr (1, [.ref q1, .int 0, .int ml, .int (nI c1)])) :: w) := by
  refine CM_begin (plainFor_of_name (by decide)) (Nat.le_of_ble_eq_true rfl) ?_
  intro p e s m args below meth c A Q hX hnm hA3 hQ hB ls hl
  have hx := hX.1.1
  have hb := hX.1.2.1
  have hl : lv_has ls 2 [(0, .ref s_0), (1, .ref (adK κ i0))] := hl
  have hsl := sL_le hi3
  refine lv_aload_n hx hb dJ4_append_15ec4_0 rfl (lv_at hl 0 rfl) ?_
  refine lv_aload_n hx hb dJ4_append_15ec4_1 rfl (lv_at hl 1 rfl) ?_
  refine call_SU (n := 1) (k0 := 1) (As := [.ref (adK κ i0)]) (rest := []) hX hB (k_J5_append_cf1ce κ l (w) i0 s_0 b_s n_s c_s ml f_s (by omega) (by omega) hft (by omega) (by omega) (by omega)) ⟨by decide, by decide +kernel⟩ wm_4_191 wm_7_190 wm_4_20 wm_4_192 wm_1_17 wm_4_193 ⟨Nat.le_of_ble_eq_true rfl, Nat.le_of_ble_eq_true rfl⟩ ⟨Nat.le_of_ble_eq_true rfl, Nat.le_of_ble_eq_true rfl⟩ rfl rfl rfl rfl hl.1 rfl (Nat.le_of_ble_eq_true rfl) dJ4_append_15ec4_2 (fun o w' H locs hp hB => ?_)
  obtain ⟨q1, n2, F3, c4, rfl, hf5, hf6, hw9⟩ := hp
  replace hB : Bd κ A s (bA κ q1 n2 F3 :: (s_0, .inr (1, [.ref q1, .int 0, .int ml, .int (nI c4)])) :: w) H locs := by rw [hw9] at hB; exact hB
  refine W.eq (g2 := F0 m 5 ls [.ref s_0]) rfl ?_
  refine lv_pop hx hb dJ4_append_15ec4_5 rfl ?_
  refine lv_aload_n hx hb dJ4_append_15ec4_6 rfl (lv_at hl 0 rfl) ?_
  rw [← hQ]
  exact end_a hX hB hA3 rfl (Or.inr ⟨_, rfl⟩) ⟨q1, n2, F3, c4, rfl, (by omega), hf6, rfl⟩ (Nat.le_of_ble_eq_true rfl) (Nat.le_of_ble_eq_true rfl) dJ4_append_15ec4_7
