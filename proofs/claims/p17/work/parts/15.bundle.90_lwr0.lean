section
-- 90.lwr0
/-! ===== The law's own methods: each calls the class and catches ===== -/
/-- a contract of a method with a table of handlers, that returns -/
def CMW (κ : Kt) (l : Launch) (y : MethodName) (cc : ByteArray) (n : Nat) (ret : Option FieldType) (hh : List (Nat × Nat × Nat × Nat)) (fr lo mc ms : Nat) (av : List Value) (w : va_W) (post : Option Value → va_W → Prop) : Prop :=
  ∀ sz : Nat, Met l y (Cond.codeWith y cc n ret hh :: wAll) (Rm fr lo mc ms) (Pm κ av w sz) (Qm κ w post sz) mc ms (Ac w sz)
section LWR
variable {p : Program} {l : Launch} {e : Env} {R : Room} {s : State} {m : MethodId} {args : Array Value} {below : List Frame} {meth : Method} {c : Code} {H : Heap} {locs : List Loc} {cells slots : Nat} {Q : State → Prop}
variable {κ : Kt} {cc : ByteArray} {nL : Nat} {own : String} {ret : Option FieldType} {A : Nat → Prop} {w : va_W}
theorem CMW_begin {y : MethodName} {hh : List (Nat × Nat × Nat × Nat)} {fr lo mc ms : Nat} {av : List Value} {post : Option Value → va_W → Prop} (hy : plainName y.cls = true) (hn : (lg_sl av).length ≤ nL)
    (body : ∀ (p : Program) (e : Env) (s : State) (m : MethodId) (args : Array Value) (below : List Frame) (meth : Method) (c : Code) (A : Nat → Prop) (Q : State → Prop), Cx κ p m c cc nL s args y.cls meth ret A → c.exceptionTable.toList = tableOf hh → (∀ q, A q → Fw w q ∨ s.heap.size ≤ q) → Zm κ below w post args s mc ms = Q → Bd κ A s w s.heap [] → ∀ ls : Array Slot, lv_has ls nL (lv_args 0 av) →
      W p l e (Rm fr lo mc ms) s m args below meth c s.heap [] 0 0 Q (F0 m 0 ls [])) : CMW κ l y cc nL ret hh fr lo mc ms av w post := by
  intro sz
  have h : vx_Met l y (Cond.codeWith y cc nL ret hh :: wAll) (Rm fr lo mc ms) (Pm κ av w sz) (Qm κ w post sz) (fun _ _ _ => False) mc ms (Ac w sz) := by
    refine vx_ofWH (cc := cc) (maxL := nL) (ret := ret) (hh := hh) hy rfl ?_
    intro p e s m args below meth c s₁ B hml hv
    obtain ⟨rfl, hsz, hE, hP, hD⟩ := hv
    subst hsz
    have hts := atoms_spec (ws := Cond.codeWith y cc nL ret hh :: wAll) B.pre
    have hown : s.vm.findClass y.cls = some m.cls := findClass_of_methodNamed B.named
    have hT := vx_table (x := y) B (hts _ List.mem_cons_self)
    have hl := lv_entry av hn
    rw [lg_entry_eq]
    generalize (lg_sl av ++ List.replicate (nL - (lg_sl av).length) Slot.unset).toArray = ls at hl ⊢
    refine vx_ret ?_
    exact body p e s m _ below meth c (Ac w s.heap.size) _ ⟨⟨B.exec, B.bytes, hml, hown, fun x hx => hts x (List.mem_cons_of_mem _ hx)⟩, hE, fun q hq => hq.elim (fun h => D_of hD h) (fun h => Nat.le_trans hE.2.2.2 h), fun q h => Or.inr h, B.returns, B.notSynchronized⟩ hT (fun q h => h) rfl ⟨hP, ⟨hD.1, fun k q hk => Or.inl ⟨q.2, List.mem_of_getElem? hk⟩⟩, va_S.rf⟩ ls hl
  refine MetFree.mono h (fun _ _ hp => hp) (fun _ _ _ _ _ _ => trivial) (fun a st oc t hp hq => ?_)
  rcases hq with hq | ⟨q, ho, E, ce, L, hF, -⟩
  · exact hq
  · exact hF.elim
theorem call_SW {post : Option Value → va_W → Prop} {y : MethodName} {bytes : ByteArray} {hh : List (Nat × Nat × Nat × Nat)} {maxL fr lo mc ms n index pc : Nat} {rt : Option FieldType} {ls : Array Slot} {As rest st0 : List Value} (hX : Cx κ p m c cc nL s args own meth ret A) (hB : Bd κ A s w H locs)
    (hM : CMW κ l y bytes maxL rt hh fr lo mc ms As w post) (hy : Yk y n) (m1 : Cond.methodLink own index y ∈ wAll) (m2 : Cond.static y ∈ wAll) (m4 : Cond.initialized y.cls ∈ wAll) (m5 : Cond.codeWith y bytes maxL rt hh ∈ wAll)
    (hR : fr + 1 ≤ R.frames ∧ 8 + (maxL + 11) + lo ≤ R.locals) (hf : cells + mc ≤ R.cells ∧ slots + ms ≤ R.slots)
    (hn : As.length = n) (hl : ls.size = nL) (hst : st0 = As.reverse ++ rest) (hcat : (rest.map fun v => v.category).sum ≤ 8) (hdg : decode cc pc = .ok (.invokestatic index, 3))
    (kk : ∀ (r : Option Value) (w' : va_W) (H1 : Heap) (locs1 : List Loc), post r w' → Bd κ A s w' H1 locs1 → W p l e R s m args below meth c H1 locs1 (cells + mc) (slots + ms) Q (F0 m (pc + 3) ls (r.toList ++ rest))) : W p l e R s m args below meth c H locs cells slots Q (F0 m pc ls st0) := by
  have ht := hX.1.2.2.2.2
  have hG : GoodIn wAll (Cond.codeWith y bytes maxL rt hh :: wAll) := fun w hw => by
    rcases List.mem_cons.mp hw with rfl | hw
    · exact ⟨m5, good_of_word (wAll_good m5)⟩
    · exact ⟨hw, good_of_word (wAll_good hw)⟩
  refine CM_after hX hB (vx_runSW (As := As) (rest := rest) (nL := nL) (own := own) hX.1 (hM H.size) ⟨⟨rfl, rfl, hR.1, hR.2, pay_in ht hG, List.mem_cons_self⟩, ht _ m5, ht _ m4, ⟨hy.1, hy.2.1⟩, fun sig h => ?_, ht _ m1, ht _ m2⟩ ⟨Pm_blind, Pm_at hX hB⟩ rfl hn hl hst (lv_room hcat) hdg hf) kk
  have h2 := hy.2.2
  rw [h] at h2
  exact (Option.some.inj h2).symm
theorem pfN {k0 ci N b index pc : Nat} {C host : String} {T : u_T} {fs : List Value} {ty : FieldType} {v : Value} {ls : Array Slot} {rest : List Value} (hX : Cx κ p m c cc nL s args own meth ret A) (hB : Bd κ A s w H locs) (he : w[k0]? = some (b, .inr (ci, fs))) (hc : vwCl[ci]? = some (C, T, N)) (hin : ∀ x ∈ u_ws C T N, x ∈ wAll) {ty0 : Nat → FieldType} (hty : ∀ k, k < N → parseFieldDescriptor (T k).2.2.1 = some (ty0 k)) (hnm : ∀ a, a < N → ∀ b, b < N → a ≠ b → (T a).2.1 ≠ (T b).2.1) (k : Nat) (hk : k < N) (hl : Cond.fieldLinkNest own index C (T k).2.1 (T k).2.2.1 host ∈ wNest) (hs : (T k).1 = C) (hfin : (T k).2.2.2 = false) (hd : ty0 k = ty) (hn : narrow ty v = v) (hfit : fits ty v = true) (hlen : k < fs.length) {w1 : va_W} (hw : w.set k0 (b, .inr (ci, fs.set k v)) = w1) (hdg : decode cc pc = .ok (.putfield index, 3))
    (kk : ∀ (H1 : Heap) (locs1 : List Loc), Bd κ A s w1 H1 locs1 → W p l e R s m args below meth c H1 locs1 cells slots Q (F0 m (pc + 3) ls rest)) : W p l e R s m args below meth c H locs cells slots Q (F0 m pc ls (v :: .ref b :: rest)) := by
  subst hw
  exact va_putN (ref := C) (ty := ty) (host := host) hX.1.1 hX.1.2.1 hX.1.2.2.2.2 hin ty0 hty hnm hX.1.2.2.2.1 hX.2.1.1 hB.1 hB.2.1 hB.2.2 k0 he hc k hk (va_Nw.use rfl (hX.2.1.2.1.use hl)) (fun x h => by rw [hs] at h; exact h) hfin (by rw [hty k hk, hd]) hn hfit hlen hdg (fun H1 locs1 h1 h2 h3 => kk H1 locs1 ⟨h1, h2, h3⟩)
end LWR
theorem in6 : ∀ x ∈ u_ws RX6 TX6 2, x ∈ wAll := by decide +kernel
/-- the law's object for an answer -/
abbrev Ot (o : Nat) (n : Int64) (v : Value) : Nat × va_E := (o, .inr (7, [.long n, v]))
theorem cw_o {κ : Kt} {a : Nat → Nat} {r q : Nat → Int32} {f : Nat → Nat → Int64} {x : Nat × va_E} : (cw κ a r q f ++ [x])[36]? = some x := by
  have h : (cw κ a r q f).length = 36 := by simp [cw]
  rw [List.getElem?_append_right (by omega), h]
  rfl
theorem cw_oS {κ : Kt} {a : Nat → Nat} {r q : Nat → Int32} {f : Nat → Nat → Int64} {x y : Nat × va_E} : (cw κ a r q f ++ [x]).set 36 y = cw κ a r q f ++ [y] := by
  have h : (cw κ a r q f).length = 36 := by simp [cw]
  rw [List.set_append_right _ _ (by omega), h]
  rfl

set_option maxHeartbeats 4000000 in
set_option maxRecDepth 100000 in
theorem w_make (κ : Kt) (l : Launch) (hst : l.stackTraces = false) (a : Nat → Nat) (r q : Nat → Int32) (f : Nat → Nat → Int64) (o : Nat) (n : Int64) (v : Value) (p0 : Int32) (p1 : Int32) (p2 : Int32) (hok : okr r) (Y : CRs) (hY : D_X5_make r q f p0 p1 p2 = Y) : CMW κ l yL_make cL_make 6 (Option.some Jvm.ClassFile.FieldType.int) [(0, 13, 16, 19), (0, 13, 20, 21)] 8 136 2 12 [.ref (a 0), .int p0, .int p1, .int p2, .ref o] (cw κ a r q f ++ [Ot o n v]) (fun u w' => ∃ (k : Int32) (n' : Int64) (v' : Value), u = some (.int k) ∧ (okr r → okr Y.2.2.1) ∧ Y.2.2.2.1 4 = q 4 ∧ Wc ([("java/lang/IndexOutOfBoundsException", 1), ("java/lang/IllegalArgumentException", 2)] : List (String × Int32)) Y.1 Y.2.1 k n' ∧ w' = cw κ a Y.2.2.1 Y.2.2.2.1 Y.2.2.2.2 ++ [Ot o n' v']) := by
  refine CMW_begin (by decide) (Nat.le_of_ble_eq_true rfl) ?_
  intro p e s m args below meth c A Q hX hT hA3 hQ hB ls hl
  have hx := hX.1.1
  have hb := hX.1.2.1
  have hl : lv_has ls 6 [(0, .ref (a 0)), (1, .int p0), (2, .int p1), (3, .int p2), (4, .ref o)] := hl
  refine lv_aload hx hb dL_make_0 (lv_at hl 4 rfl) ?_
  refine lv_aload_n hx hb dL_make_2 rfl (lv_at hl 0 rfl) ?_
  refine lv_iload_n hx hb dL_make_3 rfl (lv_at hl 1 rfl) ?_
  refine lv_iload_n hx hb dL_make_4 rfl (lv_at hl 2 rfl) ?_
  refine lv_iload_n hx hb dL_make_5 rfl (lv_at hl 3 rfl) ?_
  refine CX_after2 hX hB (run_XV (n := 3) (k0 := 0) (As := [.int p0, .int p1, .int p2]) (rest := [.ref o]) hX hB (CX_frame [Ot o n v] (k_X5_make κ l hst a r q f p0 p1 p2 _ _ _ _ _ (hY.trans (te5 Y)))) ⟨rfl, yk_X5_make⟩ wm_2_161 wm_2_162 wm_2_163 wm_1_1 wm_2_164 ⟨Nat.le_of_ble_eq_true rfl, Nat.le_of_ble_eq_true rfl⟩ ⟨Nat.le_of_ble_eq_true rfl, Nat.le_of_ble_eq_true rfl⟩ (app_at cw0) rfl rfl rfl hl.1 rfl (Nat.le_of_ble_eq_true rfl) dL_make_6) (fun E ce q9 w' H locs hp hB hce hcv hcl => ?_) (fun o9 w' H locs hp hB => ?_)
  · obtain ⟨_, ⟨hEE, hE, ho, hq, rfl⟩, rfl⟩ := hp
    rw [hEE] at hE
    rcases List.mem_cons.mp hE with rfl | hE
    · refine vx_catch hX.1.2.2.2.1 [] ⟨0, 13, 16, 19⟩ [⟨0, 13, 20, 21⟩] hT (fun z hz => absurd hz List.not_mem_nil) (by decide) (by decide) (hX.1.2.2.2.2 _ wm_2_159) (va_Nw.use rfl (hX.2.1.2.1.use wn_2_171)) hce hcv hcl ?_
      refine lv_astore (lv' := [(5, .ref q9), (0, .ref (a 0)), (1, .int p0), (2, .int p1), (3, .int p2), (4, .ref o)]) hx hb dL_make_16 hl (by decide) rfl (fun ls hl => ?_)
      refine lv_iconst (v := 1) hx hb dL_make_18 (by decide) ?_
      rw [← hQ]
      exact end_i hX hB hA3 rfl rfl ⟨1, n, v, rfl, ho, hq, Or.inr ⟨("java/lang/IndexOutOfBoundsException", 1), List.mem_cons_self, hEE, rfl⟩, rfl⟩ (Nat.le_of_ble_eq_true rfl) (Nat.le_of_ble_eq_true rfl) dL_make_19
    rcases List.mem_cons.mp hE with rfl | hE
    · refine vx_catch hX.1.2.2.2.1 [⟨0, 13, 16, 19⟩] ⟨0, 13, 20, 21⟩ [] hT (List.forall_mem_cons.mpr ⟨(Or.inr ⟨by decide, "java/lang/IndexOutOfBoundsException", hX.1.2.2.2.2 _ wm_2_159, hX.2.1.2.2.1.2.2.2.2.2.1⟩), fun z hz => absurd hz List.not_mem_nil⟩) (by decide) (by decide) (hX.1.2.2.2.2 _ wm_2_160) (va_Nw.use rfl (hX.2.1.2.1.use wn_3_5)) hce hcv hcl ?_
      refine lv_astore (lv' := [(5, .ref q9), (0, .ref (a 0)), (1, .int p0), (2, .int p1), (3, .int p2), (4, .ref o)]) hx hb dL_make_20 hl (by decide) rfl (fun ls hl => ?_)
      refine lv_iconst (v := 2) hx hb dL_make_22 (by decide) ?_
      rw [← hQ]
      exact end_i hX hB hA3 rfl rfl ⟨2, n, v, rfl, ho, hq, Or.inr ⟨("java/lang/IllegalArgumentException", 2), (List.mem_cons_of_mem _ List.mem_cons_self), hEE, rfl⟩, rfl⟩ (Nat.le_of_ble_eq_true rfl) (Nat.le_of_ble_eq_true rfl) dL_make_23
    exact absurd hE List.not_mem_nil
  · obtain ⟨_, ⟨hE0, rfl, ho, hq, rfl⟩, rfl⟩ := hp
    refine W.eq (g2 := F0 m 9 ls [.int Y.2.1, .ref o]) rfl ?_
    refine lv_i2l hx hb dL_make_9 rfl ?_
    refine pfN (ty := .long) (k0 := 36) hX hB cw_o rfl in6 tyX6_ok nmX6 0 (by decide) wn_2_149 rfl rfl rfl rfl rfl (Nat.le_of_ble_eq_true rfl) (w1 := cw κ a Y.2.2.1 Y.2.2.2.1 Y.2.2.2.2 ++ [Ot o (Y.2.1.toInt64) v]) cw_oS dL_make_10 (fun H locs hB => ?_)
    refine lv_goto (tgt := 24) hx hb dL_make_13 (by decide) ?_
    refine lv_iconst (v := 0) hx hb dL_make_24 (by decide) ?_
    rw [← hQ]
    exact end_i hX hB hA3 rfl rfl ⟨0, (Y.2.1.toInt64), v, rfl, ho, hq, Or.inl ⟨hE0, rfl, rfl⟩, rfl⟩ (Nat.le_of_ble_eq_true rfl) (Nat.le_of_ble_eq_true rfl) dL_make_25
set_option maxHeartbeats 4000000 in
set_option maxRecDepth 100000 in
theorem w_unit (κ : Kt) (l : Launch) (hst : l.stackTraces = false) (a : Nat → Nat) (r q : Nat → Int32) (f : Nat → Nat → Int64) (o : Nat) (n : Int64) (v : Value) (p0 : Int32) (p1 : Int32) (hok : okr r) (Y : CRs) (hY : D_X5_unit r q f p0 p1 = Y) : CMW κ l yL_unit cL_unit 5 (Option.some Jvm.ClassFile.FieldType.int) [(0, 11, 14, 19), (0, 11, 18, 21)] 8 135 2 12 [.ref (a 0), .int p0, .int p1, .ref o] (cw κ a r q f ++ [Ot o n v]) (fun u w' => ∃ (k : Int32) (n' : Int64) (v' : Value), u = some (.int k) ∧ (okr r → okr Y.2.2.1) ∧ Y.2.2.2.1 4 = q 4 ∧ Wc ([("java/lang/IndexOutOfBoundsException", 1), ("java/lang/IllegalArgumentException", 2)] : List (String × Int32)) Y.1 Y.2.1 k n' ∧ w' = cw κ a Y.2.2.1 Y.2.2.2.1 Y.2.2.2.2 ++ [Ot o n' v']) := by
  refine CMW_begin (by decide) (Nat.le_of_ble_eq_true rfl) ?_
  intro p e s m args below meth c A Q hX hT hA3 hQ hB ls hl
  have hx := hX.1.1
  have hb := hX.1.2.1
  have hl : lv_has ls 5 [(0, .ref (a 0)), (1, .int p0), (2, .int p1), (3, .ref o)] := hl
  refine lv_aload_n hx hb dL_unit_0 rfl (lv_at hl 3 rfl) ?_
  refine lv_aload_n hx hb dL_unit_1 rfl (lv_at hl 0 rfl) ?_
  refine lv_iload_n hx hb dL_unit_2 rfl (lv_at hl 1 rfl) ?_
  refine lv_iload_n hx hb dL_unit_3 rfl (lv_at hl 2 rfl) ?_
  refine CX_after2 hX hB (run_XV (n := 2) (k0 := 0) (As := [.int p0, .int p1]) (rest := [.ref o]) hX hB (CX_frame [Ot o n v] (k_X5_unit κ l hst a r q f p0 p1 _ _ _ _ _ (hY.trans (te5 Y)))) ⟨rfl, yk_X5_unit⟩ wm_3_31 wm_3_32 wm_3_33 wm_1_1 wm_3_34 ⟨Nat.le_of_ble_eq_true rfl, Nat.le_of_ble_eq_true rfl⟩ ⟨Nat.le_of_ble_eq_true rfl, Nat.le_of_ble_eq_true rfl⟩ (app_at cw0) rfl rfl rfl hl.1 rfl (Nat.le_of_ble_eq_true rfl) dL_unit_4) (fun E ce q9 w' H locs hp hB hce hcv hcl => ?_) (fun o9 w' H locs hp hB => ?_)
  · obtain ⟨_, ⟨hEE, hE, ho, hq, rfl⟩, rfl⟩ := hp
    rw [hEE] at hE
    rcases List.mem_cons.mp hE with rfl | hE
    · refine vx_catch hX.1.2.2.2.1 [] ⟨0, 11, 14, 19⟩ [⟨0, 11, 18, 21⟩] hT (fun z hz => absurd hz List.not_mem_nil) (by decide) (by decide) (hX.1.2.2.2.2 _ wm_2_159) (va_Nw.use rfl (hX.2.1.2.1.use wn_2_171)) hce hcv hcl ?_
      refine lv_astore (lv' := [(4, .ref q9), (0, .ref (a 0)), (1, .int p0), (2, .int p1), (3, .ref o)]) hx hb dL_unit_14 hl (by decide) rfl (fun ls hl => ?_)
      refine lv_iconst (v := 1) hx hb dL_unit_16 (by decide) ?_
      rw [← hQ]
      exact end_i hX hB hA3 rfl rfl ⟨1, n, v, rfl, ho, hq, Or.inr ⟨("java/lang/IndexOutOfBoundsException", 1), List.mem_cons_self, hEE, rfl⟩, rfl⟩ (Nat.le_of_ble_eq_true rfl) (Nat.le_of_ble_eq_true rfl) dL_unit_17
    rcases List.mem_cons.mp hE with rfl | hE
    · refine vx_catch hX.1.2.2.2.1 [⟨0, 11, 14, 19⟩] ⟨0, 11, 18, 21⟩ [] hT (List.forall_mem_cons.mpr ⟨(Or.inr ⟨by decide, "java/lang/IndexOutOfBoundsException", hX.1.2.2.2.2 _ wm_2_159, hX.2.1.2.2.1.2.2.2.2.2.1⟩), fun z hz => absurd hz List.not_mem_nil⟩) (by decide) (by decide) (hX.1.2.2.2.2 _ wm_2_160) (va_Nw.use rfl (hX.2.1.2.1.use wn_3_5)) hce hcv hcl ?_
      refine lv_astore (lv' := [(4, .ref q9), (0, .ref (a 0)), (1, .int p0), (2, .int p1), (3, .ref o)]) hx hb dL_unit_18 hl (by decide) rfl (fun ls hl => ?_)
      refine lv_iconst (v := 2) hx hb dL_unit_20 (by decide) ?_
      rw [← hQ]
      exact end_i hX hB hA3 rfl rfl ⟨2, n, v, rfl, ho, hq, Or.inr ⟨("java/lang/IllegalArgumentException", 2), (List.mem_cons_of_mem _ List.mem_cons_self), hEE, rfl⟩, rfl⟩ (Nat.le_of_ble_eq_true rfl) (Nat.le_of_ble_eq_true rfl) dL_unit_21
    exact absurd hE List.not_mem_nil
  · obtain ⟨_, ⟨hE0, rfl, ho, hq, rfl⟩, rfl⟩ := hp
    refine W.eq (g2 := F0 m 7 ls [.int Y.2.1, .ref o]) rfl ?_
    refine lv_i2l hx hb dL_unit_7 rfl ?_
    refine pfN (ty := .long) (k0 := 36) hX hB cw_o rfl in6 tyX6_ok nmX6 0 (by decide) wn_2_149 rfl rfl rfl rfl rfl (Nat.le_of_ble_eq_true rfl) (w1 := cw κ a Y.2.2.1 Y.2.2.2.1 Y.2.2.2.2 ++ [Ot o (Y.2.1.toInt64) v]) cw_oS dL_unit_8 (fun H locs hB => ?_)
    refine lv_goto (tgt := 22) hx hb dL_unit_11 (by decide) ?_
    refine lv_iconst (v := 0) hx hb dL_unit_22 (by decide) ?_
    rw [← hQ]
    exact end_i hX hB hA3 rfl rfl ⟨0, (Y.2.1.toInt64), v, rfl, ho, hq, Or.inl ⟨hE0, rfl, rfl⟩, rfl⟩ (Nat.le_of_ble_eq_true rfl) (Nat.le_of_ble_eq_true rfl) dL_unit_23
set_option maxHeartbeats 4000000 in
set_option maxRecDepth 100000 in
theorem w_put (κ : Kt) (l : Launch) (hst : l.stackTraces = false) (a : Nat → Nat) (r q : Nat → Int32) (f : Nat → Nat → Int64) (o : Nat) (n : Int64) (v : Value) (p0 : Int32) (p1 : Int32) (p2 : Int32) (p3 : Int32) (hok : okr r) (Y : CRs) (hY : D_X5_put r q f p0 p1 p2 p3 = Y) : CMW κ l yL_put cL_put 7 (Option.some Jvm.ClassFile.FieldType.int) [(0, 15, 18, 19), (0, 15, 22, 21)] 8 137 3 18 [.ref (a 0), .int p0, .int p1, .int p2, .int p3, .ref o] (cw κ a r q f ++ [Ot o n v]) (fun u w' => ∃ (k : Int32) (n' : Int64) (v' : Value), u = some (.int k) ∧ (okr r → okr Y.2.2.1) ∧ Y.2.2.2.1 4 = q 4 ∧ Wc ([("java/lang/IndexOutOfBoundsException", 1), ("java/lang/IllegalArgumentException", 2)] : List (String × Int32)) Y.1 Y.2.1 k n' ∧ w' = cw κ a Y.2.2.1 Y.2.2.2.1 Y.2.2.2.2 ++ [Ot o n' v']) := by
  refine CMW_begin (by decide) (Nat.le_of_ble_eq_true rfl) ?_
  intro p e s m args below meth c A Q hX hT hA3 hQ hB ls hl
  have hx := hX.1.1
  have hb := hX.1.2.1
  have hl : lv_has ls 7 [(0, .ref (a 0)), (1, .int p0), (2, .int p1), (3, .int p2), (4, .int p3), (5, .ref o)] := hl
  refine lv_aload hx hb dL_put_0 (lv_at hl 5 rfl) ?_
  refine lv_aload_n hx hb dL_put_2 rfl (lv_at hl 0 rfl) ?_
  refine lv_iload_n hx hb dL_put_3 rfl (lv_at hl 1 rfl) ?_
  refine lv_iload_n hx hb dL_put_4 rfl (lv_at hl 2 rfl) ?_
  refine lv_iload_n hx hb dL_put_5 rfl (lv_at hl 3 rfl) ?_
  refine lv_iload hx hb dL_put_6 (lv_at hl 4 rfl) ?_
  refine CX_after2 hX hB (run_XV (n := 4) (k0 := 0) (As := [.int p0, .int p1, .int p2, .int p3]) (rest := [.ref o]) hX hB (CX_frame [Ot o n v] (k_X5_put κ l hst a r q f p0 p1 p2 p3 _ _ _ _ _ (hY.trans (te5 Y)))) ⟨rfl, yk_X5_put⟩ wm_3_39 wm_3_40 wm_3_41 wm_1_1 wm_3_42 ⟨Nat.le_of_ble_eq_true rfl, Nat.le_of_ble_eq_true rfl⟩ ⟨Nat.le_of_ble_eq_true rfl, Nat.le_of_ble_eq_true rfl⟩ (app_at cw0) rfl rfl rfl hl.1 rfl (Nat.le_of_ble_eq_true rfl) dL_put_8) (fun E ce q9 w' H locs hp hB hce hcv hcl => ?_) (fun o9 w' H locs hp hB => ?_)
  · obtain ⟨_, ⟨hEE, hE, ho, hq, rfl⟩, rfl⟩ := hp
    rw [hEE] at hE
    rcases List.mem_cons.mp hE with rfl | hE
    · refine vx_catch hX.1.2.2.2.1 [] ⟨0, 15, 18, 19⟩ [⟨0, 15, 22, 21⟩] hT (fun z hz => absurd hz List.not_mem_nil) (by decide) (by decide) (hX.1.2.2.2.2 _ wm_2_159) (va_Nw.use rfl (hX.2.1.2.1.use wn_2_171)) hce hcv hcl ?_
      refine lv_astore (lv' := [(6, .ref q9), (0, .ref (a 0)), (1, .int p0), (2, .int p1), (3, .int p2), (4, .int p3), (5, .ref o)]) hx hb dL_put_18 hl (by decide) rfl (fun ls hl => ?_)
      refine lv_iconst (v := 1) hx hb dL_put_20 (by decide) ?_
      rw [← hQ]
      exact end_i hX hB hA3 rfl rfl ⟨1, n, v, rfl, ho, hq, Or.inr ⟨("java/lang/IndexOutOfBoundsException", 1), List.mem_cons_self, hEE, rfl⟩, rfl⟩ (Nat.le_of_ble_eq_true rfl) (Nat.le_of_ble_eq_true rfl) dL_put_21
    rcases List.mem_cons.mp hE with rfl | hE
    · refine vx_catch hX.1.2.2.2.1 [⟨0, 15, 18, 19⟩] ⟨0, 15, 22, 21⟩ [] hT (List.forall_mem_cons.mpr ⟨(Or.inr ⟨by decide, "java/lang/IndexOutOfBoundsException", hX.1.2.2.2.2 _ wm_2_159, hX.2.1.2.2.1.2.2.2.2.2.1⟩), fun z hz => absurd hz List.not_mem_nil⟩) (by decide) (by decide) (hX.1.2.2.2.2 _ wm_2_160) (va_Nw.use rfl (hX.2.1.2.1.use wn_3_5)) hce hcv hcl ?_
      refine lv_astore (lv' := [(6, .ref q9), (0, .ref (a 0)), (1, .int p0), (2, .int p1), (3, .int p2), (4, .int p3), (5, .ref o)]) hx hb dL_put_22 hl (by decide) rfl (fun ls hl => ?_)
      refine lv_iconst (v := 2) hx hb dL_put_24 (by decide) ?_
      rw [← hQ]
      exact end_i hX hB hA3 rfl rfl ⟨2, n, v, rfl, ho, hq, Or.inr ⟨("java/lang/IllegalArgumentException", 2), (List.mem_cons_of_mem _ List.mem_cons_self), hEE, rfl⟩, rfl⟩ (Nat.le_of_ble_eq_true rfl) (Nat.le_of_ble_eq_true rfl) dL_put_25
    exact absurd hE List.not_mem_nil
  · obtain ⟨_, ⟨hE0, rfl, ho, hq, rfl⟩, rfl⟩ := hp
    refine W.eq (g2 := F0 m 11 ls [.int Y.2.1, .ref o]) rfl ?_
    refine lv_i2l hx hb dL_put_11 rfl ?_
    refine pfN (ty := .long) (k0 := 36) hX hB cw_o rfl in6 tyX6_ok nmX6 0 (by decide) wn_2_149 rfl rfl rfl rfl rfl (Nat.le_of_ble_eq_true rfl) (w1 := cw κ a Y.2.2.1 Y.2.2.2.1 Y.2.2.2.2 ++ [Ot o (Y.2.1.toInt64) v]) cw_oS dL_put_12 (fun H locs hB => ?_)
    refine lv_goto (tgt := 26) hx hb dL_put_15 (by decide) ?_
    refine lv_iconst (v := 0) hx hb dL_put_26 (by decide) ?_
    rw [← hQ]
    exact end_i hX hB hA3 rfl rfl ⟨0, (Y.2.1.toInt64), v, rfl, ho, hq, Or.inl ⟨hE0, rfl, rfl⟩, rfl⟩ (Nat.le_of_ble_eq_true rfl) (Nat.le_of_ble_eq_true rfl) dL_put_27
set_option maxHeartbeats 4000000 in
set_option maxRecDepth 100000 in
theorem w_sow (κ : Kt) (l : Launch) (hst : l.stackTraces = false) (a : Nat → Nat) (r q : Nat → Int32) (f : Nat → Nat → Int64) (o : Nat) (n : Int64) (v : Value) (p0 : Int32) (p1 : Int32) (p2 : Int32) (hok : okr r) (Y : CRs) (hY : D_X5_sow r q f p0 p1 p2 = Y) : CMW κ l yL_sow cL_sow 6 (Option.some Jvm.ClassFile.FieldType.int) [(0, 13, 16, 19), (0, 13, 20, 21)] 8 138 2 12 [.ref (a 0), .int p0, .int p1, .int p2, .ref o] (cw κ a r q f ++ [Ot o n v]) (fun u w' => ∃ (k : Int32) (n' : Int64) (v' : Value), u = some (.int k) ∧ (okr r → okr Y.2.2.1) ∧ Y.2.2.2.1 4 = q 4 ∧ Wc ([("java/lang/IndexOutOfBoundsException", 1), ("java/lang/IllegalArgumentException", 2)] : List (String × Int32)) Y.1 Y.2.1 k n' ∧ w' = cw κ a Y.2.2.1 Y.2.2.2.1 Y.2.2.2.2 ++ [Ot o n' v']) := by
  refine CMW_begin (by decide) (Nat.le_of_ble_eq_true rfl) ?_
  intro p e s m args below meth c A Q hX hT hA3 hQ hB ls hl
  have hx := hX.1.1
  have hb := hX.1.2.1
  have hl : lv_has ls 6 [(0, .ref (a 0)), (1, .int p0), (2, .int p1), (3, .int p2), (4, .ref o)] := hl
  refine lv_aload hx hb dL_sow_0 (lv_at hl 4 rfl) ?_
  refine lv_aload_n hx hb dL_sow_2 rfl (lv_at hl 0 rfl) ?_
  refine lv_iload_n hx hb dL_sow_3 rfl (lv_at hl 1 rfl) ?_
  refine lv_iload_n hx hb dL_sow_4 rfl (lv_at hl 2 rfl) ?_
  refine lv_iload_n hx hb dL_sow_5 rfl (lv_at hl 3 rfl) ?_
  refine CX_after2 hX hB (run_XV (n := 3) (k0 := 0) (As := [.int p0, .int p1, .int p2]) (rest := [.ref o]) hX hB (CX_frame [Ot o n v] (k_X5_sow κ l hst a r q f p0 p1 p2 _ _ _ _ _ (hY.trans (te5 Y)))) ⟨rfl, yk_X5_sow⟩ wm_3_55 wm_3_56 wm_3_57 wm_1_1 wm_3_58 ⟨Nat.le_of_ble_eq_true rfl, Nat.le_of_ble_eq_true rfl⟩ ⟨Nat.le_of_ble_eq_true rfl, Nat.le_of_ble_eq_true rfl⟩ (app_at cw0) rfl rfl rfl hl.1 rfl (Nat.le_of_ble_eq_true rfl) dL_sow_6) (fun E ce q9 w' H locs hp hB hce hcv hcl => ?_) (fun o9 w' H locs hp hB => ?_)
  · obtain ⟨_, ⟨hEE, hE, ho, hq, rfl⟩, rfl⟩ := hp
    rw [hEE] at hE
    rcases List.mem_cons.mp hE with rfl | hE
    · refine vx_catch hX.1.2.2.2.1 [] ⟨0, 13, 16, 19⟩ [⟨0, 13, 20, 21⟩] hT (fun z hz => absurd hz List.not_mem_nil) (by decide) (by decide) (hX.1.2.2.2.2 _ wm_2_159) (va_Nw.use rfl (hX.2.1.2.1.use wn_2_171)) hce hcv hcl ?_
      refine lv_astore (lv' := [(5, .ref q9), (0, .ref (a 0)), (1, .int p0), (2, .int p1), (3, .int p2), (4, .ref o)]) hx hb dL_sow_16 hl (by decide) rfl (fun ls hl => ?_)
      refine lv_iconst (v := 1) hx hb dL_sow_18 (by decide) ?_
      rw [← hQ]
      exact end_i hX hB hA3 rfl rfl ⟨1, n, v, rfl, ho, hq, Or.inr ⟨("java/lang/IndexOutOfBoundsException", 1), List.mem_cons_self, hEE, rfl⟩, rfl⟩ (Nat.le_of_ble_eq_true rfl) (Nat.le_of_ble_eq_true rfl) dL_sow_19
    rcases List.mem_cons.mp hE with rfl | hE
    · refine vx_catch hX.1.2.2.2.1 [⟨0, 13, 16, 19⟩] ⟨0, 13, 20, 21⟩ [] hT (List.forall_mem_cons.mpr ⟨(Or.inr ⟨by decide, "java/lang/IndexOutOfBoundsException", hX.1.2.2.2.2 _ wm_2_159, hX.2.1.2.2.1.2.2.2.2.2.1⟩), fun z hz => absurd hz List.not_mem_nil⟩) (by decide) (by decide) (hX.1.2.2.2.2 _ wm_2_160) (va_Nw.use rfl (hX.2.1.2.1.use wn_3_5)) hce hcv hcl ?_
      refine lv_astore (lv' := [(5, .ref q9), (0, .ref (a 0)), (1, .int p0), (2, .int p1), (3, .int p2), (4, .ref o)]) hx hb dL_sow_20 hl (by decide) rfl (fun ls hl => ?_)
      refine lv_iconst (v := 2) hx hb dL_sow_22 (by decide) ?_
      rw [← hQ]
      exact end_i hX hB hA3 rfl rfl ⟨2, n, v, rfl, ho, hq, Or.inr ⟨("java/lang/IllegalArgumentException", 2), (List.mem_cons_of_mem _ List.mem_cons_self), hEE, rfl⟩, rfl⟩ (Nat.le_of_ble_eq_true rfl) (Nat.le_of_ble_eq_true rfl) dL_sow_23
    exact absurd hE List.not_mem_nil
  · obtain ⟨_, ⟨hE0, rfl, ho, hq, rfl⟩, rfl⟩ := hp
    refine W.eq (g2 := F0 m 9 ls [.int Y.2.1, .ref o]) rfl ?_
    refine lv_i2l hx hb dL_sow_9 rfl ?_
    refine pfN (ty := .long) (k0 := 36) hX hB cw_o rfl in6 tyX6_ok nmX6 0 (by decide) wn_2_149 rfl rfl rfl rfl rfl (Nat.le_of_ble_eq_true rfl) (w1 := cw κ a Y.2.2.1 Y.2.2.2.1 Y.2.2.2.2 ++ [Ot o (Y.2.1.toInt64) v]) cw_oS dL_sow_10 (fun H locs hB => ?_)
    refine lv_goto (tgt := 24) hx hb dL_sow_13 (by decide) ?_
    refine lv_iconst (v := 0) hx hb dL_sow_24 (by decide) ?_
    rw [← hQ]
    exact end_i hX hB hA3 rfl rfl ⟨0, (Y.2.1.toInt64), v, rfl, ho, hq, Or.inl ⟨hE0, rfl, rfl⟩, rfl⟩ (Nat.le_of_ble_eq_true rfl) (Nat.le_of_ble_eq_true rfl) dL_sow_25
set_option maxHeartbeats 4000000 in
set_option maxRecDepth 100000 in
theorem w_copy (κ : Kt) (l : Launch) (hst : l.stackTraces = false) (a : Nat → Nat) (r q : Nat → Int32) (f : Nat → Nat → Int64) (o : Nat) (n : Int64) (v : Value) (p0 : Int32) (p1 : Int32) (hok : okr r) (Y : CRs) (hY : D_X5_copy r q f p0 p1 = Y) : CMW κ l yL_copy cL_copy 5 (Option.some Jvm.ClassFile.FieldType.int) [(0, 11, 14, 19)] 8 136 2 12 [.ref (a 0), .int p0, .int p1, .ref o] (cw κ a r q f ++ [Ot o n v]) (fun u w' => ∃ (k : Int32) (n' : Int64) (v' : Value), u = some (.int k) ∧ (okr r → okr Y.2.2.1) ∧ Y.2.2.2.1 4 = q 4 ∧ Wc ([("java/lang/IndexOutOfBoundsException", 1)] : List (String × Int32)) Y.1 Y.2.1 k n' ∧ w' = cw κ a Y.2.2.1 Y.2.2.2.1 Y.2.2.2.2 ++ [Ot o n' v']) := by
  refine CMW_begin (by decide) (Nat.le_of_ble_eq_true rfl) ?_
  intro p e s m args below meth c A Q hX hT hA3 hQ hB ls hl
  have hx := hX.1.1
  have hb := hX.1.2.1
  have hl : lv_has ls 5 [(0, .ref (a 0)), (1, .int p0), (2, .int p1), (3, .ref o)] := hl
  refine lv_aload_n hx hb dL_copy_0 rfl (lv_at hl 3 rfl) ?_
  refine lv_aload_n hx hb dL_copy_1 rfl (lv_at hl 0 rfl) ?_
  refine lv_iload_n hx hb dL_copy_2 rfl (lv_at hl 1 rfl) ?_
  refine lv_iload_n hx hb dL_copy_3 rfl (lv_at hl 2 rfl) ?_
  refine CX_after2 hX hB (run_XV (n := 2) (k0 := 0) (As := [.int p0, .int p1]) (rest := [.ref o]) hX hB (CX_frame [Ot o n v] (k_X5_copy κ l hst a r q f p0 p1 _ _ _ _ _ (hY.trans (te5 Y)))) ⟨rfl, yk_X5_copy⟩ wm_3_70 wm_3_71 wm_3_72 wm_1_1 wm_3_73 ⟨Nat.le_of_ble_eq_true rfl, Nat.le_of_ble_eq_true rfl⟩ ⟨Nat.le_of_ble_eq_true rfl, Nat.le_of_ble_eq_true rfl⟩ (app_at cw0) rfl rfl rfl hl.1 rfl (Nat.le_of_ble_eq_true rfl) dL_copy_4) (fun E ce q9 w' H locs hp hB hce hcv hcl => ?_) (fun o9 w' H locs hp hB => ?_)
  · obtain ⟨_, ⟨hEE, hE, ho, hq, rfl⟩, rfl⟩ := hp
    rw [hEE] at hE
    rcases List.mem_cons.mp hE with rfl | hE
    · refine vx_catch hX.1.2.2.2.1 [] ⟨0, 11, 14, 19⟩ [] hT (fun z hz => absurd hz List.not_mem_nil) (by decide) (by decide) (hX.1.2.2.2.2 _ wm_2_159) (va_Nw.use rfl (hX.2.1.2.1.use wn_2_171)) hce hcv hcl ?_
      refine lv_astore (lv' := [(4, .ref q9), (0, .ref (a 0)), (1, .int p0), (2, .int p1), (3, .ref o)]) hx hb dL_copy_14 hl (by decide) rfl (fun ls hl => ?_)
      refine lv_iconst (v := 1) hx hb dL_copy_16 (by decide) ?_
      rw [← hQ]
      exact end_i hX hB hA3 rfl rfl ⟨1, n, v, rfl, ho, hq, Or.inr ⟨("java/lang/IndexOutOfBoundsException", 1), List.mem_cons_self, hEE, rfl⟩, rfl⟩ (Nat.le_of_ble_eq_true rfl) (Nat.le_of_ble_eq_true rfl) dL_copy_17
    exact absurd hE List.not_mem_nil
  · obtain ⟨_, ⟨hE0, rfl, ho, hq, rfl⟩, rfl⟩ := hp
    refine W.eq (g2 := F0 m 7 ls [.int Y.2.1, .ref o]) rfl ?_
    refine lv_i2l hx hb dL_copy_7 rfl ?_
    refine pfN (ty := .long) (k0 := 36) hX hB cw_o rfl in6 tyX6_ok nmX6 0 (by decide) wn_2_149 rfl rfl rfl rfl rfl (Nat.le_of_ble_eq_true rfl) (w1 := cw κ a Y.2.2.1 Y.2.2.2.1 Y.2.2.2.2 ++ [Ot o (Y.2.1.toInt64) v]) cw_oS dL_copy_8 (fun H locs hB => ?_)
    refine lv_goto (tgt := 18) hx hb dL_copy_11 (by decide) ?_
    refine lv_iconst (v := 0) hx hb dL_copy_18 (by decide) ?_
    rw [← hQ]
    exact end_i hX hB hA3 rfl rfl ⟨0, (Y.2.1.toInt64), v, rfl, ho, hq, Or.inl ⟨hE0, rfl, rfl⟩, rfl⟩ (Nat.le_of_ble_eq_true rfl) (Nat.le_of_ble_eq_true rfl) dL_copy_19
set_option maxHeartbeats 4000000 in
set_option maxRecDepth 100000 in
theorem w_swap (κ : Kt) (l : Launch) (hst : l.stackTraces = false) (a : Nat → Nat) (r q : Nat → Int32) (f : Nat → Nat → Int64) (o : Nat) (n : Int64) (v : Value) (p0 : Int32) (p1 : Int32) (hok : okr r) (Y : CRs) (hY : D_X5_swap r q f p0 p1 = Y) : CMW κ l yL_swap cL_swap 5 (Option.some Jvm.ClassFile.FieldType.int) [(0, 11, 14, 19)] 8 136 2 12 [.ref (a 0), .int p0, .int p1, .ref o] (cw κ a r q f ++ [Ot o n v]) (fun u w' => ∃ (k : Int32) (n' : Int64) (v' : Value), u = some (.int k) ∧ (okr r → okr Y.2.2.1) ∧ Y.2.2.2.1 4 = q 4 ∧ Wc ([("java/lang/IndexOutOfBoundsException", 1)] : List (String × Int32)) Y.1 Y.2.1 k n' ∧ w' = cw κ a Y.2.2.1 Y.2.2.2.1 Y.2.2.2.2 ++ [Ot o n' v']) := by
  refine CMW_begin (by decide) (Nat.le_of_ble_eq_true rfl) ?_
  intro p e s m args below meth c A Q hX hT hA3 hQ hB ls hl
  have hx := hX.1.1
  have hb := hX.1.2.1
  have hl : lv_has ls 5 [(0, .ref (a 0)), (1, .int p0), (2, .int p1), (3, .ref o)] := hl
  refine lv_aload_n hx hb dL_swap_0 rfl (lv_at hl 3 rfl) ?_
  refine lv_aload_n hx hb dL_swap_1 rfl (lv_at hl 0 rfl) ?_
  refine lv_iload_n hx hb dL_swap_2 rfl (lv_at hl 1 rfl) ?_
  refine lv_iload_n hx hb dL_swap_3 rfl (lv_at hl 2 rfl) ?_
  refine CX_after2 hX hB (run_XV (n := 2) (k0 := 0) (As := [.int p0, .int p1]) (rest := [.ref o]) hX hB (CX_frame [Ot o n v] (k_X5_swap κ l hst a r q f p0 p1 _ _ _ _ _ (hY.trans (te5 Y)))) ⟨rfl, yk_X5_swap⟩ wm_3_78 wm_3_79 wm_3_80 wm_1_1 wm_3_81 ⟨Nat.le_of_ble_eq_true rfl, Nat.le_of_ble_eq_true rfl⟩ ⟨Nat.le_of_ble_eq_true rfl, Nat.le_of_ble_eq_true rfl⟩ (app_at cw0) rfl rfl rfl hl.1 rfl (Nat.le_of_ble_eq_true rfl) dL_swap_4) (fun E ce q9 w' H locs hp hB hce hcv hcl => ?_) (fun o9 w' H locs hp hB => ?_)
  · obtain ⟨_, ⟨hEE, hE, ho, hq, rfl⟩, rfl⟩ := hp
    rw [hEE] at hE
    rcases List.mem_cons.mp hE with rfl | hE
    · refine vx_catch hX.1.2.2.2.1 [] ⟨0, 11, 14, 19⟩ [] hT (fun z hz => absurd hz List.not_mem_nil) (by decide) (by decide) (hX.1.2.2.2.2 _ wm_2_159) (va_Nw.use rfl (hX.2.1.2.1.use wn_2_171)) hce hcv hcl ?_
      refine lv_astore (lv' := [(4, .ref q9), (0, .ref (a 0)), (1, .int p0), (2, .int p1), (3, .ref o)]) hx hb dL_swap_14 hl (by decide) rfl (fun ls hl => ?_)
      refine lv_iconst (v := 1) hx hb dL_swap_16 (by decide) ?_
      rw [← hQ]
      exact end_i hX hB hA3 rfl rfl ⟨1, n, v, rfl, ho, hq, Or.inr ⟨("java/lang/IndexOutOfBoundsException", 1), List.mem_cons_self, hEE, rfl⟩, rfl⟩ (Nat.le_of_ble_eq_true rfl) (Nat.le_of_ble_eq_true rfl) dL_swap_17
    exact absurd hE List.not_mem_nil
  · obtain ⟨_, ⟨hE0, rfl, ho, hq, rfl⟩, rfl⟩ := hp
    refine W.eq (g2 := F0 m 7 ls [.int Y.2.1, .ref o]) rfl ?_
    refine lv_i2l hx hb dL_swap_7 rfl ?_
    refine pfN (ty := .long) (k0 := 36) hX hB cw_o rfl in6 tyX6_ok nmX6 0 (by decide) wn_2_149 rfl rfl rfl rfl rfl (Nat.le_of_ble_eq_true rfl) (w1 := cw κ a Y.2.2.1 Y.2.2.2.1 Y.2.2.2.2 ++ [Ot o (Y.2.1.toInt64) v]) cw_oS dL_swap_8 (fun H locs hB => ?_)
    refine lv_goto (tgt := 18) hx hb dL_swap_11 (by decide) ?_
    refine lv_iconst (v := 0) hx hb dL_swap_18 (by decide) ?_
    rw [← hQ]
    exact end_i hX hB hA3 rfl rfl ⟨0, (Y.2.1.toInt64), v, rfl, ho, hq, Or.inl ⟨hE0, rfl, rfl⟩, rfl⟩ (Nat.le_of_ble_eq_true rfl) (Nat.le_of_ble_eq_true rfl) dL_swap_19
set_option maxHeartbeats 4000000 in
set_option maxRecDepth 100000 in
theorem w_flip (κ : Kt) (l : Launch) (hst : l.stackTraces = false) (a : Nat → Nat) (r q : Nat → Int32) (f : Nat → Nat → Int64) (o : Nat) (n : Int64) (v : Value) (p0 : Int32) (hok : okr r) (Y : CRs) (hY : D_X5_flip r q f p0 = Y) : CMW κ l yL_flip cL_flip 4 (Option.some Jvm.ClassFile.FieldType.int) [(0, 10, 13, 19)] 8 135 1 6 [.ref (a 0), .int p0, .ref o] (cw κ a r q f ++ [Ot o n v]) (fun u w' => ∃ (k : Int32) (n' : Int64) (v' : Value), u = some (.int k) ∧ (okr r → okr Y.2.2.1) ∧ Y.2.2.2.1 4 = q 4 ∧ Wc ([("java/lang/IndexOutOfBoundsException", 1)] : List (String × Int32)) Y.1 Y.2.1 k n' ∧ w' = cw κ a Y.2.2.1 Y.2.2.2.1 Y.2.2.2.2 ++ [Ot o n' v']) := by
  refine CMW_begin (by decide) (Nat.le_of_ble_eq_true rfl) ?_
  intro p e s m args below meth c A Q hX hT hA3 hQ hB ls hl
  have hx := hX.1.1
  have hb := hX.1.2.1
  have hl : lv_has ls 4 [(0, .ref (a 0)), (1, .int p0), (2, .ref o)] := hl
  refine lv_aload_n hx hb dL_flip_0 rfl (lv_at hl 2 rfl) ?_
  refine lv_aload_n hx hb dL_flip_1 rfl (lv_at hl 0 rfl) ?_
  refine lv_iload_n hx hb dL_flip_2 rfl (lv_at hl 1 rfl) ?_
  refine CX_after2 hX hB (run_XV (n := 1) (k0 := 0) (As := [.int p0]) (rest := [.ref o]) hX hB (CX_frame [Ot o n v] (k_X5_flip κ l hst a r q f p0 _ _ _ _ _ (hY.trans (te5 Y)))) ⟨rfl, yk_X5_flip⟩ wm_3_85 wm_3_86 wm_3_87 wm_1_1 wm_3_88 ⟨Nat.le_of_ble_eq_true rfl, Nat.le_of_ble_eq_true rfl⟩ ⟨Nat.le_of_ble_eq_true rfl, Nat.le_of_ble_eq_true rfl⟩ (app_at cw0) rfl rfl rfl hl.1 rfl (Nat.le_of_ble_eq_true rfl) dL_flip_3) (fun E ce q9 w' H locs hp hB hce hcv hcl => ?_) (fun o9 w' H locs hp hB => ?_)
  · obtain ⟨_, ⟨hEE, hE, ho, hq, rfl⟩, rfl⟩ := hp
    rw [hEE] at hE
    rcases List.mem_cons.mp hE with rfl | hE
    · refine vx_catch hX.1.2.2.2.1 [] ⟨0, 10, 13, 19⟩ [] hT (fun z hz => absurd hz List.not_mem_nil) (by decide) (by decide) (hX.1.2.2.2.2 _ wm_2_159) (va_Nw.use rfl (hX.2.1.2.1.use wn_2_171)) hce hcv hcl ?_
      refine lv_astore_n (lv' := [(3, .ref q9), (0, .ref (a 0)), (1, .int p0), (2, .ref o)]) hx hb dL_flip_13 rfl hl (by decide) rfl (fun ls hl => ?_)
      refine lv_iconst (v := 1) hx hb dL_flip_14 (by decide) ?_
      rw [← hQ]
      exact end_i hX hB hA3 rfl rfl ⟨1, n, v, rfl, ho, hq, Or.inr ⟨("java/lang/IndexOutOfBoundsException", 1), List.mem_cons_self, hEE, rfl⟩, rfl⟩ (Nat.le_of_ble_eq_true rfl) (Nat.le_of_ble_eq_true rfl) dL_flip_15
    exact absurd hE List.not_mem_nil
  · obtain ⟨_, ⟨hE0, rfl, ho, hq, rfl⟩, rfl⟩ := hp
    refine W.eq (g2 := F0 m 6 ls [.int Y.2.1, .ref o]) rfl ?_
    refine lv_i2l hx hb dL_flip_6 rfl ?_
    refine pfN (ty := .long) (k0 := 36) hX hB cw_o rfl in6 tyX6_ok nmX6 0 (by decide) wn_2_149 rfl rfl rfl rfl rfl (Nat.le_of_ble_eq_true rfl) (w1 := cw κ a Y.2.2.1 Y.2.2.2.1 Y.2.2.2.2 ++ [Ot o (Y.2.1.toInt64) v]) cw_oS dL_flip_7 (fun H locs hB => ?_)
    refine lv_goto (tgt := 16) hx hb dL_flip_10 (by decide) ?_
    refine lv_iconst (v := 0) hx hb dL_flip_16 (by decide) ?_
    rw [← hQ]
    exact end_i hX hB hA3 rfl rfl ⟨0, (Y.2.1.toInt64), v, rfl, ho, hq, Or.inl ⟨hE0, rfl, rfl⟩, rfl⟩ (Nat.le_of_ble_eq_true rfl) (Nat.le_of_ble_eq_true rfl) dL_flip_17
set_option maxHeartbeats 4000000 in
set_option maxRecDepth 100000 in
theorem w_exchange (κ : Kt) (l : Launch) (hst : l.stackTraces = false) (a : Nat → Nat) (r q : Nat → Int32) (f : Nat → Nat → Int64) (o : Nat) (n : Int64) (v : Value) (p0 : Int32) (p1 : Int32) (p2 : Int32) (p3 : Int32) (hok : okr r) (Y : CRs) (hY : D_X5_exchange r q f p0 p1 p2 p3 = Y) : CMW κ l yL_exchange cL_exchange 7 (Option.some Jvm.ClassFile.FieldType.int) [(0, 15, 18, 19)] 8 136 2 12 [.ref (a 0), .int p0, .int p1, .int p2, .int p3, .ref o] (cw κ a r q f ++ [Ot o n v]) (fun u w' => ∃ (k : Int32) (n' : Int64) (v' : Value), u = some (.int k) ∧ (okr r → okr Y.2.2.1) ∧ Y.2.2.2.1 4 = q 4 ∧ Wc ([("java/lang/IndexOutOfBoundsException", 1)] : List (String × Int32)) Y.1 Y.2.1 k n' ∧ w' = cw κ a Y.2.2.1 Y.2.2.2.1 Y.2.2.2.2 ++ [Ot o n' v']) := by
  refine CMW_begin (by decide) (Nat.le_of_ble_eq_true rfl) ?_
  intro p e s m args below meth c A Q hX hT hA3 hQ hB ls hl
  have hx := hX.1.1
  have hb := hX.1.2.1
  have hl : lv_has ls 7 [(0, .ref (a 0)), (1, .int p0), (2, .int p1), (3, .int p2), (4, .int p3), (5, .ref o)] := hl
  refine lv_aload hx hb dL_exchange_0 (lv_at hl 5 rfl) ?_
  refine lv_aload_n hx hb dL_exchange_2 rfl (lv_at hl 0 rfl) ?_
  refine lv_iload_n hx hb dL_exchange_3 rfl (lv_at hl 1 rfl) ?_
  refine lv_iload_n hx hb dL_exchange_4 rfl (lv_at hl 2 rfl) ?_
  refine lv_iload_n hx hb dL_exchange_5 rfl (lv_at hl 3 rfl) ?_
  refine lv_iload hx hb dL_exchange_6 (lv_at hl 4 rfl) ?_
  refine CX_after2 hX hB (run_XV (n := 4) (k0 := 0) (As := [.int p0, .int p1, .int p2, .int p3]) (rest := [.ref o]) hX hB (CX_frame [Ot o n v] (k_X5_exchange κ l hst a r q f p0 p1 p2 p3 _ _ _ _ _ (hY.trans (te5 Y)))) ⟨rfl, yk_X5_exchange⟩ wm_3_92 wm_3_93 wm_3_94 wm_1_1 wm_3_95 ⟨Nat.le_of_ble_eq_true rfl, Nat.le_of_ble_eq_true rfl⟩ ⟨Nat.le_of_ble_eq_true rfl, Nat.le_of_ble_eq_true rfl⟩ (app_at cw0) rfl rfl rfl hl.1 rfl (Nat.le_of_ble_eq_true rfl) dL_exchange_8) (fun E ce q9 w' H locs hp hB hce hcv hcl => ?_) (fun o9 w' H locs hp hB => ?_)
  · obtain ⟨_, ⟨hEE, hE, ho, hq, rfl⟩, rfl⟩ := hp
    rw [hEE] at hE
    rcases List.mem_cons.mp hE with rfl | hE
    · refine vx_catch hX.1.2.2.2.1 [] ⟨0, 15, 18, 19⟩ [] hT (fun z hz => absurd hz List.not_mem_nil) (by decide) (by decide) (hX.1.2.2.2.2 _ wm_2_159) (va_Nw.use rfl (hX.2.1.2.1.use wn_2_171)) hce hcv hcl ?_
      refine lv_astore (lv' := [(6, .ref q9), (0, .ref (a 0)), (1, .int p0), (2, .int p1), (3, .int p2), (4, .int p3), (5, .ref o)]) hx hb dL_exchange_18 hl (by decide) rfl (fun ls hl => ?_)
      refine lv_iconst (v := 1) hx hb dL_exchange_20 (by decide) ?_
      rw [← hQ]
      exact end_i hX hB hA3 rfl rfl ⟨1, n, v, rfl, ho, hq, Or.inr ⟨("java/lang/IndexOutOfBoundsException", 1), List.mem_cons_self, hEE, rfl⟩, rfl⟩ (Nat.le_of_ble_eq_true rfl) (Nat.le_of_ble_eq_true rfl) dL_exchange_21
    exact absurd hE List.not_mem_nil
  · obtain ⟨_, ⟨hE0, rfl, ho, hq, rfl⟩, rfl⟩ := hp
    refine W.eq (g2 := F0 m 11 ls [.int Y.2.1, .ref o]) rfl ?_
    refine lv_i2l hx hb dL_exchange_11 rfl ?_
    refine pfN (ty := .long) (k0 := 36) hX hB cw_o rfl in6 tyX6_ok nmX6 0 (by decide) wn_2_149 rfl rfl rfl rfl rfl (Nat.le_of_ble_eq_true rfl) (w1 := cw κ a Y.2.2.1 Y.2.2.2.1 Y.2.2.2.2 ++ [Ot o (Y.2.1.toInt64) v]) cw_oS dL_exchange_12 (fun H locs hB => ?_)
    refine lv_goto (tgt := 22) hx hb dL_exchange_15 (by decide) ?_
    refine lv_iconst (v := 0) hx hb dL_exchange_22 (by decide) ?_
    rw [← hQ]
    exact end_i hX hB hA3 rfl rfl ⟨0, (Y.2.1.toInt64), v, rfl, ho, hq, Or.inl ⟨hE0, rfl, rfl⟩, rfl⟩ (Nat.le_of_ble_eq_true rfl) (Nat.le_of_ble_eq_true rfl) dL_exchange_23
set_option maxHeartbeats 4000000 in
set_option maxRecDepth 100000 in
theorem w_turn (κ : Kt) (l : Launch) (hst : l.stackTraces = false) (a : Nat → Nat) (r q : Nat → Int32) (f : Nat → Nat → Int64) (o : Nat) (n : Int64) (v : Value) (p0 : Int32) (p1 : Int32) (p2 : Int32) (hok : okr r) (Y : CRs) (hY : D_X5_turn r q f p0 p1 p2 = Y) : CMW κ l yL_turn cL_turn 6 (Option.some Jvm.ClassFile.FieldType.int) [(0, 13, 16, 19)] 8 135 2 12 [.ref (a 0), .int p0, .int p1, .int p2, .ref o] (cw κ a r q f ++ [Ot o n v]) (fun u w' => ∃ (k : Int32) (n' : Int64) (v' : Value), u = some (.int k) ∧ (okr r → okr Y.2.2.1) ∧ Y.2.2.2.1 4 = q 4 ∧ Wc ([("java/lang/IndexOutOfBoundsException", 1)] : List (String × Int32)) Y.1 Y.2.1 k n' ∧ w' = cw κ a Y.2.2.1 Y.2.2.2.1 Y.2.2.2.2 ++ [Ot o n' v']) := by
  refine CMW_begin (by decide) (Nat.le_of_ble_eq_true rfl) ?_
  intro p e s m args below meth c A Q hX hT hA3 hQ hB ls hl
  have hx := hX.1.1
  have hb := hX.1.2.1
  have hl : lv_has ls 6 [(0, .ref (a 0)), (1, .int p0), (2, .int p1), (3, .int p2), (4, .ref o)] := hl
  refine lv_aload hx hb dL_turn_0 (lv_at hl 4 rfl) ?_
  refine lv_aload_n hx hb dL_turn_2 rfl (lv_at hl 0 rfl) ?_
  refine lv_iload_n hx hb dL_turn_3 rfl (lv_at hl 1 rfl) ?_
  refine lv_iload_n hx hb dL_turn_4 rfl (lv_at hl 2 rfl) ?_
  refine lv_iload_n hx hb dL_turn_5 rfl (lv_at hl 3 rfl) ?_
  refine CX_after2 hX hB (run_XV (n := 3) (k0 := 0) (As := [.int p0, .int p1, .int p2]) (rest := [.ref o]) hX hB (CX_frame [Ot o n v] (k_X5_turn κ l hst a r q f p0 p1 p2 _ _ _ _ _ (hY.trans (te5 Y)))) ⟨rfl, yk_X5_turn⟩ wm_3_111 wm_3_112 wm_3_113 wm_1_1 wm_3_114 ⟨Nat.le_of_ble_eq_true rfl, Nat.le_of_ble_eq_true rfl⟩ ⟨Nat.le_of_ble_eq_true rfl, Nat.le_of_ble_eq_true rfl⟩ (app_at cw0) rfl rfl rfl hl.1 rfl (Nat.le_of_ble_eq_true rfl) dL_turn_6) (fun E ce q9 w' H locs hp hB hce hcv hcl => ?_) (fun o9 w' H locs hp hB => ?_)
  · obtain ⟨_, ⟨hEE, hE, ho, hq, rfl⟩, rfl⟩ := hp
    rw [hEE] at hE
    rcases List.mem_cons.mp hE with rfl | hE
    · refine vx_catch hX.1.2.2.2.1 [] ⟨0, 13, 16, 19⟩ [] hT (fun z hz => absurd hz List.not_mem_nil) (by decide) (by decide) (hX.1.2.2.2.2 _ wm_2_159) (va_Nw.use rfl (hX.2.1.2.1.use wn_2_171)) hce hcv hcl ?_
      refine lv_astore (lv' := [(5, .ref q9), (0, .ref (a 0)), (1, .int p0), (2, .int p1), (3, .int p2), (4, .ref o)]) hx hb dL_turn_16 hl (by decide) rfl (fun ls hl => ?_)
      refine lv_iconst (v := 1) hx hb dL_turn_18 (by decide) ?_
      rw [← hQ]
      exact end_i hX hB hA3 rfl rfl ⟨1, n, v, rfl, ho, hq, Or.inr ⟨("java/lang/IndexOutOfBoundsException", 1), List.mem_cons_self, hEE, rfl⟩, rfl⟩ (Nat.le_of_ble_eq_true rfl) (Nat.le_of_ble_eq_true rfl) dL_turn_19
    exact absurd hE List.not_mem_nil
  · obtain ⟨_, ⟨hE0, rfl, ho, hq, rfl⟩, rfl⟩ := hp
    refine W.eq (g2 := F0 m 9 ls [.int Y.2.1, .ref o]) rfl ?_
    refine lv_i2l hx hb dL_turn_9 rfl ?_
    refine pfN (ty := .long) (k0 := 36) hX hB cw_o rfl in6 tyX6_ok nmX6 0 (by decide) wn_2_149 rfl rfl rfl rfl rfl (Nat.le_of_ble_eq_true rfl) (w1 := cw κ a Y.2.2.1 Y.2.2.2.1 Y.2.2.2.2 ++ [Ot o (Y.2.1.toInt64) v]) cw_oS dL_turn_10 (fun H locs hB => ?_)
    refine lv_goto (tgt := 20) hx hb dL_turn_13 (by decide) ?_
    refine lv_iconst (v := 0) hx hb dL_turn_20 (by decide) ?_
    rw [← hQ]
    exact end_i hX hB hA3 rfl rfl ⟨0, (Y.2.1.toInt64), v, rfl, ho, hq, Or.inl ⟨hE0, rfl, rfl⟩, rfl⟩ (Nat.le_of_ble_eq_true rfl) (Nat.le_of_ble_eq_true rfl) dL_turn_21
set_option maxHeartbeats 4000000 in
set_option maxRecDepth 100000 in
theorem w_add (κ : Kt) (l : Launch) (hst : l.stackTraces = false) (a : Nat → Nat) (r q : Nat → Int32) (f : Nat → Nat → Int64) (o : Nat) (n : Int64) (v : Value) (p0 : Int32) (p1 : Int32) (p2 : Int32) (p3 : Int32) (p4 : Int32) (hok : okr r) (Y : CRs) (hY : D_X5_add r q f p0 p1 p2 p3 p4 = Y) : CMW κ l yL_add cL_add 8 (Option.some Jvm.ClassFile.FieldType.int) [(0, 17, 20, 19), (0, 17, 24, 21)] 8 137 3 18 [.ref (a 0), .int p0, .int p1, .int p2, .int p3, .int p4, .ref o] (cw κ a r q f ++ [Ot o n v]) (fun u w' => ∃ (k : Int32) (n' : Int64) (v' : Value), u = some (.int k) ∧ (okr r → okr Y.2.2.1) ∧ Y.2.2.2.1 4 = q 4 ∧ Wc ([("java/lang/IndexOutOfBoundsException", 1), ("java/lang/IllegalArgumentException", 2)] : List (String × Int32)) Y.1 Y.2.1 k n' ∧ w' = cw κ a Y.2.2.1 Y.2.2.2.1 Y.2.2.2.2 ++ [Ot o n' v']) := by
  refine CMW_begin (by decide) (Nat.le_of_ble_eq_true rfl) ?_
  intro p e s m args below meth c A Q hX hT hA3 hQ hB ls hl
  have hx := hX.1.1
  have hb := hX.1.2.1
  have hl : lv_has ls 8 [(0, .ref (a 0)), (1, .int p0), (2, .int p1), (3, .int p2), (4, .int p3), (5, .int p4), (6, .ref o)] := hl
  refine lv_aload hx hb dL_add_0 (lv_at hl 6 rfl) ?_
  refine lv_aload_n hx hb dL_add_2 rfl (lv_at hl 0 rfl) ?_
  refine lv_iload_n hx hb dL_add_3 rfl (lv_at hl 1 rfl) ?_
  refine lv_iload_n hx hb dL_add_4 rfl (lv_at hl 2 rfl) ?_
  refine lv_iload_n hx hb dL_add_5 rfl (lv_at hl 3 rfl) ?_
  refine lv_iload hx hb dL_add_6 (lv_at hl 4 rfl) ?_
  refine lv_iload hx hb dL_add_8 (lv_at hl 5 rfl) ?_
  refine CX_after2 hX hB (run_XV (n := 5) (k0 := 0) (As := [.int p0, .int p1, .int p2, .int p3, .int p4]) (rest := [.ref o]) hX hB (CX_frame [Ot o n v] (k_X5_add κ l hst a r q f p0 p1 p2 p3 p4 _ _ _ _ _ (hY.trans (te5 Y)))) ⟨rfl, yk_X5_add⟩ wm_3_119 wm_3_120 wm_3_121 wm_1_1 wm_3_122 ⟨Nat.le_of_ble_eq_true rfl, Nat.le_of_ble_eq_true rfl⟩ ⟨Nat.le_of_ble_eq_true rfl, Nat.le_of_ble_eq_true rfl⟩ (app_at cw0) rfl rfl rfl hl.1 rfl (Nat.le_of_ble_eq_true rfl) dL_add_10) (fun E ce q9 w' H locs hp hB hce hcv hcl => ?_) (fun o9 w' H locs hp hB => ?_)
  · obtain ⟨_, ⟨hEE, hE, ho, hq, rfl⟩, rfl⟩ := hp
    rw [hEE] at hE
    rcases List.mem_cons.mp hE with rfl | hE
    · refine vx_catch hX.1.2.2.2.1 [] ⟨0, 17, 20, 19⟩ [⟨0, 17, 24, 21⟩] hT (fun z hz => absurd hz List.not_mem_nil) (by decide) (by decide) (hX.1.2.2.2.2 _ wm_2_159) (va_Nw.use rfl (hX.2.1.2.1.use wn_2_171)) hce hcv hcl ?_
      refine lv_astore (lv' := [(7, .ref q9), (0, .ref (a 0)), (1, .int p0), (2, .int p1), (3, .int p2), (4, .int p3), (5, .int p4), (6, .ref o)]) hx hb dL_add_20 hl (by decide) rfl (fun ls hl => ?_)
      refine lv_iconst (v := 1) hx hb dL_add_22 (by decide) ?_
      rw [← hQ]
      exact end_i hX hB hA3 rfl rfl ⟨1, n, v, rfl, ho, hq, Or.inr ⟨("java/lang/IndexOutOfBoundsException", 1), List.mem_cons_self, hEE, rfl⟩, rfl⟩ (Nat.le_of_ble_eq_true rfl) (Nat.le_of_ble_eq_true rfl) dL_add_23
    rcases List.mem_cons.mp hE with rfl | hE
    · refine vx_catch hX.1.2.2.2.1 [⟨0, 17, 20, 19⟩] ⟨0, 17, 24, 21⟩ [] hT (List.forall_mem_cons.mpr ⟨(Or.inr ⟨by decide, "java/lang/IndexOutOfBoundsException", hX.1.2.2.2.2 _ wm_2_159, hX.2.1.2.2.1.2.2.2.2.2.1⟩), fun z hz => absurd hz List.not_mem_nil⟩) (by decide) (by decide) (hX.1.2.2.2.2 _ wm_2_160) (va_Nw.use rfl (hX.2.1.2.1.use wn_3_5)) hce hcv hcl ?_
      refine lv_astore (lv' := [(7, .ref q9), (0, .ref (a 0)), (1, .int p0), (2, .int p1), (3, .int p2), (4, .int p3), (5, .int p4), (6, .ref o)]) hx hb dL_add_24 hl (by decide) rfl (fun ls hl => ?_)
      refine lv_iconst (v := 2) hx hb dL_add_26 (by decide) ?_
      rw [← hQ]
      exact end_i hX hB hA3 rfl rfl ⟨2, n, v, rfl, ho, hq, Or.inr ⟨("java/lang/IllegalArgumentException", 2), (List.mem_cons_of_mem _ List.mem_cons_self), hEE, rfl⟩, rfl⟩ (Nat.le_of_ble_eq_true rfl) (Nat.le_of_ble_eq_true rfl) dL_add_27
    exact absurd hE List.not_mem_nil
  · obtain ⟨_, ⟨hE0, rfl, ho, hq, rfl⟩, rfl⟩ := hp
    refine W.eq (g2 := F0 m 13 ls [.int Y.2.1, .ref o]) rfl ?_
    refine lv_i2l hx hb dL_add_13 rfl ?_
    refine pfN (ty := .long) (k0 := 36) hX hB cw_o rfl in6 tyX6_ok nmX6 0 (by decide) wn_2_149 rfl rfl rfl rfl rfl (Nat.le_of_ble_eq_true rfl) (w1 := cw κ a Y.2.2.1 Y.2.2.2.1 Y.2.2.2.2 ++ [Ot o (Y.2.1.toInt64) v]) cw_oS dL_add_14 (fun H locs hB => ?_)
    refine lv_goto (tgt := 28) hx hb dL_add_17 (by decide) ?_
    refine lv_iconst (v := 0) hx hb dL_add_28 (by decide) ?_
    rw [← hQ]
    exact end_i hX hB hA3 rfl rfl ⟨0, (Y.2.1.toInt64), v, rfl, ho, hq, Or.inl ⟨hE0, rfl, rfl⟩, rfl⟩ (Nat.le_of_ble_eq_true rfl) (Nat.le_of_ble_eq_true rfl) dL_add_29
set_option maxHeartbeats 4000000 in
set_option maxRecDepth 100000 in
theorem w_widen (κ : Kt) (l : Launch) (hst : l.stackTraces = false) (a : Nat → Nat) (r q : Nat → Int32) (f : Nat → Nat → Int64) (o : Nat) (n : Int64) (v : Value) (p0 : Int32) (p1 : Int32) (hok : okr r) (Y : CRs) (hY : D_X5_widen r q f p0 p1 = Y) : CMW κ l yL_widen cL_widen 5 (Option.some Jvm.ClassFile.FieldType.int) [(0, 11, 14, 19)] 8 135 1 6 [.ref (a 0), .int p0, .int p1, .ref o] (cw κ a r q f ++ [Ot o n v]) (fun u w' => ∃ (k : Int32) (n' : Int64) (v' : Value), u = some (.int k) ∧ (okr r → okr Y.2.2.1) ∧ Y.2.2.2.1 4 = q 4 ∧ Wc ([("java/lang/IndexOutOfBoundsException", 1)] : List (String × Int32)) Y.1 Y.2.1 k n' ∧ w' = cw κ a Y.2.2.1 Y.2.2.2.1 Y.2.2.2.2 ++ [Ot o n' v']) := by
  refine CMW_begin (by decide) (Nat.le_of_ble_eq_true rfl) ?_
  intro p e s m args below meth c A Q hX hT hA3 hQ hB ls hl
  have hx := hX.1.1
  have hb := hX.1.2.1
  have hl : lv_has ls 5 [(0, .ref (a 0)), (1, .int p0), (2, .int p1), (3, .ref o)] := hl
  refine lv_aload_n hx hb dL_widen_0 rfl (lv_at hl 3 rfl) ?_
  refine lv_aload_n hx hb dL_widen_1 rfl (lv_at hl 0 rfl) ?_
  refine lv_iload_n hx hb dL_widen_2 rfl (lv_at hl 1 rfl) ?_
  refine lv_iload_n hx hb dL_widen_3 rfl (lv_at hl 2 rfl) ?_
  refine CX_after2 hX hB (run_XV (n := 2) (k0 := 0) (As := [.int p0, .int p1]) (rest := [.ref o]) hX hB (CX_frame [Ot o n v] (k_X5_widen κ l hst a r q f p0 p1 _ _ _ _ _ (hY.trans (te5 Y)))) ⟨rfl, yk_X5_widen⟩ wm_3_127 wm_3_128 wm_3_129 wm_1_1 wm_3_130 ⟨Nat.le_of_ble_eq_true rfl, Nat.le_of_ble_eq_true rfl⟩ ⟨Nat.le_of_ble_eq_true rfl, Nat.le_of_ble_eq_true rfl⟩ (app_at cw0) rfl rfl rfl hl.1 rfl (Nat.le_of_ble_eq_true rfl) dL_widen_4) (fun E ce q9 w' H locs hp hB hce hcv hcl => ?_) (fun o9 w' H locs hp hB => ?_)
  · obtain ⟨_, ⟨hEE, hE, ho, hq, rfl⟩, rfl⟩ := hp
    rw [hEE] at hE
    rcases List.mem_cons.mp hE with rfl | hE
    · refine vx_catch hX.1.2.2.2.1 [] ⟨0, 11, 14, 19⟩ [] hT (fun z hz => absurd hz List.not_mem_nil) (by decide) (by decide) (hX.1.2.2.2.2 _ wm_2_159) (va_Nw.use rfl (hX.2.1.2.1.use wn_2_171)) hce hcv hcl ?_
      refine lv_astore (lv' := [(4, .ref q9), (0, .ref (a 0)), (1, .int p0), (2, .int p1), (3, .ref o)]) hx hb dL_widen_14 hl (by decide) rfl (fun ls hl => ?_)
      refine lv_iconst (v := 1) hx hb dL_widen_16 (by decide) ?_
      rw [← hQ]
      exact end_i hX hB hA3 rfl rfl ⟨1, n, v, rfl, ho, hq, Or.inr ⟨("java/lang/IndexOutOfBoundsException", 1), List.mem_cons_self, hEE, rfl⟩, rfl⟩ (Nat.le_of_ble_eq_true rfl) (Nat.le_of_ble_eq_true rfl) dL_widen_17
    exact absurd hE List.not_mem_nil
  · obtain ⟨_, ⟨hE0, rfl, ho, hq, rfl⟩, rfl⟩ := hp
    refine W.eq (g2 := F0 m 7 ls [.int Y.2.1, .ref o]) rfl ?_
    refine lv_i2l hx hb dL_widen_7 rfl ?_
    refine pfN (ty := .long) (k0 := 36) hX hB cw_o rfl in6 tyX6_ok nmX6 0 (by decide) wn_2_149 rfl rfl rfl rfl rfl (Nat.le_of_ble_eq_true rfl) (w1 := cw κ a Y.2.2.1 Y.2.2.2.1 Y.2.2.2.2 ++ [Ot o (Y.2.1.toInt64) v]) cw_oS dL_widen_8 (fun H locs hB => ?_)
    refine lv_goto (tgt := 18) hx hb dL_widen_11 (by decide) ?_
    refine lv_iconst (v := 0) hx hb dL_widen_18 (by decide) ?_
    rw [← hQ]
    exact end_i hX hB hA3 rfl rfl ⟨0, (Y.2.1.toInt64), v, rfl, ho, hq, Or.inl ⟨hE0, rfl, rfl⟩, rfl⟩ (Nat.le_of_ble_eq_true rfl) (Nat.le_of_ble_eq_true rfl) dL_widen_19
set_option maxHeartbeats 4000000 in
set_option maxRecDepth 100000 in
theorem w_drop (κ : Kt) (l : Launch) (hst : l.stackTraces = false) (a : Nat → Nat) (r q : Nat → Int32) (f : Nat → Nat → Int64) (o : Nat) (n : Int64) (v : Value) (p0 : Int32) (p1 : Int32) (p2 : Int32) (hok : okr r) (Y : CRs) (hY : D_X5_drop r q f p0 p1 p2 = Y) : CMW κ l yL_drop cL_drop 6 (Option.some Jvm.ClassFile.FieldType.int) [(0, 13, 16, 19)] 8 137 2 12 [.ref (a 0), .int p0, .int p1, .int p2, .ref o] (cw κ a r q f ++ [Ot o n v]) (fun u w' => ∃ (k : Int32) (n' : Int64) (v' : Value), u = some (.int k) ∧ (okr r → okr Y.2.2.1) ∧ Y.2.2.2.1 4 = q 4 ∧ Wc ([("java/lang/IndexOutOfBoundsException", 1)] : List (String × Int32)) Y.1 Y.2.1 k n' ∧ w' = cw κ a Y.2.2.1 Y.2.2.2.1 Y.2.2.2.2 ++ [Ot o n' v']) := by
  refine CMW_begin (by decide) (Nat.le_of_ble_eq_true rfl) ?_
  intro p e s m args below meth c A Q hX hT hA3 hQ hB ls hl
  have hx := hX.1.1
  have hb := hX.1.2.1
  have hl : lv_has ls 6 [(0, .ref (a 0)), (1, .int p0), (2, .int p1), (3, .int p2), (4, .ref o)] := hl
  refine lv_aload hx hb dL_drop_0 (lv_at hl 4 rfl) ?_
  refine lv_aload_n hx hb dL_drop_2 rfl (lv_at hl 0 rfl) ?_
  refine lv_iload_n hx hb dL_drop_3 rfl (lv_at hl 1 rfl) ?_
  refine lv_iload_n hx hb dL_drop_4 rfl (lv_at hl 2 rfl) ?_
  refine lv_iload_n hx hb dL_drop_5 rfl (lv_at hl 3 rfl) ?_
  refine CX_after2 hX hB (run_XV (n := 3) (k0 := 0) (As := [.int p0, .int p1, .int p2]) (rest := [.ref o]) hX hB (CX_frame [Ot o n v] (k_X5_drop κ l hst a r q f p0 p1 p2 _ _ _ _ _ (hY.trans (te5 Y)))) ⟨rfl, yk_X5_drop⟩ wm_3_142 wm_3_143 wm_3_144 wm_1_1 wm_3_145 ⟨Nat.le_of_ble_eq_true rfl, Nat.le_of_ble_eq_true rfl⟩ ⟨Nat.le_of_ble_eq_true rfl, Nat.le_of_ble_eq_true rfl⟩ (app_at cw0) rfl rfl rfl hl.1 rfl (Nat.le_of_ble_eq_true rfl) dL_drop_6) (fun E ce q9 w' H locs hp hB hce hcv hcl => ?_) (fun o9 w' H locs hp hB => ?_)
  · obtain ⟨_, ⟨hEE, hE, ho, hq, rfl⟩, rfl⟩ := hp
    rw [hEE] at hE
    rcases List.mem_cons.mp hE with rfl | hE
    · refine vx_catch hX.1.2.2.2.1 [] ⟨0, 13, 16, 19⟩ [] hT (fun z hz => absurd hz List.not_mem_nil) (by decide) (by decide) (hX.1.2.2.2.2 _ wm_2_159) (va_Nw.use rfl (hX.2.1.2.1.use wn_2_171)) hce hcv hcl ?_
      refine lv_astore (lv' := [(5, .ref q9), (0, .ref (a 0)), (1, .int p0), (2, .int p1), (3, .int p2), (4, .ref o)]) hx hb dL_drop_16 hl (by decide) rfl (fun ls hl => ?_)
      refine lv_iconst (v := 1) hx hb dL_drop_18 (by decide) ?_
      rw [← hQ]
      exact end_i hX hB hA3 rfl rfl ⟨1, n, v, rfl, ho, hq, Or.inr ⟨("java/lang/IndexOutOfBoundsException", 1), List.mem_cons_self, hEE, rfl⟩, rfl⟩ (Nat.le_of_ble_eq_true rfl) (Nat.le_of_ble_eq_true rfl) dL_drop_19
    exact absurd hE List.not_mem_nil
  · obtain ⟨_, ⟨hE0, rfl, ho, hq, rfl⟩, rfl⟩ := hp
    refine W.eq (g2 := F0 m 9 ls [.int Y.2.1, .ref o]) rfl ?_
    refine lv_i2l hx hb dL_drop_9 rfl ?_
    refine pfN (ty := .long) (k0 := 36) hX hB cw_o rfl in6 tyX6_ok nmX6 0 (by decide) wn_2_149 rfl rfl rfl rfl rfl (Nat.le_of_ble_eq_true rfl) (w1 := cw κ a Y.2.2.1 Y.2.2.2.1 Y.2.2.2.2 ++ [Ot o (Y.2.1.toInt64) v]) cw_oS dL_drop_10 (fun H locs hB => ?_)
    refine lv_goto (tgt := 20) hx hb dL_drop_13 (by decide) ?_
    refine lv_iconst (v := 0) hx hb dL_drop_20 (by decide) ?_
    rw [← hQ]
    exact end_i hX hB hA3 rfl rfl ⟨0, (Y.2.1.toInt64), v, rfl, ho, hq, Or.inl ⟨hE0, rfl, rfl⟩, rfl⟩ (Nat.le_of_ble_eq_true rfl) (Nat.le_of_ble_eq_true rfl) dL_drop_21
set_option maxHeartbeats 4000000 in
set_option maxRecDepth 100000 in
theorem w_sum (κ : Kt) (l : Launch) (hst : l.stackTraces = false) (a : Nat → Nat) (r q : Nat → Int32) (f : Nat → Nat → Int64) (o : Nat) (n : Int64) (v : Value) (p0 : Int32) (p1 : Int32) (p2 : Int32) (p3 : Int32) (hok : okr r) (Y : CRs) (hY : D_X5_sum r q f p0 p1 p2 p3 = Y) : CMW κ l yL_sum cL_sum 7 (Option.some Jvm.ClassFile.FieldType.int) [(0, 15, 18, 19)] 8 142 3 18 [.ref (a 0), .int p0, .int p1, .int p2, .int p3, .ref o] (cw κ a r q f ++ [Ot o n v]) (fun u w' => ∃ (k : Int32) (n' : Int64) (v' : Value), u = some (.int k) ∧ (okr r → okr Y.2.2.1) ∧ Y.2.2.2.1 4 = q 4 ∧ Wc ([("java/lang/IndexOutOfBoundsException", 1)] : List (String × Int32)) Y.1 Y.2.1 k n' ∧ w' = cw κ a Y.2.2.1 Y.2.2.2.1 Y.2.2.2.2 ++ [Ot o n' v']) := by
  refine CMW_begin (by decide) (Nat.le_of_ble_eq_true rfl) ?_
  intro p e s m args below meth c A Q hX hT hA3 hQ hB ls hl
  have hx := hX.1.1
  have hb := hX.1.2.1
  have hl : lv_has ls 7 [(0, .ref (a 0)), (1, .int p0), (2, .int p1), (3, .int p2), (4, .int p3), (5, .ref o)] := hl
  refine lv_aload hx hb dL_sum_0 (lv_at hl 5 rfl) ?_
  refine lv_aload_n hx hb dL_sum_2 rfl (lv_at hl 0 rfl) ?_
  refine lv_iload_n hx hb dL_sum_3 rfl (lv_at hl 1 rfl) ?_
  refine lv_iload_n hx hb dL_sum_4 rfl (lv_at hl 2 rfl) ?_
  refine lv_iload_n hx hb dL_sum_5 rfl (lv_at hl 3 rfl) ?_
  refine lv_iload hx hb dL_sum_6 (lv_at hl 4 rfl) ?_
  refine CX_after2 hX hB (run_XV (n := 4) (k0 := 0) (As := [.int p0, .int p1, .int p2, .int p3]) (rest := [.ref o]) hX hB (CX_frame [Ot o n v] (k_X5_sum κ l hst a r q f p0 p1 p2 p3 _ _ _ _ _ (hY.trans (te5 Y)))) ⟨rfl, yk_X5_sum⟩ wm_3_149 wm_3_150 wm_3_151 wm_1_1 wm_3_152 ⟨Nat.le_of_ble_eq_true rfl, Nat.le_of_ble_eq_true rfl⟩ ⟨Nat.le_of_ble_eq_true rfl, Nat.le_of_ble_eq_true rfl⟩ (app_at cw0) rfl rfl rfl hl.1 rfl (Nat.le_of_ble_eq_true rfl) dL_sum_8) (fun E ce q9 w' H locs hp hB hce hcv hcl => ?_) (fun o9 w' H locs hp hB => ?_)
  · obtain ⟨_, ⟨hEE, hE, ho, hq, rfl⟩, rfl⟩ := hp
    rw [hEE] at hE
    rcases List.mem_cons.mp hE with rfl | hE
    · refine vx_catch hX.1.2.2.2.1 [] ⟨0, 15, 18, 19⟩ [] hT (fun z hz => absurd hz List.not_mem_nil) (by decide) (by decide) (hX.1.2.2.2.2 _ wm_2_159) (va_Nw.use rfl (hX.2.1.2.1.use wn_2_171)) hce hcv hcl ?_
      refine lv_astore (lv' := [(6, .ref q9), (0, .ref (a 0)), (1, .int p0), (2, .int p1), (3, .int p2), (4, .int p3), (5, .ref o)]) hx hb dL_sum_18 hl (by decide) rfl (fun ls hl => ?_)
      refine lv_iconst (v := 1) hx hb dL_sum_20 (by decide) ?_
      rw [← hQ]
      exact end_i hX hB hA3 rfl rfl ⟨1, n, v, rfl, ho, hq, Or.inr ⟨("java/lang/IndexOutOfBoundsException", 1), List.mem_cons_self, hEE, rfl⟩, rfl⟩ (Nat.le_of_ble_eq_true rfl) (Nat.le_of_ble_eq_true rfl) dL_sum_21
    exact absurd hE List.not_mem_nil
  · obtain ⟨_, ⟨hE0, rfl, ho, hq, rfl⟩, rfl⟩ := hp
    refine W.eq (g2 := F0 m 11 ls [.int Y.2.1, .ref o]) rfl ?_
    refine lv_i2l hx hb dL_sum_11 rfl ?_
    refine pfN (ty := .long) (k0 := 36) hX hB cw_o rfl in6 tyX6_ok nmX6 0 (by decide) wn_2_149 rfl rfl rfl rfl rfl (Nat.le_of_ble_eq_true rfl) (w1 := cw κ a Y.2.2.1 Y.2.2.2.1 Y.2.2.2.2 ++ [Ot o (Y.2.1.toInt64) v]) cw_oS dL_sum_12 (fun H locs hB => ?_)
    refine lv_goto (tgt := 22) hx hb dL_sum_15 (by decide) ?_
    refine lv_iconst (v := 0) hx hb dL_sum_22 (by decide) ?_
    rw [← hQ]
    exact end_i hX hB hA3 rfl rfl ⟨0, (Y.2.1.toInt64), v, rfl, ho, hq, Or.inl ⟨hE0, rfl, rfl⟩, rfl⟩ (Nat.le_of_ble_eq_true rfl) (Nat.le_of_ble_eq_true rfl) dL_sum_23
set_option maxHeartbeats 4000000 in
set_option maxRecDepth 100000 in
theorem w_multiply (κ : Kt) (l : Launch) (hst : l.stackTraces = false) (a : Nat → Nat) (r q : Nat → Int32) (f : Nat → Nat → Int64) (o : Nat) (n : Int64) (v : Value) (p0 : Int32) (p1 : Int32) (p2 : Int32) (hok : okr r) (Y : CRs) (hY : D_X5_multiply r q f p0 p1 p2 = Y) : CMW κ l yL_multiply cL_multiply 6 (Option.some Jvm.ClassFile.FieldType.int) [(0, 13, 16, 19)] 8 137 3 18 [.ref (a 0), .int p0, .int p1, .int p2, .ref o] (cw κ a r q f ++ [Ot o n v]) (fun u w' => ∃ (k : Int32) (n' : Int64) (v' : Value), u = some (.int k) ∧ (okr r → okr Y.2.2.1) ∧ Y.2.2.2.1 4 = q 4 ∧ Wc ([("java/lang/IndexOutOfBoundsException", 1)] : List (String × Int32)) Y.1 Y.2.1 k n' ∧ w' = cw κ a Y.2.2.1 Y.2.2.2.1 Y.2.2.2.2 ++ [Ot o n' v']) := by
  refine CMW_begin (by decide) (Nat.le_of_ble_eq_true rfl) ?_
  intro p e s m args below meth c A Q hX hT hA3 hQ hB ls hl
  have hx := hX.1.1
  have hb := hX.1.2.1
  have hl : lv_has ls 6 [(0, .ref (a 0)), (1, .int p0), (2, .int p1), (3, .int p2), (4, .ref o)] := hl
  refine lv_aload hx hb dL_multiply_0 (lv_at hl 4 rfl) ?_
  refine lv_aload_n hx hb dL_multiply_2 rfl (lv_at hl 0 rfl) ?_
  refine lv_iload_n hx hb dL_multiply_3 rfl (lv_at hl 1 rfl) ?_
  refine lv_iload_n hx hb dL_multiply_4 rfl (lv_at hl 2 rfl) ?_
  refine lv_iload_n hx hb dL_multiply_5 rfl (lv_at hl 3 rfl) ?_
  refine CX_after2 hX hB (run_XV (n := 3) (k0 := 0) (As := [.int p0, .int p1, .int p2]) (rest := [.ref o]) hX hB (CX_frame [Ot o n v] (k_X5_multiply κ l hst a r q f p0 p1 p2 _ _ _ _ _ (hY.trans (te5 Y)))) ⟨rfl, yk_X5_multiply⟩ wm_3_160 wm_3_161 wm_3_162 wm_1_1 wm_3_163 ⟨Nat.le_of_ble_eq_true rfl, Nat.le_of_ble_eq_true rfl⟩ ⟨Nat.le_of_ble_eq_true rfl, Nat.le_of_ble_eq_true rfl⟩ (app_at cw0) rfl rfl rfl hl.1 rfl (Nat.le_of_ble_eq_true rfl) dL_multiply_6) (fun E ce q9 w' H locs hp hB hce hcv hcl => ?_) (fun o9 w' H locs hp hB => ?_)
  · obtain ⟨_, ⟨hEE, hE, ho, hq, rfl⟩, rfl⟩ := hp
    rw [hEE] at hE
    rcases List.mem_cons.mp hE with rfl | hE
    · refine vx_catch hX.1.2.2.2.1 [] ⟨0, 13, 16, 19⟩ [] hT (fun z hz => absurd hz List.not_mem_nil) (by decide) (by decide) (hX.1.2.2.2.2 _ wm_2_159) (va_Nw.use rfl (hX.2.1.2.1.use wn_2_171)) hce hcv hcl ?_
      refine lv_astore (lv' := [(5, .ref q9), (0, .ref (a 0)), (1, .int p0), (2, .int p1), (3, .int p2), (4, .ref o)]) hx hb dL_multiply_16 hl (by decide) rfl (fun ls hl => ?_)
      refine lv_iconst (v := 1) hx hb dL_multiply_18 (by decide) ?_
      rw [← hQ]
      exact end_i hX hB hA3 rfl rfl ⟨1, n, v, rfl, ho, hq, Or.inr ⟨("java/lang/IndexOutOfBoundsException", 1), List.mem_cons_self, hEE, rfl⟩, rfl⟩ (Nat.le_of_ble_eq_true rfl) (Nat.le_of_ble_eq_true rfl) dL_multiply_19
    exact absurd hE List.not_mem_nil
  · obtain ⟨_, ⟨hE0, rfl, ho, hq, rfl⟩, rfl⟩ := hp
    refine W.eq (g2 := F0 m 9 ls [.int Y.2.1, .ref o]) rfl ?_
    refine lv_i2l hx hb dL_multiply_9 rfl ?_
    refine pfN (ty := .long) (k0 := 36) hX hB cw_o rfl in6 tyX6_ok nmX6 0 (by decide) wn_2_149 rfl rfl rfl rfl rfl (Nat.le_of_ble_eq_true rfl) (w1 := cw κ a Y.2.2.1 Y.2.2.2.1 Y.2.2.2.2 ++ [Ot o (Y.2.1.toInt64) v]) cw_oS dL_multiply_10 (fun H locs hB => ?_)
    refine lv_goto (tgt := 20) hx hb dL_multiply_13 (by decide) ?_
    refine lv_iconst (v := 0) hx hb dL_multiply_20 (by decide) ?_
    rw [← hQ]
    exact end_i hX hB hA3 rfl rfl ⟨0, (Y.2.1.toInt64), v, rfl, ho, hq, Or.inl ⟨hE0, rfl, rfl⟩, rfl⟩ (Nat.le_of_ble_eq_true rfl) (Nat.le_of_ble_eq_true rfl) dL_multiply_21
set_option maxHeartbeats 4000000 in
set_option maxRecDepth 100000 in
theorem w_take (κ : Kt) (l : Launch) (hst : l.stackTraces = false) (a : Nat → Nat) (r q : Nat → Int32) (f : Nat → Nat → Int64) (o : Nat) (n : Int64) (v : Value) (p0 : Int32) (p1 : Int32) (p2 : Int32) (hok : okr r) (Y : CRs) (hY : D_X5_take r q f p0 p1 p2 = Y) : CMW κ l yL_take cL_take 6 (Option.some Jvm.ClassFile.FieldType.int) [(0, 13, 16, 19), (0, 13, 20, 21)] 8 172 3 18 [.ref (a 0), .int p0, .int p1, .int p2, .ref o] (cw κ a r q f ++ [Ot o n v]) (fun u w' => ∃ (k : Int32) (n' : Int64) (v' : Value), u = some (.int k) ∧ (okr r → okr Y.2.2.1) ∧ Y.2.2.2.1 4 = q 4 ∧ Wc ([("java/lang/IndexOutOfBoundsException", 1), ("java/lang/IllegalArgumentException", 2)] : List (String × Int32)) Y.1 Y.2.1 k n' ∧ w' = cw κ a Y.2.2.1 Y.2.2.2.1 Y.2.2.2.2 ++ [Ot o n' v']) := by
  refine CMW_begin (by decide) (Nat.le_of_ble_eq_true rfl) ?_
  intro p e s m args below meth c A Q hX hT hA3 hQ hB ls hl
  have hx := hX.1.1
  have hb := hX.1.2.1
  have hl : lv_has ls 6 [(0, .ref (a 0)), (1, .int p0), (2, .int p1), (3, .int p2), (4, .ref o)] := hl
  refine lv_aload hx hb dL_take_0 (lv_at hl 4 rfl) ?_
  refine lv_aload_n hx hb dL_take_2 rfl (lv_at hl 0 rfl) ?_
  refine lv_iload_n hx hb dL_take_3 rfl (lv_at hl 1 rfl) ?_
  refine lv_iload_n hx hb dL_take_4 rfl (lv_at hl 2 rfl) ?_
  refine lv_iload_n hx hb dL_take_5 rfl (lv_at hl 3 rfl) ?_
  refine CX_after2 hX hB (run_XV (n := 3) (k0 := 0) (As := [.int p0, .int p1, .int p2]) (rest := [.ref o]) hX hB (CX_frame [Ot o n v] (k_X5_take κ l hst a r q f p0 p1 p2 _ _ _ _ _ (hY.trans (te5 Y)))) ⟨rfl, yk_X5_take⟩ wm_3_167 wm_3_168 wm_3_169 wm_1_1 wm_3_170 ⟨Nat.le_of_ble_eq_true rfl, Nat.le_of_ble_eq_true rfl⟩ ⟨Nat.le_of_ble_eq_true rfl, Nat.le_of_ble_eq_true rfl⟩ (app_at cw0) rfl rfl rfl hl.1 rfl (Nat.le_of_ble_eq_true rfl) dL_take_6) (fun E ce q9 w' H locs hp hB hce hcv hcl => ?_) (fun o9 w' H locs hp hB => ?_)
  · obtain ⟨_, ⟨hEE, hE, ho, hq, rfl⟩, rfl⟩ := hp
    rw [hEE] at hE
    rcases List.mem_cons.mp hE with rfl | hE
    · refine vx_catch hX.1.2.2.2.1 [] ⟨0, 13, 16, 19⟩ [⟨0, 13, 20, 21⟩] hT (fun z hz => absurd hz List.not_mem_nil) (by decide) (by decide) (hX.1.2.2.2.2 _ wm_2_159) (va_Nw.use rfl (hX.2.1.2.1.use wn_2_171)) hce hcv hcl ?_
      refine lv_astore (lv' := [(5, .ref q9), (0, .ref (a 0)), (1, .int p0), (2, .int p1), (3, .int p2), (4, .ref o)]) hx hb dL_take_16 hl (by decide) rfl (fun ls hl => ?_)
      refine lv_iconst (v := 1) hx hb dL_take_18 (by decide) ?_
      rw [← hQ]
      exact end_i hX hB hA3 rfl rfl ⟨1, n, v, rfl, ho, hq, Or.inr ⟨("java/lang/IndexOutOfBoundsException", 1), List.mem_cons_self, hEE, rfl⟩, rfl⟩ (Nat.le_of_ble_eq_true rfl) (Nat.le_of_ble_eq_true rfl) dL_take_19
    rcases List.mem_cons.mp hE with rfl | hE
    · refine vx_catch hX.1.2.2.2.1 [⟨0, 13, 16, 19⟩] ⟨0, 13, 20, 21⟩ [] hT (List.forall_mem_cons.mpr ⟨(Or.inr ⟨by decide, "java/lang/IndexOutOfBoundsException", hX.1.2.2.2.2 _ wm_2_159, hX.2.1.2.2.1.2.2.2.2.2.1⟩), fun z hz => absurd hz List.not_mem_nil⟩) (by decide) (by decide) (hX.1.2.2.2.2 _ wm_2_160) (va_Nw.use rfl (hX.2.1.2.1.use wn_3_5)) hce hcv hcl ?_
      refine lv_astore (lv' := [(5, .ref q9), (0, .ref (a 0)), (1, .int p0), (2, .int p1), (3, .int p2), (4, .ref o)]) hx hb dL_take_20 hl (by decide) rfl (fun ls hl => ?_)
      refine lv_iconst (v := 2) hx hb dL_take_22 (by decide) ?_
      rw [← hQ]
      exact end_i hX hB hA3 rfl rfl ⟨2, n, v, rfl, ho, hq, Or.inr ⟨("java/lang/IllegalArgumentException", 2), (List.mem_cons_of_mem _ List.mem_cons_self), hEE, rfl⟩, rfl⟩ (Nat.le_of_ble_eq_true rfl) (Nat.le_of_ble_eq_true rfl) dL_take_23
    exact absurd hE List.not_mem_nil
  · obtain ⟨_, ⟨hE0, rfl, ho, hq, rfl⟩, rfl⟩ := hp
    refine W.eq (g2 := F0 m 9 ls [.int Y.2.1, .ref o]) rfl ?_
    refine lv_i2l hx hb dL_take_9 rfl ?_
    refine pfN (ty := .long) (k0 := 36) hX hB cw_o rfl in6 tyX6_ok nmX6 0 (by decide) wn_2_149 rfl rfl rfl rfl rfl (Nat.le_of_ble_eq_true rfl) (w1 := cw κ a Y.2.2.1 Y.2.2.2.1 Y.2.2.2.2 ++ [Ot o (Y.2.1.toInt64) v]) cw_oS dL_take_10 (fun H locs hB => ?_)
    refine lv_goto (tgt := 24) hx hb dL_take_13 (by decide) ?_
    refine lv_iconst (v := 0) hx hb dL_take_24 (by decide) ?_
    rw [← hQ]
    exact end_i hX hB hA3 rfl rfl ⟨0, (Y.2.1.toInt64), v, rfl, ho, hq, Or.inl ⟨hE0, rfl, rfl⟩, rfl⟩ (Nat.le_of_ble_eq_true rfl) (Nat.le_of_ble_eq_true rfl) dL_take_25
set_option maxHeartbeats 4000000 in
set_option maxRecDepth 100000 in
theorem w_solve (κ : Kt) (l : Launch) (hst : l.stackTraces = false) (a : Nat → Nat) (r q : Nat → Int32) (f : Nat → Nat → Int64) (o : Nat) (n : Int64) (v : Value) (p0 : Int32) (p1 : Int32) (p2 : Int32) (p3 : Int32) (hok : okr r) (Y : CRs) (hY : D_X5_solve r q f p0 p1 p2 p3 = Y) : CMW κ l yL_solve cL_solve 7 (Option.some Jvm.ClassFile.FieldType.int) [(0, 15, 18, 19)] 8 149 4 24 [.ref (a 0), .int p0, .int p1, .int p2, .int p3, .ref o] (cw κ a r q f ++ [Ot o n v]) (fun u w' => ∃ (k : Int32) (n' : Int64) (v' : Value), u = some (.int k) ∧ (okr r → okr Y.2.2.1) ∧ Y.2.2.2.1 4 = q 4 ∧ Wc ([("java/lang/IndexOutOfBoundsException", 1)] : List (String × Int32)) Y.1 Y.2.1 k n' ∧ w' = cw κ a Y.2.2.1 Y.2.2.2.1 Y.2.2.2.2 ++ [Ot o n' v']) := by
  refine CMW_begin (by decide) (Nat.le_of_ble_eq_true rfl) ?_
  intro p e s m args below meth c A Q hX hT hA3 hQ hB ls hl
  have hx := hX.1.1
  have hb := hX.1.2.1
  have hl : lv_has ls 7 [(0, .ref (a 0)), (1, .int p0), (2, .int p1), (3, .int p2), (4, .int p3), (5, .ref o)] := hl
  refine lv_aload hx hb dL_solve_0 (lv_at hl 5 rfl) ?_
  refine lv_aload_n hx hb dL_solve_2 rfl (lv_at hl 0 rfl) ?_
  refine lv_iload_n hx hb dL_solve_3 rfl (lv_at hl 1 rfl) ?_
  refine lv_iload_n hx hb dL_solve_4 rfl (lv_at hl 2 rfl) ?_
  refine lv_iload_n hx hb dL_solve_5 rfl (lv_at hl 3 rfl) ?_
  refine lv_iload hx hb dL_solve_6 (lv_at hl 4 rfl) ?_
  refine CX_after2 hX hB (run_XV (n := 4) (k0 := 0) (As := [.int p0, .int p1, .int p2, .int p3]) (rest := [.ref o]) hX hB (CX_frame [Ot o n v] (k_X5_solve κ l hst a r q f p0 p1 p2 p3 _ _ _ _ _ (hY.trans (te5 Y)))) ⟨rfl, yk_X5_solve⟩ wm_3_181 wm_3_182 wm_3_183 wm_1_1 wm_3_184 ⟨Nat.le_of_ble_eq_true rfl, Nat.le_of_ble_eq_true rfl⟩ ⟨Nat.le_of_ble_eq_true rfl, Nat.le_of_ble_eq_true rfl⟩ (app_at cw0) rfl rfl rfl hl.1 rfl (Nat.le_of_ble_eq_true rfl) dL_solve_8) (fun E ce q9 w' H locs hp hB hce hcv hcl => ?_) (fun o9 w' H locs hp hB => ?_)
  · obtain ⟨_, ⟨hEE, hE, ho, hq, rfl⟩, rfl⟩ := hp
    rw [hEE] at hE
    rcases List.mem_cons.mp hE with rfl | hE
    · refine vx_catch hX.1.2.2.2.1 [] ⟨0, 15, 18, 19⟩ [] hT (fun z hz => absurd hz List.not_mem_nil) (by decide) (by decide) (hX.1.2.2.2.2 _ wm_2_159) (va_Nw.use rfl (hX.2.1.2.1.use wn_2_171)) hce hcv hcl ?_
      refine lv_astore (lv' := [(6, .ref q9), (0, .ref (a 0)), (1, .int p0), (2, .int p1), (3, .int p2), (4, .int p3), (5, .ref o)]) hx hb dL_solve_18 hl (by decide) rfl (fun ls hl => ?_)
      refine lv_iconst (v := 1) hx hb dL_solve_20 (by decide) ?_
      rw [← hQ]
      exact end_i hX hB hA3 rfl rfl ⟨1, n, v, rfl, ho, hq, Or.inr ⟨("java/lang/IndexOutOfBoundsException", 1), List.mem_cons_self, hEE, rfl⟩, rfl⟩ (Nat.le_of_ble_eq_true rfl) (Nat.le_of_ble_eq_true rfl) dL_solve_21
    exact absurd hE List.not_mem_nil
  · obtain ⟨_, ⟨hE0, rfl, ho, hq, rfl⟩, rfl⟩ := hp
    refine W.eq (g2 := F0 m 11 ls [.int Y.2.1, .ref o]) rfl ?_
    refine lv_i2l hx hb dL_solve_11 rfl ?_
    refine pfN (ty := .long) (k0 := 36) hX hB cw_o rfl in6 tyX6_ok nmX6 0 (by decide) wn_2_149 rfl rfl rfl rfl rfl (Nat.le_of_ble_eq_true rfl) (w1 := cw κ a Y.2.2.1 Y.2.2.2.1 Y.2.2.2.2 ++ [Ot o (Y.2.1.toInt64) v]) cw_oS dL_solve_12 (fun H locs hB => ?_)
    refine lv_goto (tgt := 22) hx hb dL_solve_15 (by decide) ?_
    refine lv_iconst (v := 0) hx hb dL_solve_22 (by decide) ?_
    rw [← hQ]
    exact end_i hX hB hA3 rfl rfl ⟨0, (Y.2.1.toInt64), v, rfl, ho, hq, Or.inl ⟨hE0, rfl, rfl⟩, rfl⟩ (Nat.le_of_ble_eq_true rfl) (Nat.le_of_ble_eq_true rfl) dL_solve_23
end
section
-- 91.lwr1
set_option maxHeartbeats 4000000 in
set_option maxRecDepth 100000 in
theorem w_shape (κ : Kt) (l : Launch) (hst : l.stackTraces = false) (a : Nat → Nat) (r q : Nat → Int32) (f : Nat → Nat → Int64) (o : Nat) (n : Int64) (v : Value) (p0 : Int32) (p1 : Int32) (hok : okr r) (Y : CRs) (hY : D_X5_shape r q f p0 p1 = Y) : CMW κ l yL_shape cL_shape 5 (Option.some Jvm.ClassFile.FieldType.int) [(0, 11, 14, 19)] 8 133 1 6 [.ref (a 0), .int p0, .int p1, .ref o] (cw κ a r q f ++ [Ot o n v]) (fun u w' => ∃ (k : Int32) (n' : Int64) (v' : Value), u = some (.int k) ∧ (okr r → okr Y.2.2.1) ∧ Y.2.2.2.1 4 = q 4 ∧ Wc ([("java/lang/IndexOutOfBoundsException", 1)] : List (String × Int32)) Y.1 Y.2.1 k n' ∧ w' = cw κ a Y.2.2.1 Y.2.2.2.1 Y.2.2.2.2 ++ [Ot o n' v']) := by
  refine CMW_begin (by decide) (Nat.le_of_ble_eq_true rfl) ?_
  intro p e s m args below meth c A Q hX hT hA3 hQ hB ls hl
  have hx := hX.1.1
  have hb := hX.1.2.1
  have hl : lv_has ls 5 [(0, .ref (a 0)), (1, .int p0), (2, .int p1), (3, .ref o)] := hl
  refine lv_aload_n hx hb dL_shape_0 rfl (lv_at hl 3 rfl) ?_
  refine lv_aload_n hx hb dL_shape_1 rfl (lv_at hl 0 rfl) ?_
  refine lv_iload_n hx hb dL_shape_2 rfl (lv_at hl 1 rfl) ?_
  refine lv_iload_n hx hb dL_shape_3 rfl (lv_at hl 2 rfl) ?_
  refine CX_after2 hX hB (run_XV (n := 2) (k0 := 0) (As := [.int p0, .int p1]) (rest := [.ref o]) hX hB (CX_frame [Ot o n v] (k_X5_shape κ l hst a r q f p0 p1 _ _ _ _ _ (hY.trans (te5 Y)))) ⟨rfl, yk_X5_shape⟩ wm_3_212 wm_3_213 wm_3_214 wm_1_1 wm_3_215 ⟨Nat.le_of_ble_eq_true rfl, Nat.le_of_ble_eq_true rfl⟩ ⟨Nat.le_of_ble_eq_true rfl, Nat.le_of_ble_eq_true rfl⟩ (app_at cw0) rfl rfl rfl hl.1 rfl (Nat.le_of_ble_eq_true rfl) dL_shape_4) (fun E ce q9 w' H locs hp hB hce hcv hcl => ?_) (fun o9 w' H locs hp hB => ?_)
  · obtain ⟨_, ⟨hEE, hE, ho, hq, rfl⟩, rfl⟩ := hp
    rw [hEE] at hE
    rcases List.mem_cons.mp hE with rfl | hE
    · refine vx_catch hX.1.2.2.2.1 [] ⟨0, 11, 14, 19⟩ [] hT (fun z hz => absurd hz List.not_mem_nil) (by decide) (by decide) (hX.1.2.2.2.2 _ wm_2_159) (va_Nw.use rfl (hX.2.1.2.1.use wn_2_171)) hce hcv hcl ?_
      refine lv_astore (lv' := [(4, .ref q9), (0, .ref (a 0)), (1, .int p0), (2, .int p1), (3, .ref o)]) hx hb dL_shape_14 hl (by decide) rfl (fun ls hl => ?_)
      refine lv_iconst (v := 1) hx hb dL_shape_16 (by decide) ?_
      rw [← hQ]
      exact end_i hX hB hA3 rfl rfl ⟨1, n, v, rfl, ho, hq, Or.inr ⟨("java/lang/IndexOutOfBoundsException", 1), List.mem_cons_self, hEE, rfl⟩, rfl⟩ (Nat.le_of_ble_eq_true rfl) (Nat.le_of_ble_eq_true rfl) dL_shape_17
    exact absurd hE List.not_mem_nil
  · obtain ⟨_, ⟨hE0, rfl, ho, hq, rfl⟩, rfl⟩ := hp
    refine W.eq (g2 := F0 m 7 ls [.int Y.2.1, .ref o]) rfl ?_
    refine lv_i2l hx hb dL_shape_7 rfl ?_
    refine pfN (ty := .long) (k0 := 36) hX hB cw_o rfl in6 tyX6_ok nmX6 0 (by decide) wn_2_149 rfl rfl rfl rfl rfl (Nat.le_of_ble_eq_true rfl) (w1 := cw κ a Y.2.2.1 Y.2.2.2.1 Y.2.2.2.2 ++ [Ot o (Y.2.1.toInt64) v]) cw_oS dL_shape_8 (fun H locs hB => ?_)
    refine lv_goto (tgt := 18) hx hb dL_shape_11 (by decide) ?_
    refine lv_iconst (v := 0) hx hb dL_shape_18 (by decide) ?_
    rw [← hQ]
    exact end_i hX hB hA3 rfl rfl ⟨0, (Y.2.1.toInt64), v, rfl, ho, hq, Or.inl ⟨hE0, rfl, rfl⟩, rfl⟩ (Nat.le_of_ble_eq_true rfl) (Nat.le_of_ble_eq_true rfl) dL_shape_19
set_option maxHeartbeats 4000000 in
set_option maxRecDepth 100000 in
theorem w_at (κ : Kt) (l : Launch) (hst : l.stackTraces = false) (a : Nat → Nat) (r q : Nat → Int32) (f : Nat → Nat → Int64) (o : Nat) (n : Int64) (v : Value) (p0 : Int32) (p1 : Int32) (p2 : Int32) (hok : okr r) (Y : CRs) (hY : D_X5_at r q f p0 p1 p2 = Y) : CMW κ l yL_at cL_at 6 (Option.some Jvm.ClassFile.FieldType.int) [(0, 13, 16, 19)] 8 135 2 12 [.ref (a 0), .int p0, .int p1, .int p2, .ref o] (cw κ a r q f ++ [Ot o n v]) (fun u w' => ∃ (k : Int32) (n' : Int64) (v' : Value), u = some (.int k) ∧ (okr r → okr Y.2.2.1) ∧ Y.2.2.2.1 4 = q 4 ∧ Wc ([("java/lang/IndexOutOfBoundsException", 1)] : List (String × Int32)) Y.1 Y.2.1 k n' ∧ w' = cw κ a Y.2.2.1 Y.2.2.2.1 Y.2.2.2.2 ++ [Ot o n' v']) := by
  refine CMW_begin (by decide) (Nat.le_of_ble_eq_true rfl) ?_
  intro p e s m args below meth c A Q hX hT hA3 hQ hB ls hl
  have hx := hX.1.1
  have hb := hX.1.2.1
  have hl : lv_has ls 6 [(0, .ref (a 0)), (1, .int p0), (2, .int p1), (3, .int p2), (4, .ref o)] := hl
  refine lv_aload hx hb dL_at_0 (lv_at hl 4 rfl) ?_
  refine lv_aload_n hx hb dL_at_2 rfl (lv_at hl 0 rfl) ?_
  refine lv_iload_n hx hb dL_at_3 rfl (lv_at hl 1 rfl) ?_
  refine lv_iload_n hx hb dL_at_4 rfl (lv_at hl 2 rfl) ?_
  refine lv_iload_n hx hb dL_at_5 rfl (lv_at hl 3 rfl) ?_
  refine CX_after2 hX hB (run_XV (n := 3) (k0 := 0) (As := [.int p0, .int p1, .int p2]) (rest := [.ref o]) hX hB (CX_frame [Ot o n v] (k_X5_at κ l hst a r q f p0 p1 p2 _ _ _ _ _ (hY.trans (te5 Y)))) ⟨rfl, yk_X5_at⟩ wm_3_219 wm_3_220 wm_3_221 wm_1_1 wm_3_222 ⟨Nat.le_of_ble_eq_true rfl, Nat.le_of_ble_eq_true rfl⟩ ⟨Nat.le_of_ble_eq_true rfl, Nat.le_of_ble_eq_true rfl⟩ (app_at cw0) rfl rfl rfl hl.1 rfl (Nat.le_of_ble_eq_true rfl) dL_at_6) (fun E ce q9 w' H locs hp hB hce hcv hcl => ?_) (fun o9 w' H locs hp hB => ?_)
  · obtain ⟨_, ⟨hEE, hE, ho, hq, rfl⟩, rfl⟩ := hp
    rw [hEE] at hE
    rcases List.mem_cons.mp hE with rfl | hE
    · refine vx_catch hX.1.2.2.2.1 [] ⟨0, 13, 16, 19⟩ [] hT (fun z hz => absurd hz List.not_mem_nil) (by decide) (by decide) (hX.1.2.2.2.2 _ wm_2_159) (va_Nw.use rfl (hX.2.1.2.1.use wn_2_171)) hce hcv hcl ?_
      refine lv_astore (lv' := [(5, .ref q9), (0, .ref (a 0)), (1, .int p0), (2, .int p1), (3, .int p2), (4, .ref o)]) hx hb dL_at_16 hl (by decide) rfl (fun ls hl => ?_)
      refine lv_iconst (v := 1) hx hb dL_at_18 (by decide) ?_
      rw [← hQ]
      exact end_i hX hB hA3 rfl rfl ⟨1, n, v, rfl, ho, hq, Or.inr ⟨("java/lang/IndexOutOfBoundsException", 1), List.mem_cons_self, hEE, rfl⟩, rfl⟩ (Nat.le_of_ble_eq_true rfl) (Nat.le_of_ble_eq_true rfl) dL_at_19
    exact absurd hE List.not_mem_nil
  · obtain ⟨_, ⟨hE0, rfl, ho, hq, rfl⟩, rfl⟩ := hp
    refine W.eq (g2 := F0 m 9 ls [.int Y.2.1, .ref o]) rfl ?_
    refine lv_i2l hx hb dL_at_9 rfl ?_
    refine pfN (ty := .long) (k0 := 36) hX hB cw_o rfl in6 tyX6_ok nmX6 0 (by decide) wn_2_149 rfl rfl rfl rfl rfl (Nat.le_of_ble_eq_true rfl) (w1 := cw κ a Y.2.2.1 Y.2.2.2.1 Y.2.2.2.2 ++ [Ot o (Y.2.1.toInt64) v]) cw_oS dL_at_10 (fun H locs hB => ?_)
    refine lv_goto (tgt := 20) hx hb dL_at_13 (by decide) ?_
    refine lv_iconst (v := 0) hx hb dL_at_20 (by decide) ?_
    rw [← hQ]
    exact end_i hX hB hA3 rfl rfl ⟨0, (Y.2.1.toInt64), v, rfl, ho, hq, Or.inl ⟨hE0, rfl, rfl⟩, rfl⟩ (Nat.le_of_ble_eq_true rfl) (Nat.le_of_ble_eq_true rfl) dL_at_21
set_option maxHeartbeats 4000000 in
set_option maxRecDepth 100000 in
theorem w_text (κ : Kt) (l : Launch) (hst : l.stackTraces = false) (a : Nat → Nat) (r q : Nat → Int32) (f : Nat → Nat → Int64) (o : Nat) (n : Int64) (v : Value) (p0 : Int32) (hok : okr r) : CMW κ l yL_text cL_text 4 (Option.some Jvm.ClassFile.FieldType.int) [(0, 9, 12, 19)] 8 196 49 38094 [.ref (a 0), .int p0, .ref o] (cw κ a r q f ++ [Ot o n v]) (fun u w' => ∃ (k : Int32) (r' q' : Nat → Int32) (f' : Nat → Nat → Int64) (n' : Int64) (v' : Value), u = some (.int k) ∧ (okr r → okr r') ∧ q' 4 = q 4 ∧ Ks r q f r' q' f' ∧ w' = cw κ a r' q' f' ++ [Ot o n' v']) := by
  refine CMW_begin (by decide) (Nat.le_of_ble_eq_true rfl) ?_
  intro p e s m args below meth c A Q hX hT hA3 hQ hB ls hl
  have hx := hX.1.1
  have hb := hX.1.2.1
  have hl : lv_has ls 4 [(0, .ref (a 0)), (1, .int p0), (2, .ref o)] := hl
  refine lv_aload_n hx hb dL_text_0 rfl (lv_at hl 2 rfl) ?_
  refine lv_aload_n hx hb dL_text_1 rfl (lv_at hl 0 rfl) ?_
  refine lv_iload_n hx hb dL_text_2 rfl (lv_at hl 1 rfl) ?_
  refine CX_after2 hX hB (run_XV (n := 1) (k0 := 0) (As := [.int p0]) (rest := [.ref o]) hX hB (CX_frame [Ot o n v] (k_X5_text κ l hst a r q f p0 hok)) ⟨rfl, yk_X5_text⟩ wm_3_226 wm_3_227 wm_3_228 wm_1_1 wm_3_229 ⟨Nat.le_of_ble_eq_true rfl, Nat.le_of_ble_eq_true rfl⟩ ⟨Nat.le_of_ble_eq_true rfl, Nat.le_of_ble_eq_true rfl⟩ (app_at cw0) rfl rfl rfl hl.1 rfl (Nat.le_of_ble_eq_true rfl) dL_text_3) (fun E ce q9 w' H locs hp hB hce hcv hcl => ?_) (fun o9 w' H locs hp hB => ?_)
  · obtain ⟨_, ⟨hE, r1, q1, f1, ho, hq, hk, rfl⟩, rfl⟩ := hp
    rcases List.mem_cons.mp hE with rfl | hE
    · refine vx_catch hX.1.2.2.2.1 [] ⟨0, 9, 12, 19⟩ [] hT (fun z hz => absurd hz List.not_mem_nil) (by decide) (by decide) (hX.1.2.2.2.2 _ wm_2_159) (va_Nw.use rfl (hX.2.1.2.1.use wn_2_171)) hce hcv hcl ?_
      refine lv_astore_n (lv' := [(3, .ref q9), (0, .ref (a 0)), (1, .int p0), (2, .ref o)]) hx hb dL_text_12 rfl hl (by decide) rfl (fun ls hl => ?_)
      refine lv_iconst (v := 1) hx hb dL_text_13 (by decide) ?_
      rw [← hQ]
      exact end_i hX hB hA3 rfl rfl ⟨1, r1, q1, f1, n, v, rfl, ho, hq, hk, rfl⟩ (Nat.le_of_ble_eq_true rfl) (Nat.le_of_ble_eq_true rfl) dL_text_14
    exact absurd hE List.not_mem_nil
  · obtain ⟨_, ⟨x, r1, q1, f1, rfl, ho, hq, hk, rfl⟩, rfl⟩ := hp
    refine W.eq (g2 := F0 m 6 ls [.ref x, .ref o]) rfl ?_
    refine pfN (ty := .object "java/lang/String") (k0 := 36) hX hB cw_o rfl in6 tyX6_ok nmX6 1 (by decide) wn_2_150 rfl rfl rfl rfl rfl (Nat.le_of_ble_eq_true rfl) (w1 := cw κ a r1 q1 f1 ++ [Ot o n (.ref x)]) cw_oS dL_text_6 (fun H locs hB => ?_)
    refine lv_goto (tgt := 15) hx hb dL_text_9 (by decide) ?_
    refine lv_iconst (v := 0) hx hb dL_text_15 (by decide) ?_
    rw [← hQ]
    exact end_i hX hB hA3 rfl rfl ⟨0, r1, q1, f1, n, (.ref x), rfl, ho, hq, hk, rfl⟩ (Nat.le_of_ble_eq_true rfl) (Nat.le_of_ble_eq_true rfl) dL_text_16
set_option maxHeartbeats 4000000 in
set_option maxRecDepth 100000 in
theorem w_isSame (κ : Kt) (l : Launch) (hst : l.stackTraces = false) (a : Nat → Nat) (r q : Nat → Int32) (f : Nat → Nat → Int64) (o : Nat) (n : Int64) (v : Value) (p0 : Int32) (p1 : Int32) (hok : okr r) (Y : CRs) (hY : D_X5_isSame r q f p0 p1 = Y) : CMW κ l yL_isSame cL_isSame 5 (Option.some Jvm.ClassFile.FieldType.int) [(0, 18, 21, 19)] 8 135 2 12 [.ref (a 0), .int p0, .int p1, .ref o] (cw κ a r q f ++ [Ot o n v]) (fun u w' => ∃ (k : Int32) (n' : Int64) (v' : Value), u = some (.int k) ∧ (okr r → okr Y.2.2.1) ∧ Y.2.2.2.1 4 = q 4 ∧ Wc ([("java/lang/IndexOutOfBoundsException", 1)] : List (String × Int32)) Y.1 Y.2.1 k n' ∧ w' = cw κ a Y.2.2.1 Y.2.2.2.1 Y.2.2.2.2 ++ [Ot o n' v']) := by
  refine CMW_begin (by decide) (Nat.le_of_ble_eq_true rfl) ?_
  intro p e s m args below meth c A Q hX hT hA3 hQ hB ls hl
  have hx := hX.1.1
  have hb := hX.1.2.1
  have hl : lv_has ls 5 [(0, .ref (a 0)), (1, .int p0), (2, .int p1), (3, .ref o)] := hl
  refine lv_aload_n hx hb dL_isSame_0 rfl (lv_at hl 3 rfl) ?_
  refine lv_aload_n hx hb dL_isSame_1 rfl (lv_at hl 0 rfl) ?_
  refine lv_iload_n hx hb dL_isSame_2 rfl (lv_at hl 1 rfl) ?_
  refine lv_iload_n hx hb dL_isSame_3 rfl (lv_at hl 2 rfl) ?_
  refine CX_after2 hX hB (run_XV (n := 2) (k0 := 0) (As := [.int p0, .int p1]) (rest := [.ref o]) hX hB (CX_frame [Ot o n v] (k_X5_isSame κ l hst a r q f p0 p1 _ _ _ _ _ (hY.trans (te5 Y)))) ⟨rfl, yk_X5_isSame⟩ wm_5_14 wm_5_15 wm_5_16 wm_1_1 wm_5_17 ⟨Nat.le_of_ble_eq_true rfl, Nat.le_of_ble_eq_true rfl⟩ ⟨Nat.le_of_ble_eq_true rfl, Nat.le_of_ble_eq_true rfl⟩ (app_at cw0) rfl rfl rfl hl.1 rfl (Nat.le_of_ble_eq_true rfl) dL_isSame_4) (fun E ce q9 w' H locs hp hB hce hcv hcl => ?_) (fun o9 w' H locs hp hB => ?_)
  · obtain ⟨_, ⟨hEE, hE, ho, hq, rfl⟩, rfl⟩ := hp
    rw [hEE] at hE
    rcases List.mem_cons.mp hE with rfl | hE
    · refine vx_catch hX.1.2.2.2.1 [] ⟨0, 18, 21, 19⟩ [] hT (fun z hz => absurd hz List.not_mem_nil) (by decide) (by decide) (hX.1.2.2.2.2 _ wm_2_159) (va_Nw.use rfl (hX.2.1.2.1.use wn_2_171)) hce hcv hcl ?_
      refine lv_astore (lv' := [(4, .ref q9), (0, .ref (a 0)), (1, .int p0), (2, .int p1), (3, .ref o)]) hx hb dL_isSame_21 hl (by decide) rfl (fun ls hl => ?_)
      refine lv_iconst (v := 1) hx hb dL_isSame_23 (by decide) ?_
      rw [← hQ]
      exact end_i hX hB hA3 rfl rfl ⟨1, n, v, rfl, ho, hq, Or.inr ⟨("java/lang/IndexOutOfBoundsException", 1), List.mem_cons_self, hEE, rfl⟩, rfl⟩ (Nat.le_of_ble_eq_true rfl) (Nat.le_of_ble_eq_true rfl) dL_isSame_24
    exact absurd hE List.not_mem_nil
  · obtain ⟨_, ⟨hE0, rfl, bx, ho, hq, rfl⟩, rfl⟩ := hp
    refine W.eq (g2 := F0 m 7 ls [.int Y.2.1, .ref o]) rfl ?_
    refine lv_if_eq (tgt := 14) hx hb dL_isSame_7 (by decide) (fun c1 => ?_) (fun c1 => ?_)
    · refine lv_lconst (v := 0) hx hb dL_isSame_14 (by decide) ?_
      refine pfN (ty := .long) (k0 := 36) hX hB cw_o rfl in6 tyX6_ok nmX6 0 (by decide) wn_2_149 rfl rfl rfl rfl rfl (Nat.le_of_ble_eq_true rfl) (w1 := cw κ a Y.2.2.1 Y.2.2.2.1 Y.2.2.2.2 ++ [Ot o 0 v]) cw_oS dL_isSame_15 (fun H locs hB => ?_)
      refine lv_goto (tgt := 25) hx hb dL_isSame_18 (by decide) ?_
      refine lv_iconst (v := 0) hx hb dL_isSame_25 (by decide) ?_
      rw [← hQ]
      exact end_i hX hB hA3 rfl rfl ⟨0, 0, v, rfl, ho, hq, Or.inl ⟨hE0, rfl, (by rw [c1]; exact t640.symm)⟩, rfl⟩ (Nat.le_of_ble_eq_true rfl) (Nat.le_of_ble_eq_true rfl) dL_isSame_26
    · refine lv_lconst (v := 1) hx hb dL_isSame_10 (by decide) ?_
      refine lv_goto (tgt := 15) hx hb dL_isSame_11 (by decide) ?_
      refine pfN (ty := .long) (k0 := 36) hX hB cw_o rfl in6 tyX6_ok nmX6 0 (by decide) wn_2_149 rfl rfl rfl rfl rfl (Nat.le_of_ble_eq_true rfl) (w1 := cw κ a Y.2.2.1 Y.2.2.2.1 Y.2.2.2.2 ++ [Ot o 1 v]) cw_oS dL_isSame_15 (fun H locs hB => ?_)
      refine lv_goto (tgt := 25) hx hb dL_isSame_18 (by decide) ?_
      refine lv_iconst (v := 0) hx hb dL_isSame_25 (by decide) ?_
      rw [← hQ]
      exact end_i hX hB hA3 rfl rfl ⟨0, 1, v, rfl, ho, hq, Or.inl ⟨hE0, rfl, (by rw [bx.resolve_left c1]; exact t64a.symm)⟩, rfl⟩ (Nat.le_of_ble_eq_true rfl) (Nat.le_of_ble_eq_true rfl) dL_isSame_26
set_option maxHeartbeats 4000000 in
set_option maxRecDepth 100000 in
theorem w_determinant (κ : Kt) (l : Launch) (hst : l.stackTraces = false) (a : Nat → Nat) (r q : Nat → Int32) (f : Nat → Nat → Int64) (o : Nat) (n : Int64) (v : Value) (p0 : Int32) (p1 : Int32) (hok : okr r) (Y : CRs) (hY : D_X5_determinant r q f p0 p1 = Y) : CMW κ l yL_determinant cL_determinant 5 (Option.some Jvm.ClassFile.FieldType.int) [(0, 11, 14, 19), (0, 11, 18, 21), (0, 11, 22, 97)] 8 211 4 24 [.ref (a 0), .int p0, .int p1, .ref o] (cw κ a r q f ++ [Ot o n v]) (fun u w' => ∃ (k : Int32) (n' : Int64) (v' : Value), u = some (.int k) ∧ (okr r → okr Y.2.2.1) ∧ Y.2.2.2.1 4 = q 4 ∧ Wc ([("java/lang/IndexOutOfBoundsException", 1), ("java/lang/IllegalArgumentException", 2), ("java/lang/IllegalStateException", 3)] : List (String × Int32)) Y.1 Y.2.1 k n' ∧ w' = cw κ a Y.2.2.1 Y.2.2.2.1 Y.2.2.2.2 ++ [Ot o n' v']) := by
  refine CMW_begin (by decide) (Nat.le_of_ble_eq_true rfl) ?_
  intro p e s m args below meth c A Q hX hT hA3 hQ hB ls hl
  have hx := hX.1.1
  have hb := hX.1.2.1
  have hl : lv_has ls 5 [(0, .ref (a 0)), (1, .int p0), (2, .int p1), (3, .ref o)] := hl
  refine lv_aload_n hx hb dL_determinant_0 rfl (lv_at hl 3 rfl) ?_
  refine lv_aload_n hx hb dL_determinant_1 rfl (lv_at hl 0 rfl) ?_
  refine lv_iload_n hx hb dL_determinant_2 rfl (lv_at hl 1 rfl) ?_
  refine lv_iload_n hx hb dL_determinant_3 rfl (lv_at hl 2 rfl) ?_
  refine CX_after2 hX hB (run_XV (n := 2) (k0 := 0) (As := [.int p0, .int p1]) (rest := [.ref o]) hX hB (CX_frame [Ot o n v] (k_X5_determinant κ l hst a r q f p0 p1 _ _ _ _ _ (hY.trans (te5 Y)))) ⟨rfl, yk_X5_determinant⟩ wm_5_22 wm_5_23 wm_5_24 wm_1_1 wm_5_25 ⟨Nat.le_of_ble_eq_true rfl, Nat.le_of_ble_eq_true rfl⟩ ⟨Nat.le_of_ble_eq_true rfl, Nat.le_of_ble_eq_true rfl⟩ (app_at cw0) rfl rfl rfl hl.1 rfl (Nat.le_of_ble_eq_true rfl) dL_determinant_4) (fun E ce q9 w' H locs hp hB hce hcv hcl => ?_) (fun o9 w' H locs hp hB => ?_)
  · obtain ⟨_, ⟨hEE, hE, ho, hq, rfl⟩, rfl⟩ := hp
    rw [hEE] at hE
    rcases List.mem_cons.mp hE with rfl | hE
    · refine vx_catch hX.1.2.2.2.1 [] ⟨0, 11, 14, 19⟩ [⟨0, 11, 18, 21⟩, ⟨0, 11, 22, 97⟩] hT (fun z hz => absurd hz List.not_mem_nil) (by decide) (by decide) (hX.1.2.2.2.2 _ wm_2_159) (va_Nw.use rfl (hX.2.1.2.1.use wn_2_171)) hce hcv hcl ?_
      refine lv_astore (lv' := [(4, .ref q9), (0, .ref (a 0)), (1, .int p0), (2, .int p1), (3, .ref o)]) hx hb dL_determinant_14 hl (by decide) rfl (fun ls hl => ?_)
      refine lv_iconst (v := 1) hx hb dL_determinant_16 (by decide) ?_
      rw [← hQ]
      exact end_i hX hB hA3 rfl rfl ⟨1, n, v, rfl, ho, hq, Or.inr ⟨("java/lang/IndexOutOfBoundsException", 1), List.mem_cons_self, hEE, rfl⟩, rfl⟩ (Nat.le_of_ble_eq_true rfl) (Nat.le_of_ble_eq_true rfl) dL_determinant_17
    rcases List.mem_cons.mp hE with rfl | hE
    · refine vx_catch hX.1.2.2.2.1 [⟨0, 11, 14, 19⟩] ⟨0, 11, 18, 21⟩ [⟨0, 11, 22, 97⟩] hT (List.forall_mem_cons.mpr ⟨(Or.inr ⟨by decide, "java/lang/IndexOutOfBoundsException", hX.1.2.2.2.2 _ wm_2_159, hX.2.1.2.2.1.2.2.2.2.2.1⟩), fun z hz => absurd hz List.not_mem_nil⟩) (by decide) (by decide) (hX.1.2.2.2.2 _ wm_2_160) (va_Nw.use rfl (hX.2.1.2.1.use wn_3_5)) hce hcv hcl ?_
      refine lv_astore (lv' := [(4, .ref q9), (0, .ref (a 0)), (1, .int p0), (2, .int p1), (3, .ref o)]) hx hb dL_determinant_18 hl (by decide) rfl (fun ls hl => ?_)
      refine lv_iconst (v := 2) hx hb dL_determinant_20 (by decide) ?_
      rw [← hQ]
      exact end_i hX hB hA3 rfl rfl ⟨2, n, v, rfl, ho, hq, Or.inr ⟨("java/lang/IllegalArgumentException", 2), (List.mem_cons_of_mem _ List.mem_cons_self), hEE, rfl⟩, rfl⟩ (Nat.le_of_ble_eq_true rfl) (Nat.le_of_ble_eq_true rfl) dL_determinant_21
    rcases List.mem_cons.mp hE with rfl | hE
    · refine vx_catch hX.1.2.2.2.1 [⟨0, 11, 14, 19⟩, ⟨0, 11, 18, 21⟩] ⟨0, 11, 22, 97⟩ [] hT (List.forall_mem_cons.mpr ⟨(Or.inr ⟨by decide, "java/lang/IndexOutOfBoundsException", hX.1.2.2.2.2 _ wm_2_159, hX.2.1.2.2.1.2.2.2.2.2.2.1⟩), List.forall_mem_cons.mpr ⟨(Or.inr ⟨by decide, "java/lang/IllegalArgumentException", hX.1.2.2.2.2 _ wm_2_160, hX.2.1.2.2.1.2.2.2.2.2.2.2.1⟩), fun z hz => absurd hz List.not_mem_nil⟩⟩) (by decide) (by decide) (hX.1.2.2.2.2 _ wm_5_21) (va_Nw.use rfl (hX.2.1.2.1.use wn_5_31)) hce hcv hcl ?_
      refine lv_astore (lv' := [(4, .ref q9), (0, .ref (a 0)), (1, .int p0), (2, .int p1), (3, .ref o)]) hx hb dL_determinant_22 hl (by decide) rfl (fun ls hl => ?_)
      refine lv_iconst (v := 3) hx hb dL_determinant_24 (by decide) ?_
      rw [← hQ]
      exact end_i hX hB hA3 rfl rfl ⟨3, n, v, rfl, ho, hq, Or.inr ⟨("java/lang/IllegalStateException", 3), (List.mem_cons_of_mem _ (List.mem_cons_of_mem _ List.mem_cons_self)), hEE, rfl⟩, rfl⟩ (Nat.le_of_ble_eq_true rfl) (Nat.le_of_ble_eq_true rfl) dL_determinant_25
    exact absurd hE List.not_mem_nil
  · obtain ⟨_, ⟨hE0, rfl, ho, hq, rfl⟩, rfl⟩ := hp
    refine W.eq (g2 := F0 m 7 ls [.int Y.2.1, .ref o]) rfl ?_
    refine lv_i2l hx hb dL_determinant_7 rfl ?_
    refine pfN (ty := .long) (k0 := 36) hX hB cw_o rfl in6 tyX6_ok nmX6 0 (by decide) wn_2_149 rfl rfl rfl rfl rfl (Nat.le_of_ble_eq_true rfl) (w1 := cw κ a Y.2.2.1 Y.2.2.2.1 Y.2.2.2.2 ++ [Ot o (Y.2.1.toInt64) v]) cw_oS dL_determinant_8 (fun H locs hB => ?_)
    refine lv_goto (tgt := 26) hx hb dL_determinant_11 (by decide) ?_
    refine lv_iconst (v := 0) hx hb dL_determinant_26 (by decide) ?_
    rw [← hQ]
    exact end_i hX hB hA3 rfl rfl ⟨0, (Y.2.1.toInt64), v, rfl, ho, hq, Or.inl ⟨hE0, rfl, rfl⟩, rfl⟩ (Nat.le_of_ble_eq_true rfl) (Nat.le_of_ble_eq_true rfl) dL_determinant_27
set_option maxHeartbeats 4000000 in
set_option maxRecDepth 100000 in
theorem w_minor (κ : Kt) (l : Launch) (hst : l.stackTraces = false) (a : Nat → Nat) (r q : Nat → Int32) (f : Nat → Nat → Int64) (o : Nat) (n : Int64) (v : Value) (p0 : Int32) (p1 : Int32) (p2 : Int32) (hok : okr r) (Y : CRs) (hY : D_X5_minor r q f p0 p1 p2 = Y) : CMW κ l yL_minor cL_minor 6 (Option.some Jvm.ClassFile.FieldType.int) [(0, 13, 16, 19), (0, 13, 20, 21)] 8 169 3 18 [.ref (a 0), .int p0, .int p1, .int p2, .ref o] (cw κ a r q f ++ [Ot o n v]) (fun u w' => ∃ (k : Int32) (n' : Int64) (v' : Value), u = some (.int k) ∧ (okr r → okr Y.2.2.1) ∧ Y.2.2.2.1 4 = q 4 ∧ Wc ([("java/lang/IndexOutOfBoundsException", 1), ("java/lang/IllegalArgumentException", 2)] : List (String × Int32)) Y.1 Y.2.1 k n' ∧ w' = cw κ a Y.2.2.1 Y.2.2.2.1 Y.2.2.2.2 ++ [Ot o n' v']) := by
  refine CMW_begin (by decide) (Nat.le_of_ble_eq_true rfl) ?_
  intro p e s m args below meth c A Q hX hT hA3 hQ hB ls hl
  have hx := hX.1.1
  have hb := hX.1.2.1
  have hl : lv_has ls 6 [(0, .ref (a 0)), (1, .int p0), (2, .int p1), (3, .int p2), (4, .ref o)] := hl
  refine lv_aload hx hb dL_minor_0 (lv_at hl 4 rfl) ?_
  refine lv_aload_n hx hb dL_minor_2 rfl (lv_at hl 0 rfl) ?_
  refine lv_iload_n hx hb dL_minor_3 rfl (lv_at hl 1 rfl) ?_
  refine lv_iload_n hx hb dL_minor_4 rfl (lv_at hl 2 rfl) ?_
  refine lv_iload_n hx hb dL_minor_5 rfl (lv_at hl 3 rfl) ?_
  refine CX_after2 hX hB (run_XV (n := 3) (k0 := 0) (As := [.int p0, .int p1, .int p2]) (rest := [.ref o]) hX hB (CX_frame [Ot o n v] (k_X5_minor κ l hst a r q f p0 p1 p2 _ _ _ _ _ (hY.trans (te5 Y)))) ⟨rfl, yk_X5_minor⟩ wm_5_48 wm_5_49 wm_5_50 wm_1_1 wm_5_51 ⟨Nat.le_of_ble_eq_true rfl, Nat.le_of_ble_eq_true rfl⟩ ⟨Nat.le_of_ble_eq_true rfl, Nat.le_of_ble_eq_true rfl⟩ (app_at cw0) rfl rfl rfl hl.1 rfl (Nat.le_of_ble_eq_true rfl) dL_minor_6) (fun E ce q9 w' H locs hp hB hce hcv hcl => ?_) (fun o9 w' H locs hp hB => ?_)
  · obtain ⟨_, ⟨hEE, hE, ho, hq, rfl⟩, rfl⟩ := hp
    rw [hEE] at hE
    rcases List.mem_cons.mp hE with rfl | hE
    · refine vx_catch hX.1.2.2.2.1 [] ⟨0, 13, 16, 19⟩ [⟨0, 13, 20, 21⟩] hT (fun z hz => absurd hz List.not_mem_nil) (by decide) (by decide) (hX.1.2.2.2.2 _ wm_2_159) (va_Nw.use rfl (hX.2.1.2.1.use wn_2_171)) hce hcv hcl ?_
      refine lv_astore (lv' := [(5, .ref q9), (0, .ref (a 0)), (1, .int p0), (2, .int p1), (3, .int p2), (4, .ref o)]) hx hb dL_minor_16 hl (by decide) rfl (fun ls hl => ?_)
      refine lv_iconst (v := 1) hx hb dL_minor_18 (by decide) ?_
      rw [← hQ]
      exact end_i hX hB hA3 rfl rfl ⟨1, n, v, rfl, ho, hq, Or.inr ⟨("java/lang/IndexOutOfBoundsException", 1), List.mem_cons_self, hEE, rfl⟩, rfl⟩ (Nat.le_of_ble_eq_true rfl) (Nat.le_of_ble_eq_true rfl) dL_minor_19
    rcases List.mem_cons.mp hE with rfl | hE
    · refine vx_catch hX.1.2.2.2.1 [⟨0, 13, 16, 19⟩] ⟨0, 13, 20, 21⟩ [] hT (List.forall_mem_cons.mpr ⟨(Or.inr ⟨by decide, "java/lang/IndexOutOfBoundsException", hX.1.2.2.2.2 _ wm_2_159, hX.2.1.2.2.1.2.2.2.2.2.1⟩), fun z hz => absurd hz List.not_mem_nil⟩) (by decide) (by decide) (hX.1.2.2.2.2 _ wm_2_160) (va_Nw.use rfl (hX.2.1.2.1.use wn_3_5)) hce hcv hcl ?_
      refine lv_astore (lv' := [(5, .ref q9), (0, .ref (a 0)), (1, .int p0), (2, .int p1), (3, .int p2), (4, .ref o)]) hx hb dL_minor_20 hl (by decide) rfl (fun ls hl => ?_)
      refine lv_iconst (v := 2) hx hb dL_minor_22 (by decide) ?_
      rw [← hQ]
      exact end_i hX hB hA3 rfl rfl ⟨2, n, v, rfl, ho, hq, Or.inr ⟨("java/lang/IllegalArgumentException", 2), (List.mem_cons_of_mem _ List.mem_cons_self), hEE, rfl⟩, rfl⟩ (Nat.le_of_ble_eq_true rfl) (Nat.le_of_ble_eq_true rfl) dL_minor_23
    exact absurd hE List.not_mem_nil
  · obtain ⟨_, ⟨hE0, rfl, ho, hq, rfl⟩, rfl⟩ := hp
    refine W.eq (g2 := F0 m 9 ls [.int Y.2.1, .ref o]) rfl ?_
    refine lv_i2l hx hb dL_minor_9 rfl ?_
    refine pfN (ty := .long) (k0 := 36) hX hB cw_o rfl in6 tyX6_ok nmX6 0 (by decide) wn_2_149 rfl rfl rfl rfl rfl (Nat.le_of_ble_eq_true rfl) (w1 := cw κ a Y.2.2.1 Y.2.2.2.1 Y.2.2.2.2 ++ [Ot o (Y.2.1.toInt64) v]) cw_oS dL_minor_10 (fun H locs hB => ?_)
    refine lv_goto (tgt := 24) hx hb dL_minor_13 (by decide) ?_
    refine lv_iconst (v := 0) hx hb dL_minor_24 (by decide) ?_
    rw [← hQ]
    exact end_i hX hB hA3 rfl rfl ⟨0, (Y.2.1.toInt64), v, rfl, ho, hq, Or.inl ⟨hE0, rfl, rfl⟩, rfl⟩ (Nat.le_of_ble_eq_true rfl) (Nat.le_of_ble_eq_true rfl) dL_minor_25
set_option maxHeartbeats 4000000 in
set_option maxRecDepth 100000 in
theorem w_divisor (κ : Kt) (l : Launch) (hst : l.stackTraces = false) (a : Nat → Nat) (r q : Nat → Int32) (f : Nat → Nat → Int64) (o : Nat) (n : Int64) (v : Value) (p0 : Int32) (p1 : Int32) (hok : okr r) (Y : CRs) (hY : D_X5_divisor r q f p0 p1 = Y) : CMW κ l yL_divisor cL_divisor 5 (Option.some Jvm.ClassFile.FieldType.int) [(0, 11, 14, 19), (0, 11, 18, 21)] 8 194 2 12 [.ref (a 0), .int p0, .int p1, .ref o] (cw κ a r q f ++ [Ot o n v]) (fun u w' => ∃ (k : Int32) (n' : Int64) (v' : Value), u = some (.int k) ∧ (okr r → okr Y.2.2.1) ∧ Y.2.2.2.1 4 = q 4 ∧ Wc ([("java/lang/IndexOutOfBoundsException", 1), ("java/lang/IllegalArgumentException", 2)] : List (String × Int32)) Y.1 Y.2.1 k n' ∧ w' = cw κ a Y.2.2.1 Y.2.2.2.1 Y.2.2.2.2 ++ [Ot o n' v']) := by
  refine CMW_begin (by decide) (Nat.le_of_ble_eq_true rfl) ?_
  intro p e s m args below meth c A Q hX hT hA3 hQ hB ls hl
  have hx := hX.1.1
  have hb := hX.1.2.1
  have hl : lv_has ls 5 [(0, .ref (a 0)), (1, .int p0), (2, .int p1), (3, .ref o)] := hl
  refine lv_aload_n hx hb dL_divisor_0 rfl (lv_at hl 3 rfl) ?_
  refine lv_aload_n hx hb dL_divisor_1 rfl (lv_at hl 0 rfl) ?_
  refine lv_iload_n hx hb dL_divisor_2 rfl (lv_at hl 1 rfl) ?_
  refine lv_iload_n hx hb dL_divisor_3 rfl (lv_at hl 2 rfl) ?_
  refine CX_after2 hX hB (run_XV (n := 2) (k0 := 0) (As := [.int p0, .int p1]) (rest := [.ref o]) hX hB (CX_frame [Ot o n v] (k_X5_divisor κ l hst a r q f p0 p1 _ _ _ _ _ (hY.trans (te5 Y)))) ⟨rfl, yk_X5_divisor⟩ wm_5_57 wm_5_58 wm_5_59 wm_1_1 wm_5_60 ⟨Nat.le_of_ble_eq_true rfl, Nat.le_of_ble_eq_true rfl⟩ ⟨Nat.le_of_ble_eq_true rfl, Nat.le_of_ble_eq_true rfl⟩ (app_at cw0) rfl rfl rfl hl.1 rfl (Nat.le_of_ble_eq_true rfl) dL_divisor_4) (fun E ce q9 w' H locs hp hB hce hcv hcl => ?_) (fun o9 w' H locs hp hB => ?_)
  · obtain ⟨_, ⟨hEE, hE, ho, hq, rfl⟩, rfl⟩ := hp
    rw [hEE] at hE
    rcases List.mem_cons.mp hE with rfl | hE
    · refine vx_catch hX.1.2.2.2.1 [] ⟨0, 11, 14, 19⟩ [⟨0, 11, 18, 21⟩] hT (fun z hz => absurd hz List.not_mem_nil) (by decide) (by decide) (hX.1.2.2.2.2 _ wm_2_159) (va_Nw.use rfl (hX.2.1.2.1.use wn_2_171)) hce hcv hcl ?_
      refine lv_astore (lv' := [(4, .ref q9), (0, .ref (a 0)), (1, .int p0), (2, .int p1), (3, .ref o)]) hx hb dL_divisor_14 hl (by decide) rfl (fun ls hl => ?_)
      refine lv_iconst (v := 1) hx hb dL_divisor_16 (by decide) ?_
      rw [← hQ]
      exact end_i hX hB hA3 rfl rfl ⟨1, n, v, rfl, ho, hq, Or.inr ⟨("java/lang/IndexOutOfBoundsException", 1), List.mem_cons_self, hEE, rfl⟩, rfl⟩ (Nat.le_of_ble_eq_true rfl) (Nat.le_of_ble_eq_true rfl) dL_divisor_17
    rcases List.mem_cons.mp hE with rfl | hE
    · refine vx_catch hX.1.2.2.2.1 [⟨0, 11, 14, 19⟩] ⟨0, 11, 18, 21⟩ [] hT (List.forall_mem_cons.mpr ⟨(Or.inr ⟨by decide, "java/lang/IndexOutOfBoundsException", hX.1.2.2.2.2 _ wm_2_159, hX.2.1.2.2.1.2.2.2.2.2.1⟩), fun z hz => absurd hz List.not_mem_nil⟩) (by decide) (by decide) (hX.1.2.2.2.2 _ wm_2_160) (va_Nw.use rfl (hX.2.1.2.1.use wn_3_5)) hce hcv hcl ?_
      refine lv_astore (lv' := [(4, .ref q9), (0, .ref (a 0)), (1, .int p0), (2, .int p1), (3, .ref o)]) hx hb dL_divisor_18 hl (by decide) rfl (fun ls hl => ?_)
      refine lv_iconst (v := 2) hx hb dL_divisor_20 (by decide) ?_
      rw [← hQ]
      exact end_i hX hB hA3 rfl rfl ⟨2, n, v, rfl, ho, hq, Or.inr ⟨("java/lang/IllegalArgumentException", 2), (List.mem_cons_of_mem _ List.mem_cons_self), hEE, rfl⟩, rfl⟩ (Nat.le_of_ble_eq_true rfl) (Nat.le_of_ble_eq_true rfl) dL_divisor_21
    exact absurd hE List.not_mem_nil
  · obtain ⟨_, ⟨hE0, rfl, ho, hq, rfl⟩, rfl⟩ := hp
    refine W.eq (g2 := F0 m 7 ls [.int Y.2.1, .ref o]) rfl ?_
    refine lv_i2l hx hb dL_divisor_7 rfl ?_
    refine pfN (ty := .long) (k0 := 36) hX hB cw_o rfl in6 tyX6_ok nmX6 0 (by decide) wn_2_149 rfl rfl rfl rfl rfl (Nat.le_of_ble_eq_true rfl) (w1 := cw κ a Y.2.2.1 Y.2.2.2.1 Y.2.2.2.2 ++ [Ot o (Y.2.1.toInt64) v]) cw_oS dL_divisor_8 (fun H locs hB => ?_)
    refine lv_goto (tgt := 22) hx hb dL_divisor_11 (by decide) ?_
    refine lv_iconst (v := 0) hx hb dL_divisor_22 (by decide) ?_
    rw [← hQ]
    exact end_i hX hB hA3 rfl rfl ⟨0, (Y.2.1.toInt64), v, rfl, ho, hq, Or.inl ⟨hE0, rfl, rfl⟩, rfl⟩ (Nat.le_of_ble_eq_true rfl) (Nat.le_of_ble_eq_true rfl) dL_divisor_23
set_option maxHeartbeats 4000000 in
set_option maxRecDepth 100000 in
theorem w_rank (κ : Kt) (l : Launch) (hst : l.stackTraces = false) (a : Nat → Nat) (r q : Nat → Int32) (f : Nat → Nat → Int64) (o : Nat) (n : Int64) (v : Value) (p0 : Int32) (p1 : Int32) (hok : okr r) (Y : CRs) (hY : D_X5_rank r q f p0 p1 = Y) : CMW κ l yL_rank cL_rank 5 (Option.some Jvm.ClassFile.FieldType.int) [(0, 11, 14, 19), (0, 11, 18, 21), (0, 11, 22, 97)] 8 216 3 18 [.ref (a 0), .int p0, .int p1, .ref o] (cw κ a r q f ++ [Ot o n v]) (fun u w' => ∃ (k : Int32) (n' : Int64) (v' : Value), u = some (.int k) ∧ (okr r → okr Y.2.2.1) ∧ Y.2.2.2.1 4 = q 4 ∧ Wc ([("java/lang/IndexOutOfBoundsException", 1), ("java/lang/IllegalArgumentException", 2), ("java/lang/IllegalStateException", 3)] : List (String × Int32)) Y.1 Y.2.1 k n' ∧ w' = cw κ a Y.2.2.1 Y.2.2.2.1 Y.2.2.2.2 ++ [Ot o n' v']) := by
  refine CMW_begin (by decide) (Nat.le_of_ble_eq_true rfl) ?_
  intro p e s m args below meth c A Q hX hT hA3 hQ hB ls hl
  have hx := hX.1.1
  have hb := hX.1.2.1
  have hl : lv_has ls 5 [(0, .ref (a 0)), (1, .int p0), (2, .int p1), (3, .ref o)] := hl
  refine lv_aload_n hx hb dL_rank_0 rfl (lv_at hl 3 rfl) ?_
  refine lv_aload_n hx hb dL_rank_1 rfl (lv_at hl 0 rfl) ?_
  refine lv_iload_n hx hb dL_rank_2 rfl (lv_at hl 1 rfl) ?_
  refine lv_iload_n hx hb dL_rank_3 rfl (lv_at hl 2 rfl) ?_
  refine CX_after2 hX hB (run_XV (n := 2) (k0 := 0) (As := [.int p0, .int p1]) (rest := [.ref o]) hX hB (CX_frame [Ot o n v] (k_X5_rank κ l hst a r q f p0 p1 hok _ _ _ _ _ (hY.trans (te5 Y)))) ⟨rfl, yk_X5_rank⟩ wm_5_64 wm_5_65 wm_5_66 wm_1_1 wm_5_67 ⟨Nat.le_of_ble_eq_true rfl, Nat.le_of_ble_eq_true rfl⟩ ⟨Nat.le_of_ble_eq_true rfl, Nat.le_of_ble_eq_true rfl⟩ (app_at cw0) rfl rfl rfl hl.1 rfl (Nat.le_of_ble_eq_true rfl) dL_rank_4) (fun E ce q9 w' H locs hp hB hce hcv hcl => ?_) (fun o9 w' H locs hp hB => ?_)
  · obtain ⟨_, ⟨hEE, hE, ho, hq, rfl⟩, rfl⟩ := hp
    rw [hEE] at hE
    rcases List.mem_cons.mp hE with rfl | hE
    · refine vx_catch hX.1.2.2.2.1 [] ⟨0, 11, 14, 19⟩ [⟨0, 11, 18, 21⟩, ⟨0, 11, 22, 97⟩] hT (fun z hz => absurd hz List.not_mem_nil) (by decide) (by decide) (hX.1.2.2.2.2 _ wm_2_159) (va_Nw.use rfl (hX.2.1.2.1.use wn_2_171)) hce hcv hcl ?_
      refine lv_astore (lv' := [(4, .ref q9), (0, .ref (a 0)), (1, .int p0), (2, .int p1), (3, .ref o)]) hx hb dL_rank_14 hl (by decide) rfl (fun ls hl => ?_)
      refine lv_iconst (v := 1) hx hb dL_rank_16 (by decide) ?_
      rw [← hQ]
      exact end_i hX hB hA3 rfl rfl ⟨1, n, v, rfl, ho, hq, Or.inr ⟨("java/lang/IndexOutOfBoundsException", 1), List.mem_cons_self, hEE, rfl⟩, rfl⟩ (Nat.le_of_ble_eq_true rfl) (Nat.le_of_ble_eq_true rfl) dL_rank_17
    rcases List.mem_cons.mp hE with rfl | hE
    · refine vx_catch hX.1.2.2.2.1 [⟨0, 11, 14, 19⟩] ⟨0, 11, 18, 21⟩ [⟨0, 11, 22, 97⟩] hT (List.forall_mem_cons.mpr ⟨(Or.inr ⟨by decide, "java/lang/IndexOutOfBoundsException", hX.1.2.2.2.2 _ wm_2_159, hX.2.1.2.2.1.2.2.2.2.2.1⟩), fun z hz => absurd hz List.not_mem_nil⟩) (by decide) (by decide) (hX.1.2.2.2.2 _ wm_2_160) (va_Nw.use rfl (hX.2.1.2.1.use wn_3_5)) hce hcv hcl ?_
      refine lv_astore (lv' := [(4, .ref q9), (0, .ref (a 0)), (1, .int p0), (2, .int p1), (3, .ref o)]) hx hb dL_rank_18 hl (by decide) rfl (fun ls hl => ?_)
      refine lv_iconst (v := 2) hx hb dL_rank_20 (by decide) ?_
      rw [← hQ]
      exact end_i hX hB hA3 rfl rfl ⟨2, n, v, rfl, ho, hq, Or.inr ⟨("java/lang/IllegalArgumentException", 2), (List.mem_cons_of_mem _ List.mem_cons_self), hEE, rfl⟩, rfl⟩ (Nat.le_of_ble_eq_true rfl) (Nat.le_of_ble_eq_true rfl) dL_rank_21
    rcases List.mem_cons.mp hE with rfl | hE
    · refine vx_catch hX.1.2.2.2.1 [⟨0, 11, 14, 19⟩, ⟨0, 11, 18, 21⟩] ⟨0, 11, 22, 97⟩ [] hT (List.forall_mem_cons.mpr ⟨(Or.inr ⟨by decide, "java/lang/IndexOutOfBoundsException", hX.1.2.2.2.2 _ wm_2_159, hX.2.1.2.2.1.2.2.2.2.2.2.1⟩), List.forall_mem_cons.mpr ⟨(Or.inr ⟨by decide, "java/lang/IllegalArgumentException", hX.1.2.2.2.2 _ wm_2_160, hX.2.1.2.2.1.2.2.2.2.2.2.2.1⟩), fun z hz => absurd hz List.not_mem_nil⟩⟩) (by decide) (by decide) (hX.1.2.2.2.2 _ wm_5_21) (va_Nw.use rfl (hX.2.1.2.1.use wn_5_31)) hce hcv hcl ?_
      refine lv_astore (lv' := [(4, .ref q9), (0, .ref (a 0)), (1, .int p0), (2, .int p1), (3, .ref o)]) hx hb dL_rank_22 hl (by decide) rfl (fun ls hl => ?_)
      refine lv_iconst (v := 3) hx hb dL_rank_24 (by decide) ?_
      rw [← hQ]
      exact end_i hX hB hA3 rfl rfl ⟨3, n, v, rfl, ho, hq, Or.inr ⟨("java/lang/IllegalStateException", 3), (List.mem_cons_of_mem _ (List.mem_cons_of_mem _ List.mem_cons_self)), hEE, rfl⟩, rfl⟩ (Nat.le_of_ble_eq_true rfl) (Nat.le_of_ble_eq_true rfl) dL_rank_25
    exact absurd hE List.not_mem_nil
  · obtain ⟨_, ⟨hE0, rfl, ho, hq, rfl⟩, rfl⟩ := hp
    refine W.eq (g2 := F0 m 7 ls [.int Y.2.1, .ref o]) rfl ?_
    refine lv_i2l hx hb dL_rank_7 rfl ?_
    refine pfN (ty := .long) (k0 := 36) hX hB cw_o rfl in6 tyX6_ok nmX6 0 (by decide) wn_2_149 rfl rfl rfl rfl rfl (Nat.le_of_ble_eq_true rfl) (w1 := cw κ a Y.2.2.1 Y.2.2.2.1 Y.2.2.2.2 ++ [Ot o (Y.2.1.toInt64) v]) cw_oS dL_rank_8 (fun H locs hB => ?_)
    refine lv_goto (tgt := 26) hx hb dL_rank_11 (by decide) ?_
    refine lv_iconst (v := 0) hx hb dL_rank_26 (by decide) ?_
    rw [← hQ]
    exact end_i hX hB hA3 rfl rfl ⟨0, (Y.2.1.toInt64), v, rfl, ho, hq, Or.inl ⟨hE0, rfl, rfl⟩, rfl⟩ (Nat.le_of_ble_eq_true rfl) (Nat.le_of_ble_eq_true rfl) dL_rank_27
set_option maxHeartbeats 4000000 in
set_option maxRecDepth 100000 in
theorem w_told (κ : Kt) (l : Launch) (hst : l.stackTraces = false) (a : Nat → Nat) (r q : Nat → Int32) (f : Nat → Nat → Int64) (o : Nat) (n : Int64) (v : Value) (p0 : Int32) (p1 : Int32) (p2 : Int32) (p3 : Int32) (hok : okr r) (Y : CRs) (hY : D_X5_told r q f p0 p1 p2 p3 = Y) : CMW κ l yL_told cL_told 7 (Option.some Jvm.ClassFile.FieldType.int) [(0, 15, 18, 19), (0, 15, 22, 21), (0, 15, 26, 97)] 8 174 4 24 [.ref (a 0), .int p0, .int p1, .int p2, .int p3, .ref o] (cw κ a r q f ++ [Ot o n v]) (fun u w' => ∃ (k : Int32) (n' : Int64) (v' : Value), u = some (.int k) ∧ (okr r → okr Y.2.2.1) ∧ Y.2.2.2.1 4 = q 4 ∧ Wc ([("java/lang/IndexOutOfBoundsException", 1), ("java/lang/IllegalArgumentException", 2), ("java/lang/IllegalStateException", 3)] : List (String × Int32)) Y.1 Y.2.1 k n' ∧ w' = cw κ a Y.2.2.1 Y.2.2.2.1 Y.2.2.2.2 ++ [Ot o n' v']) := by
  refine CMW_begin (by decide) (Nat.le_of_ble_eq_true rfl) ?_
  intro p e s m args below meth c A Q hX hT hA3 hQ hB ls hl
  have hx := hX.1.1
  have hb := hX.1.2.1
  have hl : lv_has ls 7 [(0, .ref (a 0)), (1, .int p0), (2, .int p1), (3, .int p2), (4, .int p3), (5, .ref o)] := hl
  refine lv_aload hx hb dL_told_0 (lv_at hl 5 rfl) ?_
  refine lv_aload_n hx hb dL_told_2 rfl (lv_at hl 0 rfl) ?_
  refine lv_iload_n hx hb dL_told_3 rfl (lv_at hl 1 rfl) ?_
  refine lv_iload_n hx hb dL_told_4 rfl (lv_at hl 2 rfl) ?_
  refine lv_iload_n hx hb dL_told_5 rfl (lv_at hl 3 rfl) ?_
  refine lv_iload hx hb dL_told_6 (lv_at hl 4 rfl) ?_
  refine CX_after2 hX hB (run_XV (n := 4) (k0 := 0) (As := [.int p0, .int p1, .int p2, .int p3]) (rest := [.ref o]) hX hB (CX_frame [Ot o n v] (k_X5_told κ l hst a r q f p0 p1 p2 p3 _ _ _ _ _ (hY.trans (te5 Y)))) ⟨rfl, yk_X5_told⟩ wm_5_71 wm_5_72 wm_5_73 wm_1_1 wm_5_74 ⟨Nat.le_of_ble_eq_true rfl, Nat.le_of_ble_eq_true rfl⟩ ⟨Nat.le_of_ble_eq_true rfl, Nat.le_of_ble_eq_true rfl⟩ (app_at cw0) rfl rfl rfl hl.1 rfl (Nat.le_of_ble_eq_true rfl) dL_told_8) (fun E ce q9 w' H locs hp hB hce hcv hcl => ?_) (fun o9 w' H locs hp hB => ?_)
  · obtain ⟨_, ⟨hEE, hE, ho, hq, rfl⟩, rfl⟩ := hp
    rw [hEE] at hE
    rcases List.mem_cons.mp hE with rfl | hE
    · refine vx_catch hX.1.2.2.2.1 [] ⟨0, 15, 18, 19⟩ [⟨0, 15, 22, 21⟩, ⟨0, 15, 26, 97⟩] hT (fun z hz => absurd hz List.not_mem_nil) (by decide) (by decide) (hX.1.2.2.2.2 _ wm_2_159) (va_Nw.use rfl (hX.2.1.2.1.use wn_2_171)) hce hcv hcl ?_
      refine lv_astore (lv' := [(6, .ref q9), (0, .ref (a 0)), (1, .int p0), (2, .int p1), (3, .int p2), (4, .int p3), (5, .ref o)]) hx hb dL_told_18 hl (by decide) rfl (fun ls hl => ?_)
      refine lv_iconst (v := 1) hx hb dL_told_20 (by decide) ?_
      rw [← hQ]
      exact end_i hX hB hA3 rfl rfl ⟨1, n, v, rfl, ho, hq, Or.inr ⟨("java/lang/IndexOutOfBoundsException", 1), List.mem_cons_self, hEE, rfl⟩, rfl⟩ (Nat.le_of_ble_eq_true rfl) (Nat.le_of_ble_eq_true rfl) dL_told_21
    rcases List.mem_cons.mp hE with rfl | hE
    · refine vx_catch hX.1.2.2.2.1 [⟨0, 15, 18, 19⟩] ⟨0, 15, 22, 21⟩ [⟨0, 15, 26, 97⟩] hT (List.forall_mem_cons.mpr ⟨(Or.inr ⟨by decide, "java/lang/IndexOutOfBoundsException", hX.1.2.2.2.2 _ wm_2_159, hX.2.1.2.2.1.2.2.2.2.2.1⟩), fun z hz => absurd hz List.not_mem_nil⟩) (by decide) (by decide) (hX.1.2.2.2.2 _ wm_2_160) (va_Nw.use rfl (hX.2.1.2.1.use wn_3_5)) hce hcv hcl ?_
      refine lv_astore (lv' := [(6, .ref q9), (0, .ref (a 0)), (1, .int p0), (2, .int p1), (3, .int p2), (4, .int p3), (5, .ref o)]) hx hb dL_told_22 hl (by decide) rfl (fun ls hl => ?_)
      refine lv_iconst (v := 2) hx hb dL_told_24 (by decide) ?_
      rw [← hQ]
      exact end_i hX hB hA3 rfl rfl ⟨2, n, v, rfl, ho, hq, Or.inr ⟨("java/lang/IllegalArgumentException", 2), (List.mem_cons_of_mem _ List.mem_cons_self), hEE, rfl⟩, rfl⟩ (Nat.le_of_ble_eq_true rfl) (Nat.le_of_ble_eq_true rfl) dL_told_25
    rcases List.mem_cons.mp hE with rfl | hE
    · refine vx_catch hX.1.2.2.2.1 [⟨0, 15, 18, 19⟩, ⟨0, 15, 22, 21⟩] ⟨0, 15, 26, 97⟩ [] hT (List.forall_mem_cons.mpr ⟨(Or.inr ⟨by decide, "java/lang/IndexOutOfBoundsException", hX.1.2.2.2.2 _ wm_2_159, hX.2.1.2.2.1.2.2.2.2.2.2.1⟩), List.forall_mem_cons.mpr ⟨(Or.inr ⟨by decide, "java/lang/IllegalArgumentException", hX.1.2.2.2.2 _ wm_2_160, hX.2.1.2.2.1.2.2.2.2.2.2.2.1⟩), fun z hz => absurd hz List.not_mem_nil⟩⟩) (by decide) (by decide) (hX.1.2.2.2.2 _ wm_5_21) (va_Nw.use rfl (hX.2.1.2.1.use wn_5_31)) hce hcv hcl ?_
      refine lv_astore (lv' := [(6, .ref q9), (0, .ref (a 0)), (1, .int p0), (2, .int p1), (3, .int p2), (4, .int p3), (5, .ref o)]) hx hb dL_told_26 hl (by decide) rfl (fun ls hl => ?_)
      refine lv_iconst (v := 3) hx hb dL_told_28 (by decide) ?_
      rw [← hQ]
      exact end_i hX hB hA3 rfl rfl ⟨3, n, v, rfl, ho, hq, Or.inr ⟨("java/lang/IllegalStateException", 3), (List.mem_cons_of_mem _ (List.mem_cons_of_mem _ List.mem_cons_self)), hEE, rfl⟩, rfl⟩ (Nat.le_of_ble_eq_true rfl) (Nat.le_of_ble_eq_true rfl) dL_told_29
    exact absurd hE List.not_mem_nil
  · obtain ⟨_, ⟨hE0, rfl, ho, hq, rfl⟩, rfl⟩ := hp
    refine W.eq (g2 := F0 m 11 ls [.int Y.2.1, .ref o]) rfl ?_
    refine lv_i2l hx hb dL_told_11 rfl ?_
    refine pfN (ty := .long) (k0 := 36) hX hB cw_o rfl in6 tyX6_ok nmX6 0 (by decide) wn_2_149 rfl rfl rfl rfl rfl (Nat.le_of_ble_eq_true rfl) (w1 := cw κ a Y.2.2.1 Y.2.2.2.1 Y.2.2.2.2 ++ [Ot o (Y.2.1.toInt64) v]) cw_oS dL_told_12 (fun H locs hB => ?_)
    refine lv_goto (tgt := 30) hx hb dL_told_15 (by decide) ?_
    refine lv_iconst (v := 0) hx hb dL_told_30 (by decide) ?_
    rw [← hQ]
    exact end_i hX hB hA3 rfl rfl ⟨0, (Y.2.1.toInt64), v, rfl, ho, hq, Or.inl ⟨hE0, rfl, rfl⟩, rfl⟩ (Nat.le_of_ble_eq_true rfl) (Nat.le_of_ble_eq_true rfl) dL_told_31
set_option maxHeartbeats 4000000 in
set_option maxRecDepth 100000 in
theorem w_change (κ : Kt) (l : Launch) (hst : l.stackTraces = false) (a : Nat → Nat) (r q : Nat → Int32) (f : Nat → Nat → Int64) (o : Nat) (n : Int64) (v : Value) (p0 : Int32) (p1 : Int32) (hok : okr r) (Y : CRs) (hY : D_X5_change r q f p0 p1 = Y) : CMW κ l yL_change cL_change 5 (Option.some Jvm.ClassFile.FieldType.int) [(0, 11, 14, 19), (0, 11, 18, 21), (0, 11, 22, 97)] 8 189 3 18 [.ref (a 0), .int p0, .int p1, .ref o] (cw κ a r q f ++ [Ot o n v]) (fun u w' => ∃ (k : Int32) (n' : Int64) (v' : Value), u = some (.int k) ∧ (okr r → okr Y.2.2.1) ∧ Y.2.2.2.1 4 = q 4 ∧ Wc ([("java/lang/IndexOutOfBoundsException", 1), ("java/lang/IllegalArgumentException", 2), ("java/lang/IllegalStateException", 3)] : List (String × Int32)) Y.1 Y.2.1 k n' ∧ w' = cw κ a Y.2.2.1 Y.2.2.2.1 Y.2.2.2.2 ++ [Ot o n' v']) := by
  refine CMW_begin (by decide) (Nat.le_of_ble_eq_true rfl) ?_
  intro p e s m args below meth c A Q hX hT hA3 hQ hB ls hl
  have hx := hX.1.1
  have hb := hX.1.2.1
  have hl : lv_has ls 5 [(0, .ref (a 0)), (1, .int p0), (2, .int p1), (3, .ref o)] := hl
  refine lv_aload_n hx hb dL_change_0 rfl (lv_at hl 3 rfl) ?_
  refine lv_aload_n hx hb dL_change_1 rfl (lv_at hl 0 rfl) ?_
  refine lv_iload_n hx hb dL_change_2 rfl (lv_at hl 1 rfl) ?_
  refine lv_iload_n hx hb dL_change_3 rfl (lv_at hl 2 rfl) ?_
  refine CX_after2 hX hB (run_XV (n := 2) (k0 := 0) (As := [.int p0, .int p1]) (rest := [.ref o]) hX hB (CX_frame [Ot o n v] (k_X5_change κ l hst a r q f p0 p1 _ _ _ _ _ (hY.trans (te5 Y)))) ⟨rfl, yk_X5_change⟩ wm_5_79 wm_5_80 wm_5_81 wm_1_1 wm_5_82 ⟨Nat.le_of_ble_eq_true rfl, Nat.le_of_ble_eq_true rfl⟩ ⟨Nat.le_of_ble_eq_true rfl, Nat.le_of_ble_eq_true rfl⟩ (app_at cw0) rfl rfl rfl hl.1 rfl (Nat.le_of_ble_eq_true rfl) dL_change_4) (fun E ce q9 w' H locs hp hB hce hcv hcl => ?_) (fun o9 w' H locs hp hB => ?_)
  · obtain ⟨_, ⟨hEE, hE, ho, hq, rfl⟩, rfl⟩ := hp
    rw [hEE] at hE
    rcases List.mem_cons.mp hE with rfl | hE
    · refine vx_catch hX.1.2.2.2.1 [] ⟨0, 11, 14, 19⟩ [⟨0, 11, 18, 21⟩, ⟨0, 11, 22, 97⟩] hT (fun z hz => absurd hz List.not_mem_nil) (by decide) (by decide) (hX.1.2.2.2.2 _ wm_2_159) (va_Nw.use rfl (hX.2.1.2.1.use wn_2_171)) hce hcv hcl ?_
      refine lv_astore (lv' := [(4, .ref q9), (0, .ref (a 0)), (1, .int p0), (2, .int p1), (3, .ref o)]) hx hb dL_change_14 hl (by decide) rfl (fun ls hl => ?_)
      refine lv_iconst (v := 1) hx hb dL_change_16 (by decide) ?_
      rw [← hQ]
      exact end_i hX hB hA3 rfl rfl ⟨1, n, v, rfl, ho, hq, Or.inr ⟨("java/lang/IndexOutOfBoundsException", 1), List.mem_cons_self, hEE, rfl⟩, rfl⟩ (Nat.le_of_ble_eq_true rfl) (Nat.le_of_ble_eq_true rfl) dL_change_17
    rcases List.mem_cons.mp hE with rfl | hE
    · refine vx_catch hX.1.2.2.2.1 [⟨0, 11, 14, 19⟩] ⟨0, 11, 18, 21⟩ [⟨0, 11, 22, 97⟩] hT (List.forall_mem_cons.mpr ⟨(Or.inr ⟨by decide, "java/lang/IndexOutOfBoundsException", hX.1.2.2.2.2 _ wm_2_159, hX.2.1.2.2.1.2.2.2.2.2.1⟩), fun z hz => absurd hz List.not_mem_nil⟩) (by decide) (by decide) (hX.1.2.2.2.2 _ wm_2_160) (va_Nw.use rfl (hX.2.1.2.1.use wn_3_5)) hce hcv hcl ?_
      refine lv_astore (lv' := [(4, .ref q9), (0, .ref (a 0)), (1, .int p0), (2, .int p1), (3, .ref o)]) hx hb dL_change_18 hl (by decide) rfl (fun ls hl => ?_)
      refine lv_iconst (v := 2) hx hb dL_change_20 (by decide) ?_
      rw [← hQ]
      exact end_i hX hB hA3 rfl rfl ⟨2, n, v, rfl, ho, hq, Or.inr ⟨("java/lang/IllegalArgumentException", 2), (List.mem_cons_of_mem _ List.mem_cons_self), hEE, rfl⟩, rfl⟩ (Nat.le_of_ble_eq_true rfl) (Nat.le_of_ble_eq_true rfl) dL_change_21
    rcases List.mem_cons.mp hE with rfl | hE
    · refine vx_catch hX.1.2.2.2.1 [⟨0, 11, 14, 19⟩, ⟨0, 11, 18, 21⟩] ⟨0, 11, 22, 97⟩ [] hT (List.forall_mem_cons.mpr ⟨(Or.inr ⟨by decide, "java/lang/IndexOutOfBoundsException", hX.1.2.2.2.2 _ wm_2_159, hX.2.1.2.2.1.2.2.2.2.2.2.1⟩), List.forall_mem_cons.mpr ⟨(Or.inr ⟨by decide, "java/lang/IllegalArgumentException", hX.1.2.2.2.2 _ wm_2_160, hX.2.1.2.2.1.2.2.2.2.2.2.2.1⟩), fun z hz => absurd hz List.not_mem_nil⟩⟩) (by decide) (by decide) (hX.1.2.2.2.2 _ wm_5_21) (va_Nw.use rfl (hX.2.1.2.1.use wn_5_31)) hce hcv hcl ?_
      refine lv_astore (lv' := [(4, .ref q9), (0, .ref (a 0)), (1, .int p0), (2, .int p1), (3, .ref o)]) hx hb dL_change_22 hl (by decide) rfl (fun ls hl => ?_)
      refine lv_iconst (v := 3) hx hb dL_change_24 (by decide) ?_
      rw [← hQ]
      exact end_i hX hB hA3 rfl rfl ⟨3, n, v, rfl, ho, hq, Or.inr ⟨("java/lang/IllegalStateException", 3), (List.mem_cons_of_mem _ (List.mem_cons_of_mem _ List.mem_cons_self)), hEE, rfl⟩, rfl⟩ (Nat.le_of_ble_eq_true rfl) (Nat.le_of_ble_eq_true rfl) dL_change_25
    exact absurd hE List.not_mem_nil
  · obtain ⟨_, ⟨hE0, rfl, ho, hq, rfl⟩, rfl⟩ := hp
    refine W.eq (g2 := F0 m 7 ls [.int Y.2.1, .ref o]) rfl ?_
    refine lv_i2l hx hb dL_change_7 rfl ?_
    refine pfN (ty := .long) (k0 := 36) hX hB cw_o rfl in6 tyX6_ok nmX6 0 (by decide) wn_2_149 rfl rfl rfl rfl rfl (Nat.le_of_ble_eq_true rfl) (w1 := cw κ a Y.2.2.1 Y.2.2.2.1 Y.2.2.2.2 ++ [Ot o (Y.2.1.toInt64) v]) cw_oS dL_change_8 (fun H locs hB => ?_)
    refine lv_goto (tgt := 26) hx hb dL_change_11 (by decide) ?_
    refine lv_iconst (v := 0) hx hb dL_change_26 (by decide) ?_
    rw [← hQ]
    exact end_i hX hB hA3 rfl rfl ⟨0, (Y.2.1.toInt64), v, rfl, ho, hq, Or.inl ⟨hE0, rfl, rfl⟩, rfl⟩ (Nat.le_of_ble_eq_true rfl) (Nat.le_of_ble_eq_true rfl) dL_change_27
set_option maxHeartbeats 4000000 in
set_option maxRecDepth 100000 in
theorem w_isSolvable (κ : Kt) (l : Launch) (hst : l.stackTraces = false) (a : Nat → Nat) (r q : Nat → Int32) (f : Nat → Nat → Int64) (o : Nat) (n : Int64) (v : Value) (p0 : Int32) (p1 : Int32) (p2 : Int32) (p3 : Int32) (hok : okr r) (Y : CRs) (hY : D_X5_isSolvable r q f p0 p1 p2 p3 = Y) : CMW κ l yL_isSolvable cL_isSolvable 7 (Option.some Jvm.ClassFile.FieldType.int) [(0, 22, 25, 19), (0, 22, 29, 21), (0, 22, 33, 97)] 8 220 5 30 [.ref (a 0), .int p0, .int p1, .int p2, .int p3, .ref o] (cw κ a r q f ++ [Ot o n v]) (fun u w' => ∃ (k : Int32) (n' : Int64) (v' : Value), u = some (.int k) ∧ (okr r → okr Y.2.2.1) ∧ Y.2.2.2.1 4 = q 4 ∧ Wc ([("java/lang/IndexOutOfBoundsException", 1), ("java/lang/IllegalArgumentException", 2), ("java/lang/IllegalStateException", 3)] : List (String × Int32)) Y.1 Y.2.1 k n' ∧ w' = cw κ a Y.2.2.1 Y.2.2.2.1 Y.2.2.2.2 ++ [Ot o n' v']) := by
  refine CMW_begin (by decide) (Nat.le_of_ble_eq_true rfl) ?_
  intro p e s m args below meth c A Q hX hT hA3 hQ hB ls hl
  have hx := hX.1.1
  have hb := hX.1.2.1
  have hl : lv_has ls 7 [(0, .ref (a 0)), (1, .int p0), (2, .int p1), (3, .int p2), (4, .int p3), (5, .ref o)] := hl
  refine lv_aload hx hb dL_isSolvable_0 (lv_at hl 5 rfl) ?_
  refine lv_aload_n hx hb dL_isSolvable_2 rfl (lv_at hl 0 rfl) ?_
  refine lv_iload_n hx hb dL_isSolvable_3 rfl (lv_at hl 1 rfl) ?_
  refine lv_iload_n hx hb dL_isSolvable_4 rfl (lv_at hl 2 rfl) ?_
  refine lv_iload_n hx hb dL_isSolvable_5 rfl (lv_at hl 3 rfl) ?_
  refine lv_iload hx hb dL_isSolvable_6 (lv_at hl 4 rfl) ?_
  refine CX_after2 hX hB (run_XV (n := 4) (k0 := 0) (As := [.int p0, .int p1, .int p2, .int p3]) (rest := [.ref o]) hX hB (CX_frame [Ot o n v] (k_X5_isSolvable κ l hst a r q f p0 p1 p2 p3 hok _ _ _ _ _ (hY.trans (te5 Y)))) ⟨rfl, yk_X5_isSolvable⟩ wm_5_86 wm_5_87 wm_5_88 wm_1_1 wm_5_89 ⟨Nat.le_of_ble_eq_true rfl, Nat.le_of_ble_eq_true rfl⟩ ⟨Nat.le_of_ble_eq_true rfl, Nat.le_of_ble_eq_true rfl⟩ (app_at cw0) rfl rfl rfl hl.1 rfl (Nat.le_of_ble_eq_true rfl) dL_isSolvable_8) (fun E ce q9 w' H locs hp hB hce hcv hcl => ?_) (fun o9 w' H locs hp hB => ?_)
  · obtain ⟨_, ⟨hEE, hE, ho, hq, rfl⟩, rfl⟩ := hp
    rw [hEE] at hE
    rcases List.mem_cons.mp hE with rfl | hE
    · refine vx_catch hX.1.2.2.2.1 [] ⟨0, 22, 25, 19⟩ [⟨0, 22, 29, 21⟩, ⟨0, 22, 33, 97⟩] hT (fun z hz => absurd hz List.not_mem_nil) (by decide) (by decide) (hX.1.2.2.2.2 _ wm_2_159) (va_Nw.use rfl (hX.2.1.2.1.use wn_2_171)) hce hcv hcl ?_
      refine lv_astore (lv' := [(6, .ref q9), (0, .ref (a 0)), (1, .int p0), (2, .int p1), (3, .int p2), (4, .int p3), (5, .ref o)]) hx hb dL_isSolvable_25 hl (by decide) rfl (fun ls hl => ?_)
      refine lv_iconst (v := 1) hx hb dL_isSolvable_27 (by decide) ?_
      rw [← hQ]
      exact end_i hX hB hA3 rfl rfl ⟨1, n, v, rfl, ho, hq, Or.inr ⟨("java/lang/IndexOutOfBoundsException", 1), List.mem_cons_self, hEE, rfl⟩, rfl⟩ (Nat.le_of_ble_eq_true rfl) (Nat.le_of_ble_eq_true rfl) dL_isSolvable_28
    rcases List.mem_cons.mp hE with rfl | hE
    · refine vx_catch hX.1.2.2.2.1 [⟨0, 22, 25, 19⟩] ⟨0, 22, 29, 21⟩ [⟨0, 22, 33, 97⟩] hT (List.forall_mem_cons.mpr ⟨(Or.inr ⟨by decide, "java/lang/IndexOutOfBoundsException", hX.1.2.2.2.2 _ wm_2_159, hX.2.1.2.2.1.2.2.2.2.2.1⟩), fun z hz => absurd hz List.not_mem_nil⟩) (by decide) (by decide) (hX.1.2.2.2.2 _ wm_2_160) (va_Nw.use rfl (hX.2.1.2.1.use wn_3_5)) hce hcv hcl ?_
      refine lv_astore (lv' := [(6, .ref q9), (0, .ref (a 0)), (1, .int p0), (2, .int p1), (3, .int p2), (4, .int p3), (5, .ref o)]) hx hb dL_isSolvable_29 hl (by decide) rfl (fun ls hl => ?_)
      refine lv_iconst (v := 2) hx hb dL_isSolvable_31 (by decide) ?_
      rw [← hQ]
      exact end_i hX hB hA3 rfl rfl ⟨2, n, v, rfl, ho, hq, Or.inr ⟨("java/lang/IllegalArgumentException", 2), (List.mem_cons_of_mem _ List.mem_cons_self), hEE, rfl⟩, rfl⟩ (Nat.le_of_ble_eq_true rfl) (Nat.le_of_ble_eq_true rfl) dL_isSolvable_32
    rcases List.mem_cons.mp hE with rfl | hE
    · refine vx_catch hX.1.2.2.2.1 [⟨0, 22, 25, 19⟩, ⟨0, 22, 29, 21⟩] ⟨0, 22, 33, 97⟩ [] hT (List.forall_mem_cons.mpr ⟨(Or.inr ⟨by decide, "java/lang/IndexOutOfBoundsException", hX.1.2.2.2.2 _ wm_2_159, hX.2.1.2.2.1.2.2.2.2.2.2.1⟩), List.forall_mem_cons.mpr ⟨(Or.inr ⟨by decide, "java/lang/IllegalArgumentException", hX.1.2.2.2.2 _ wm_2_160, hX.2.1.2.2.1.2.2.2.2.2.2.2.1⟩), fun z hz => absurd hz List.not_mem_nil⟩⟩) (by decide) (by decide) (hX.1.2.2.2.2 _ wm_5_21) (va_Nw.use rfl (hX.2.1.2.1.use wn_5_31)) hce hcv hcl ?_
      refine lv_astore (lv' := [(6, .ref q9), (0, .ref (a 0)), (1, .int p0), (2, .int p1), (3, .int p2), (4, .int p3), (5, .ref o)]) hx hb dL_isSolvable_33 hl (by decide) rfl (fun ls hl => ?_)
      refine lv_iconst (v := 3) hx hb dL_isSolvable_35 (by decide) ?_
      rw [← hQ]
      exact end_i hX hB hA3 rfl rfl ⟨3, n, v, rfl, ho, hq, Or.inr ⟨("java/lang/IllegalStateException", 3), (List.mem_cons_of_mem _ (List.mem_cons_of_mem _ List.mem_cons_self)), hEE, rfl⟩, rfl⟩ (Nat.le_of_ble_eq_true rfl) (Nat.le_of_ble_eq_true rfl) dL_isSolvable_36
    exact absurd hE List.not_mem_nil
  · obtain ⟨_, ⟨hE0, rfl, bx, ho, hq, rfl⟩, rfl⟩ := hp
    refine W.eq (g2 := F0 m 11 ls [.int Y.2.1, .ref o]) rfl ?_
    refine lv_if_eq (tgt := 18) hx hb dL_isSolvable_11 (by decide) (fun c1 => ?_) (fun c1 => ?_)
    · refine lv_lconst (v := 0) hx hb dL_isSolvable_18 (by decide) ?_
      refine pfN (ty := .long) (k0 := 36) hX hB cw_o rfl in6 tyX6_ok nmX6 0 (by decide) wn_2_149 rfl rfl rfl rfl rfl (Nat.le_of_ble_eq_true rfl) (w1 := cw κ a Y.2.2.1 Y.2.2.2.1 Y.2.2.2.2 ++ [Ot o 0 v]) cw_oS dL_isSolvable_19 (fun H locs hB => ?_)
      refine lv_goto (tgt := 37) hx hb dL_isSolvable_22 (by decide) ?_
      refine lv_iconst (v := 0) hx hb dL_isSolvable_37 (by decide) ?_
      rw [← hQ]
      exact end_i hX hB hA3 rfl rfl ⟨0, 0, v, rfl, ho, hq, Or.inl ⟨hE0, rfl, (by rw [c1]; exact t640.symm)⟩, rfl⟩ (Nat.le_of_ble_eq_true rfl) (Nat.le_of_ble_eq_true rfl) dL_isSolvable_38
    · refine lv_lconst (v := 1) hx hb dL_isSolvable_14 (by decide) ?_
      refine lv_goto (tgt := 19) hx hb dL_isSolvable_15 (by decide) ?_
      refine pfN (ty := .long) (k0 := 36) hX hB cw_o rfl in6 tyX6_ok nmX6 0 (by decide) wn_2_149 rfl rfl rfl rfl rfl (Nat.le_of_ble_eq_true rfl) (w1 := cw κ a Y.2.2.1 Y.2.2.2.1 Y.2.2.2.2 ++ [Ot o 1 v]) cw_oS dL_isSolvable_19 (fun H locs hB => ?_)
      refine lv_goto (tgt := 37) hx hb dL_isSolvable_22 (by decide) ?_
      refine lv_iconst (v := 0) hx hb dL_isSolvable_37 (by decide) ?_
      rw [← hQ]
      exact end_i hX hB hA3 rfl rfl ⟨0, 1, v, rfl, ho, hq, Or.inl ⟨hE0, rfl, (by rw [bx.resolve_left c1]; exact t64a.symm)⟩, rfl⟩ (Nat.le_of_ble_eq_true rfl) (Nat.le_of_ble_eq_true rfl) dL_isSolvable_38
set_option maxHeartbeats 4000000 in
set_option maxRecDepth 100000 in
theorem w_restColumn (κ : Kt) (l : Launch) (hst : l.stackTraces = false) (a : Nat → Nat) (r q : Nat → Int32) (f : Nat → Nat → Int64) (o : Nat) (n : Int64) (v : Value) (p0 : Int32) (p1 : Int32) (p2 : Int32) (hok : okr r) (Y : CRs) (hY : D_X5_restColumn r q f p0 p1 p2 = Y) : CMW κ l yL_restColumn cL_restColumn 6 (Option.some Jvm.ClassFile.FieldType.int) [(0, 13, 16, 19), (0, 13, 20, 97), (0, 13, 24, 21)] 8 147 3 18 [.ref (a 0), .int p0, .int p1, .int p2, .ref o] (cw κ a r q f ++ [Ot o n v]) (fun u w' => ∃ (k : Int32) (n' : Int64) (v' : Value), u = some (.int k) ∧ (okr r → okr Y.2.2.1) ∧ Y.2.2.2.1 4 = q 4 ∧ Wc ([("java/lang/IndexOutOfBoundsException", 1), ("java/lang/IllegalArgumentException", 3), ("java/lang/IllegalStateException", 2)] : List (String × Int32)) Y.1 Y.2.1 k n' ∧ w' = cw κ a Y.2.2.1 Y.2.2.2.1 Y.2.2.2.2 ++ [Ot o n' v']) := by
  refine CMW_begin (by decide) (Nat.le_of_ble_eq_true rfl) ?_
  intro p e s m args below meth c A Q hX hT hA3 hQ hB ls hl
  have hx := hX.1.1
  have hb := hX.1.2.1
  have hl : lv_has ls 6 [(0, .ref (a 0)), (1, .int p0), (2, .int p1), (3, .int p2), (4, .ref o)] := hl
  refine lv_aload hx hb dL_restColumn_0 (lv_at hl 4 rfl) ?_
  refine lv_aload_n hx hb dL_restColumn_2 rfl (lv_at hl 0 rfl) ?_
  refine lv_iload_n hx hb dL_restColumn_3 rfl (lv_at hl 1 rfl) ?_
  refine lv_iload_n hx hb dL_restColumn_4 rfl (lv_at hl 2 rfl) ?_
  refine lv_iload_n hx hb dL_restColumn_5 rfl (lv_at hl 3 rfl) ?_
  refine CX_after2 hX hB (run_XV (n := 3) (k0 := 0) (As := [.int p0, .int p1, .int p2]) (rest := [.ref o]) hX hB (CX_frame [Ot o n v] (k_X5_restColumn κ l hst a r q f p0 p1 p2 _ _ _ _ _ (hY.trans (te5 Y)))) ⟨rfl, yk_X5_restColumn⟩ wm_5_93 wm_5_94 wm_5_95 wm_1_1 wm_5_96 ⟨Nat.le_of_ble_eq_true rfl, Nat.le_of_ble_eq_true rfl⟩ ⟨Nat.le_of_ble_eq_true rfl, Nat.le_of_ble_eq_true rfl⟩ (app_at cw0) rfl rfl rfl hl.1 rfl (Nat.le_of_ble_eq_true rfl) dL_restColumn_6) (fun E ce q9 w' H locs hp hB hce hcv hcl => ?_) (fun o9 w' H locs hp hB => ?_)
  · obtain ⟨_, ⟨hEE, hE, ho, hq, rfl⟩, rfl⟩ := hp
    rw [hEE] at hE
    rcases List.mem_cons.mp hE with rfl | hE
    · refine vx_catch hX.1.2.2.2.1 [] ⟨0, 13, 16, 19⟩ [⟨0, 13, 20, 97⟩, ⟨0, 13, 24, 21⟩] hT (fun z hz => absurd hz List.not_mem_nil) (by decide) (by decide) (hX.1.2.2.2.2 _ wm_2_159) (va_Nw.use rfl (hX.2.1.2.1.use wn_2_171)) hce hcv hcl ?_
      refine lv_astore (lv' := [(5, .ref q9), (0, .ref (a 0)), (1, .int p0), (2, .int p1), (3, .int p2), (4, .ref o)]) hx hb dL_restColumn_16 hl (by decide) rfl (fun ls hl => ?_)
      refine lv_iconst (v := 1) hx hb dL_restColumn_18 (by decide) ?_
      rw [← hQ]
      exact end_i hX hB hA3 rfl rfl ⟨1, n, v, rfl, ho, hq, Or.inr ⟨("java/lang/IndexOutOfBoundsException", 1), List.mem_cons_self, hEE, rfl⟩, rfl⟩ (Nat.le_of_ble_eq_true rfl) (Nat.le_of_ble_eq_true rfl) dL_restColumn_19
    rcases List.mem_cons.mp hE with rfl | hE
    · refine vx_catch hX.1.2.2.2.1 [⟨0, 13, 16, 19⟩, ⟨0, 13, 20, 97⟩] ⟨0, 13, 24, 21⟩ [] hT (List.forall_mem_cons.mpr ⟨(Or.inr ⟨by decide, "java/lang/IndexOutOfBoundsException", hX.1.2.2.2.2 _ wm_2_159, hX.2.1.2.2.1.2.2.2.2.2.1⟩), List.forall_mem_cons.mpr ⟨(Or.inr ⟨by decide, "java/lang/IllegalStateException", hX.1.2.2.2.2 _ wm_5_21, hX.2.1.2.2.1.2.2.2.2.2.2.2.2⟩), fun z hz => absurd hz List.not_mem_nil⟩⟩) (by decide) (by decide) (hX.1.2.2.2.2 _ wm_2_160) (va_Nw.use rfl (hX.2.1.2.1.use wn_3_5)) hce hcv hcl ?_
      refine lv_astore (lv' := [(5, .ref q9), (0, .ref (a 0)), (1, .int p0), (2, .int p1), (3, .int p2), (4, .ref o)]) hx hb dL_restColumn_24 hl (by decide) rfl (fun ls hl => ?_)
      refine lv_iconst (v := 3) hx hb dL_restColumn_26 (by decide) ?_
      rw [← hQ]
      exact end_i hX hB hA3 rfl rfl ⟨3, n, v, rfl, ho, hq, Or.inr ⟨("java/lang/IllegalArgumentException", 3), (List.mem_cons_of_mem _ List.mem_cons_self), hEE, rfl⟩, rfl⟩ (Nat.le_of_ble_eq_true rfl) (Nat.le_of_ble_eq_true rfl) dL_restColumn_27
    rcases List.mem_cons.mp hE with rfl | hE
    · refine vx_catch hX.1.2.2.2.1 [⟨0, 13, 16, 19⟩] ⟨0, 13, 20, 97⟩ [⟨0, 13, 24, 21⟩] hT (List.forall_mem_cons.mpr ⟨(Or.inr ⟨by decide, "java/lang/IndexOutOfBoundsException", hX.1.2.2.2.2 _ wm_2_159, hX.2.1.2.2.1.2.2.2.2.2.2.1⟩), fun z hz => absurd hz List.not_mem_nil⟩) (by decide) (by decide) (hX.1.2.2.2.2 _ wm_5_21) (va_Nw.use rfl (hX.2.1.2.1.use wn_5_31)) hce hcv hcl ?_
      refine lv_astore (lv' := [(5, .ref q9), (0, .ref (a 0)), (1, .int p0), (2, .int p1), (3, .int p2), (4, .ref o)]) hx hb dL_restColumn_20 hl (by decide) rfl (fun ls hl => ?_)
      refine lv_iconst (v := 2) hx hb dL_restColumn_22 (by decide) ?_
      rw [← hQ]
      exact end_i hX hB hA3 rfl rfl ⟨2, n, v, rfl, ho, hq, Or.inr ⟨("java/lang/IllegalStateException", 2), (List.mem_cons_of_mem _ (List.mem_cons_of_mem _ List.mem_cons_self)), hEE, rfl⟩, rfl⟩ (Nat.le_of_ble_eq_true rfl) (Nat.le_of_ble_eq_true rfl) dL_restColumn_23
    exact absurd hE List.not_mem_nil
  · obtain ⟨_, ⟨hE0, rfl, ho, hq, rfl⟩, rfl⟩ := hp
    refine W.eq (g2 := F0 m 9 ls [.int Y.2.1, .ref o]) rfl ?_
    refine lv_i2l hx hb dL_restColumn_9 rfl ?_
    refine pfN (ty := .long) (k0 := 36) hX hB cw_o rfl in6 tyX6_ok nmX6 0 (by decide) wn_2_149 rfl rfl rfl rfl rfl (Nat.le_of_ble_eq_true rfl) (w1 := cw κ a Y.2.2.1 Y.2.2.2.1 Y.2.2.2.2 ++ [Ot o (Y.2.1.toInt64) v]) cw_oS dL_restColumn_10 (fun H locs hB => ?_)
    refine lv_goto (tgt := 28) hx hb dL_restColumn_13 (by decide) ?_
    refine lv_iconst (v := 0) hx hb dL_restColumn_28 (by decide) ?_
    rw [← hQ]
    exact end_i hX hB hA3 rfl rfl ⟨0, (Y.2.1.toInt64), v, rfl, ho, hq, Or.inl ⟨hE0, rfl, rfl⟩, rfl⟩ (Nat.le_of_ble_eq_true rfl) (Nat.le_of_ble_eq_true rfl) dL_restColumn_29
set_option maxHeartbeats 4000000 in
set_option maxRecDepth 100000 in
theorem w_rest (κ : Kt) (l : Launch) (hst : l.stackTraces = false) (a : Nat → Nat) (r q : Nat → Int32) (f : Nat → Nat → Int64) (o : Nat) (n : Int64) (v : Value) (p0 : Int32) (p1 : Int32) (hok : okr r) : CMW κ l yL_rest cL_rest 5 (Option.some Jvm.ClassFile.FieldType.int) [(0, 10, 13, 19), (0, 10, 17, 97), (0, 10, 21, 21)] 8 214 17 10226 [.ref (a 0), .int p0, .int p1, .ref o] (cw κ a r q f ++ [Ot o n v]) (fun u w' => ∃ (k : Int32) (r' q' : Nat → Int32) (f' : Nat → Nat → Int64) (n' : Int64) (v' : Value), u = some (.int k) ∧ (okr r → okr r') ∧ q' 4 = q 4 ∧ Ks r q f r' q' f' ∧ w' = cw κ a r' q' f' ++ [Ot o n' v']) := by
  refine CMW_begin (by decide) (Nat.le_of_ble_eq_true rfl) ?_
  intro p e s m args below meth c A Q hX hT hA3 hQ hB ls hl
  have hx := hX.1.1
  have hb := hX.1.2.1
  have hl : lv_has ls 5 [(0, .ref (a 0)), (1, .int p0), (2, .int p1), (3, .ref o)] := hl
  refine lv_aload_n hx hb dL_rest_0 rfl (lv_at hl 3 rfl) ?_
  refine lv_aload_n hx hb dL_rest_1 rfl (lv_at hl 0 rfl) ?_
  refine lv_iload_n hx hb dL_rest_2 rfl (lv_at hl 1 rfl) ?_
  refine lv_iload_n hx hb dL_rest_3 rfl (lv_at hl 2 rfl) ?_
  refine CX_after2 hX hB (run_XV (n := 2) (k0 := 0) (As := [.int p0, .int p1]) (rest := [.ref o]) hX hB (CX_frame [Ot o n v] (k_X5_rest κ l hst a r q f p0 p1 hok)) ⟨rfl, yk_X5_rest⟩ wm_5_101 wm_5_102 wm_5_103 wm_1_1 wm_5_104 ⟨Nat.le_of_ble_eq_true rfl, Nat.le_of_ble_eq_true rfl⟩ ⟨Nat.le_of_ble_eq_true rfl, Nat.le_of_ble_eq_true rfl⟩ (app_at cw0) rfl rfl rfl hl.1 rfl (Nat.le_of_ble_eq_true rfl) dL_rest_4) (fun E ce q9 w' H locs hp hB hce hcv hcl => ?_) (fun o9 w' H locs hp hB => ?_)
  · obtain ⟨_, ⟨hE, r1, q1, f1, ho, hq, hk, rfl⟩, rfl⟩ := hp
    rcases List.mem_cons.mp hE with rfl | hE
    · refine vx_catch hX.1.2.2.2.1 [] ⟨0, 10, 13, 19⟩ [⟨0, 10, 17, 97⟩, ⟨0, 10, 21, 21⟩] hT (fun z hz => absurd hz List.not_mem_nil) (by decide) (by decide) (hX.1.2.2.2.2 _ wm_2_159) (va_Nw.use rfl (hX.2.1.2.1.use wn_2_171)) hce hcv hcl ?_
      refine lv_astore (lv' := [(4, .ref q9), (0, .ref (a 0)), (1, .int p0), (2, .int p1), (3, .ref o)]) hx hb dL_rest_13 hl (by decide) rfl (fun ls hl => ?_)
      refine lv_iconst (v := 1) hx hb dL_rest_15 (by decide) ?_
      rw [← hQ]
      exact end_i hX hB hA3 rfl rfl ⟨1, r1, q1, f1, n, v, rfl, ho, hq, hk, rfl⟩ (Nat.le_of_ble_eq_true rfl) (Nat.le_of_ble_eq_true rfl) dL_rest_16
    rcases List.mem_cons.mp hE with rfl | hE
    · refine vx_catch hX.1.2.2.2.1 [⟨0, 10, 13, 19⟩] ⟨0, 10, 17, 97⟩ [⟨0, 10, 21, 21⟩] hT (List.forall_mem_cons.mpr ⟨(Or.inr ⟨by decide, "java/lang/IndexOutOfBoundsException", hX.1.2.2.2.2 _ wm_2_159, hX.2.1.2.2.1.2.2.2.2.2.2.1⟩), fun z hz => absurd hz List.not_mem_nil⟩) (by decide) (by decide) (hX.1.2.2.2.2 _ wm_5_21) (va_Nw.use rfl (hX.2.1.2.1.use wn_5_31)) hce hcv hcl ?_
      refine lv_astore (lv' := [(4, .ref q9), (0, .ref (a 0)), (1, .int p0), (2, .int p1), (3, .ref o)]) hx hb dL_rest_17 hl (by decide) rfl (fun ls hl => ?_)
      refine lv_iconst (v := 2) hx hb dL_rest_19 (by decide) ?_
      rw [← hQ]
      exact end_i hX hB hA3 rfl rfl ⟨2, r1, q1, f1, n, v, rfl, ho, hq, hk, rfl⟩ (Nat.le_of_ble_eq_true rfl) (Nat.le_of_ble_eq_true rfl) dL_rest_20
    rcases List.mem_cons.mp hE with rfl | hE
    · refine vx_catch hX.1.2.2.2.1 [⟨0, 10, 13, 19⟩, ⟨0, 10, 17, 97⟩] ⟨0, 10, 21, 21⟩ [] hT (List.forall_mem_cons.mpr ⟨(Or.inr ⟨by decide, "java/lang/IndexOutOfBoundsException", hX.1.2.2.2.2 _ wm_2_159, hX.2.1.2.2.1.2.2.2.2.2.1⟩), List.forall_mem_cons.mpr ⟨(Or.inr ⟨by decide, "java/lang/IllegalStateException", hX.1.2.2.2.2 _ wm_5_21, hX.2.1.2.2.1.2.2.2.2.2.2.2.2⟩), fun z hz => absurd hz List.not_mem_nil⟩⟩) (by decide) (by decide) (hX.1.2.2.2.2 _ wm_2_160) (va_Nw.use rfl (hX.2.1.2.1.use wn_3_5)) hce hcv hcl ?_
      refine lv_astore (lv' := [(4, .ref q9), (0, .ref (a 0)), (1, .int p0), (2, .int p1), (3, .ref o)]) hx hb dL_rest_21 hl (by decide) rfl (fun ls hl => ?_)
      refine lv_iconst (v := 3) hx hb dL_rest_23 (by decide) ?_
      rw [← hQ]
      exact end_i hX hB hA3 rfl rfl ⟨3, r1, q1, f1, n, v, rfl, ho, hq, hk, rfl⟩ (Nat.le_of_ble_eq_true rfl) (Nat.le_of_ble_eq_true rfl) dL_rest_24
    exact absurd hE List.not_mem_nil
  · obtain ⟨_, ⟨x, r1, q1, f1, rfl, ho, hq, hk, rfl⟩, rfl⟩ := hp
    refine W.eq (g2 := F0 m 7 ls [.ref x, .ref o]) rfl ?_
    refine pfN (ty := .object "java/lang/String") (k0 := 36) hX hB cw_o rfl in6 tyX6_ok nmX6 1 (by decide) wn_2_150 rfl rfl rfl rfl rfl (Nat.le_of_ble_eq_true rfl) (w1 := cw κ a r1 q1 f1 ++ [Ot o n (.ref x)]) cw_oS dL_rest_7 (fun H locs hB => ?_)
    refine lv_goto (tgt := 25) hx hb dL_rest_10 (by decide) ?_
    refine lv_iconst (v := 0) hx hb dL_rest_25 (by decide) ?_
    rw [← hQ]
    exact end_i hX hB hA3 rfl rfl ⟨0, r1, q1, f1, n, (.ref x), rfl, ho, hq, hk, rfl⟩ (Nat.le_of_ble_eq_true rfl) (Nat.le_of_ble_eq_true rfl) dL_rest_26
set_option maxHeartbeats 4000000 in
set_option maxRecDepth 100000 in
theorem w_restOf (κ : Kt) (l : Launch) (hst : l.stackTraces = false) (a : Nat → Nat) (r q : Nat → Int32) (f : Nat → Nat → Int64) (o : Nat) (n : Int64) (v : Value) (p0 : Int32) (p1 : Int32) (p2 : Int32) (hok : okr r) (Y : CRs) (hY : D_X5_restOf r q f p0 p1 p2 = Y) : CMW κ l yL_restOf cL_restOf 6 (Option.some Jvm.ClassFile.FieldType.int) [(0, 13, 16, 19), (0, 13, 20, 97), (0, 13, 24, 21)] 8 219 5 30 [.ref (a 0), .int p0, .int p1, .int p2, .ref o] (cw κ a r q f ++ [Ot o n v]) (fun u w' => ∃ (k : Int32) (n' : Int64) (v' : Value), u = some (.int k) ∧ (okr r → okr Y.2.2.1) ∧ Y.2.2.2.1 4 = q 4 ∧ Wc ([("java/lang/IndexOutOfBoundsException", 1), ("java/lang/IllegalArgumentException", 3), ("java/lang/IllegalStateException", 2)] : List (String × Int32)) Y.1 Y.2.1 k n' ∧ w' = cw κ a Y.2.2.1 Y.2.2.2.1 Y.2.2.2.2 ++ [Ot o n' v']) := by
  refine CMW_begin (by decide) (Nat.le_of_ble_eq_true rfl) ?_
  intro p e s m args below meth c A Q hX hT hA3 hQ hB ls hl
  have hx := hX.1.1
  have hb := hX.1.2.1
  have hl : lv_has ls 6 [(0, .ref (a 0)), (1, .int p0), (2, .int p1), (3, .int p2), (4, .ref o)] := hl
  refine lv_aload hx hb dL_restOf_0 (lv_at hl 4 rfl) ?_
  refine lv_aload_n hx hb dL_restOf_2 rfl (lv_at hl 0 rfl) ?_
  refine lv_iload_n hx hb dL_restOf_3 rfl (lv_at hl 1 rfl) ?_
  refine lv_iload_n hx hb dL_restOf_4 rfl (lv_at hl 2 rfl) ?_
  refine lv_iload_n hx hb dL_restOf_5 rfl (lv_at hl 3 rfl) ?_
  refine CX_after2 hX hB (run_XV (n := 3) (k0 := 0) (As := [.int p0, .int p1, .int p2]) (rest := [.ref o]) hX hB (CX_frame [Ot o n v] (k_X5_restOf κ l hst a r q f p0 p1 p2 _ _ _ _ _ (hY.trans (te5 Y)))) ⟨rfl, yk_X5_restOf⟩ wm_5_121 wm_5_122 wm_5_123 wm_1_1 wm_5_124 ⟨Nat.le_of_ble_eq_true rfl, Nat.le_of_ble_eq_true rfl⟩ ⟨Nat.le_of_ble_eq_true rfl, Nat.le_of_ble_eq_true rfl⟩ (app_at cw0) rfl rfl rfl hl.1 rfl (Nat.le_of_ble_eq_true rfl) dL_restOf_6) (fun E ce q9 w' H locs hp hB hce hcv hcl => ?_) (fun o9 w' H locs hp hB => ?_)
  · obtain ⟨_, ⟨hEE, hE, ho, hq, rfl⟩, rfl⟩ := hp
    rw [hEE] at hE
    rcases List.mem_cons.mp hE with rfl | hE
    · refine vx_catch hX.1.2.2.2.1 [] ⟨0, 13, 16, 19⟩ [⟨0, 13, 20, 97⟩, ⟨0, 13, 24, 21⟩] hT (fun z hz => absurd hz List.not_mem_nil) (by decide) (by decide) (hX.1.2.2.2.2 _ wm_2_159) (va_Nw.use rfl (hX.2.1.2.1.use wn_2_171)) hce hcv hcl ?_
      refine lv_astore (lv' := [(5, .ref q9), (0, .ref (a 0)), (1, .int p0), (2, .int p1), (3, .int p2), (4, .ref o)]) hx hb dL_restOf_16 hl (by decide) rfl (fun ls hl => ?_)
      refine lv_iconst (v := 1) hx hb dL_restOf_18 (by decide) ?_
      rw [← hQ]
      exact end_i hX hB hA3 rfl rfl ⟨1, n, v, rfl, ho, hq, Or.inr ⟨("java/lang/IndexOutOfBoundsException", 1), List.mem_cons_self, hEE, rfl⟩, rfl⟩ (Nat.le_of_ble_eq_true rfl) (Nat.le_of_ble_eq_true rfl) dL_restOf_19
    rcases List.mem_cons.mp hE with rfl | hE
    · refine vx_catch hX.1.2.2.2.1 [⟨0, 13, 16, 19⟩, ⟨0, 13, 20, 97⟩] ⟨0, 13, 24, 21⟩ [] hT (List.forall_mem_cons.mpr ⟨(Or.inr ⟨by decide, "java/lang/IndexOutOfBoundsException", hX.1.2.2.2.2 _ wm_2_159, hX.2.1.2.2.1.2.2.2.2.2.1⟩), List.forall_mem_cons.mpr ⟨(Or.inr ⟨by decide, "java/lang/IllegalStateException", hX.1.2.2.2.2 _ wm_5_21, hX.2.1.2.2.1.2.2.2.2.2.2.2.2⟩), fun z hz => absurd hz List.not_mem_nil⟩⟩) (by decide) (by decide) (hX.1.2.2.2.2 _ wm_2_160) (va_Nw.use rfl (hX.2.1.2.1.use wn_3_5)) hce hcv hcl ?_
      refine lv_astore (lv' := [(5, .ref q9), (0, .ref (a 0)), (1, .int p0), (2, .int p1), (3, .int p2), (4, .ref o)]) hx hb dL_restOf_24 hl (by decide) rfl (fun ls hl => ?_)
      refine lv_iconst (v := 3) hx hb dL_restOf_26 (by decide) ?_
      rw [← hQ]
      exact end_i hX hB hA3 rfl rfl ⟨3, n, v, rfl, ho, hq, Or.inr ⟨("java/lang/IllegalArgumentException", 3), (List.mem_cons_of_mem _ List.mem_cons_self), hEE, rfl⟩, rfl⟩ (Nat.le_of_ble_eq_true rfl) (Nat.le_of_ble_eq_true rfl) dL_restOf_27
    rcases List.mem_cons.mp hE with rfl | hE
    · refine vx_catch hX.1.2.2.2.1 [⟨0, 13, 16, 19⟩] ⟨0, 13, 20, 97⟩ [⟨0, 13, 24, 21⟩] hT (List.forall_mem_cons.mpr ⟨(Or.inr ⟨by decide, "java/lang/IndexOutOfBoundsException", hX.1.2.2.2.2 _ wm_2_159, hX.2.1.2.2.1.2.2.2.2.2.2.1⟩), fun z hz => absurd hz List.not_mem_nil⟩) (by decide) (by decide) (hX.1.2.2.2.2 _ wm_5_21) (va_Nw.use rfl (hX.2.1.2.1.use wn_5_31)) hce hcv hcl ?_
      refine lv_astore (lv' := [(5, .ref q9), (0, .ref (a 0)), (1, .int p0), (2, .int p1), (3, .int p2), (4, .ref o)]) hx hb dL_restOf_20 hl (by decide) rfl (fun ls hl => ?_)
      refine lv_iconst (v := 2) hx hb dL_restOf_22 (by decide) ?_
      rw [← hQ]
      exact end_i hX hB hA3 rfl rfl ⟨2, n, v, rfl, ho, hq, Or.inr ⟨("java/lang/IllegalStateException", 2), (List.mem_cons_of_mem _ (List.mem_cons_of_mem _ List.mem_cons_self)), hEE, rfl⟩, rfl⟩ (Nat.le_of_ble_eq_true rfl) (Nat.le_of_ble_eq_true rfl) dL_restOf_23
    exact absurd hE List.not_mem_nil
  · obtain ⟨_, ⟨hE0, rfl, ho, hq, rfl⟩, rfl⟩ := hp
    refine W.eq (g2 := F0 m 9 ls [.int Y.2.1, .ref o]) rfl ?_
    refine lv_i2l hx hb dL_restOf_9 rfl ?_
    refine pfN (ty := .long) (k0 := 36) hX hB cw_o rfl in6 tyX6_ok nmX6 0 (by decide) wn_2_149 rfl rfl rfl rfl rfl (Nat.le_of_ble_eq_true rfl) (w1 := cw κ a Y.2.2.1 Y.2.2.2.1 Y.2.2.2.2 ++ [Ot o (Y.2.1.toInt64) v]) cw_oS dL_restOf_10 (fun H locs hB => ?_)
    refine lv_goto (tgt := 28) hx hb dL_restOf_13 (by decide) ?_
    refine lv_iconst (v := 0) hx hb dL_restOf_28 (by decide) ?_
    rw [← hQ]
    exact end_i hX hB hA3 rfl rfl ⟨0, (Y.2.1.toInt64), v, rfl, ho, hq, Or.inl ⟨hE0, rfl, rfl⟩, rfl⟩ (Nat.le_of_ble_eq_true rfl) (Nat.le_of_ble_eq_true rfl) dL_restOf_29
set_option maxHeartbeats 4000000 in
set_option maxRecDepth 100000 in
theorem w_house (κ : Kt) (l : Launch) (hst : l.stackTraces = false) (a : Nat → Nat) (r q : Nat → Int32) (f : Nat → Nat → Int64) (o : Nat) (n : Int64) (v : Value) (p0 : Int32) (hok : okr r) (Y : CRs) (hY : D_X5_house r q f p0 = Y) : CMW κ l yL_house cL_house 4 (Option.some Jvm.ClassFile.FieldType.int) [(0, 10, 13, 21)] 8 132 1 6 [.ref (a 0), .int p0, .ref o] (cw κ a r q f ++ [Ot o n v]) (fun u w' => ∃ (k : Int32) (n' : Int64) (v' : Value), u = some (.int k) ∧ (okr r → okr Y.2.2.1) ∧ Y.2.2.2.1 4 = q 4 ∧ Wc ([("java/lang/IllegalArgumentException", 1)] : List (String × Int32)) Y.1 Y.2.1 k n' ∧ w' = cw κ a Y.2.2.1 Y.2.2.2.1 Y.2.2.2.2 ++ [Ot o n' v']) := by
  refine CMW_begin (by decide) (Nat.le_of_ble_eq_true rfl) ?_
  intro p e s m args below meth c A Q hX hT hA3 hQ hB ls hl
  have hx := hX.1.1
  have hb := hX.1.2.1
  have hl : lv_has ls 4 [(0, .ref (a 0)), (1, .int p0), (2, .ref o)] := hl
  refine lv_aload_n hx hb dL_house_0 rfl (lv_at hl 2 rfl) ?_
  refine lv_aload_n hx hb dL_house_1 rfl (lv_at hl 0 rfl) ?_
  refine lv_iload_n hx hb dL_house_2 rfl (lv_at hl 1 rfl) ?_
  refine CX_after2 hX hB (run_XV (n := 1) (k0 := 0) (As := [.int p0]) (rest := [.ref o]) hX hB (CX_frame [Ot o n v] (k_X5_house κ l hst a r q f p0 _ _ _ _ _ (hY.trans (te5 Y)))) ⟨rfl, yk_X5_house⟩ wm_5_128 wm_5_129 wm_5_130 wm_1_1 wm_5_131 ⟨Nat.le_of_ble_eq_true rfl, Nat.le_of_ble_eq_true rfl⟩ ⟨Nat.le_of_ble_eq_true rfl, Nat.le_of_ble_eq_true rfl⟩ (app_at cw0) rfl rfl rfl hl.1 rfl (Nat.le_of_ble_eq_true rfl) dL_house_3) (fun E ce q9 w' H locs hp hB hce hcv hcl => ?_) (fun o9 w' H locs hp hB => ?_)
  · obtain ⟨_, ⟨hEE, hE, ho, hq, rfl⟩, rfl⟩ := hp
    rw [hEE] at hE
    rcases List.mem_cons.mp hE with rfl | hE
    · refine vx_catch hX.1.2.2.2.1 [] ⟨0, 10, 13, 21⟩ [] hT (fun z hz => absurd hz List.not_mem_nil) (by decide) (by decide) (hX.1.2.2.2.2 _ wm_2_160) (va_Nw.use rfl (hX.2.1.2.1.use wn_3_5)) hce hcv hcl ?_
      refine lv_astore_n (lv' := [(3, .ref q9), (0, .ref (a 0)), (1, .int p0), (2, .ref o)]) hx hb dL_house_13 rfl hl (by decide) rfl (fun ls hl => ?_)
      refine lv_iconst (v := 1) hx hb dL_house_14 (by decide) ?_
      rw [← hQ]
      exact end_i hX hB hA3 rfl rfl ⟨1, n, v, rfl, ho, hq, Or.inr ⟨("java/lang/IllegalArgumentException", 1), List.mem_cons_self, hEE, rfl⟩, rfl⟩ (Nat.le_of_ble_eq_true rfl) (Nat.le_of_ble_eq_true rfl) dL_house_15
    exact absurd hE List.not_mem_nil
  · obtain ⟨_, ⟨hE0, rfl, ho, hq, rfl⟩, rfl⟩ := hp
    refine W.eq (g2 := F0 m 6 ls [.int Y.2.1, .ref o]) rfl ?_
    refine lv_i2l hx hb dL_house_6 rfl ?_
    refine pfN (ty := .long) (k0 := 36) hX hB cw_o rfl in6 tyX6_ok nmX6 0 (by decide) wn_2_149 rfl rfl rfl rfl rfl (Nat.le_of_ble_eq_true rfl) (w1 := cw κ a Y.2.2.1 Y.2.2.2.1 Y.2.2.2.2 ++ [Ot o (Y.2.1.toInt64) v]) cw_oS dL_house_7 (fun H locs hB => ?_)
    refine lv_goto (tgt := 16) hx hb dL_house_10 (by decide) ?_
    refine lv_iconst (v := 0) hx hb dL_house_16 (by decide) ?_
    rw [← hQ]
    exact end_i hX hB hA3 rfl rfl ⟨0, (Y.2.1.toInt64), v, rfl, ho, hq, Or.inl ⟨hE0, rfl, rfl⟩, rfl⟩ (Nat.le_of_ble_eq_true rfl) (Nat.le_of_ble_eq_true rfl) dL_house_17
end
