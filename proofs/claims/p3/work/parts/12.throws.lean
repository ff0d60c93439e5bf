/-! ===== Methods that may throw: a contract, a call, a throw ===== -/
def Xm (κ : Kt) (w : va_W) (postX : String → va_W → Prop) (sz : Nat) : String → State → State → Prop := fun E st t => (∃ w' : va_W, postX E w' ∧ va_P κ.1 vwCl w' t.heap ∧ va_D (Ac w sz) w') ∧ va_F (Ac w sz) st t
def CX (κ : Kt) (l : Launch) (y : MethodName) (cc : ByteArray) (n : Nat) (ret : Option FieldType) (fr lo mc ms : Nat) (av : List Value) (w : va_W) (post : Option Value → va_W → Prop) (postX : String → va_W → Prop) : Prop :=
  ∀ sz : Nat, vx_Met l y (Cond.code y cc n ret :: wAll) (Rm fr lo mc ms) (Pm κ av w sz) (Qm κ w post sz) (Xm κ w postX sz) mc ms (Ac w sz)
section GMX
variable {p : Program} {l : Launch} {e : Env} {R : Room} {s : State} {m : MethodId} {args : Array Value} {below : List Frame} {meth : Method} {c : Code} {H : Heap} {locs : List Loc} {cells slots : Nat} {Q : State → Prop}
variable {κ : Kt} {cc : ByteArray} {nL : Nat} {own : String} {ret : Option FieldType} {A : Nat → Prop} {w : va_W}
def Zx (κ : Kt) (below : List Frame) (w0 : va_W) (post : Option Value → va_W → Prop) (postX : String → va_W → Prop) (a : Array Value) (s : State) (mc ms : Nat) : State → Prop := vx_MQ below (Qm κ w0 post s.heap.size) (Xm κ w0 postX s.heap.size) a s mc ms (Ac w0 s.heap.size)
theorem CX_begin {y : MethodName} {fr lo mc ms : Nat} {av : List Value} {post : Option Value → va_W → Prop} {postX : String → va_W → Prop} (hy : plainName y.cls = true) (hn : (lg_sl av).length ≤ nL)
    (body : ∀ (p : Program) (e : Env) (s : State) (m : MethodId) (args : Array Value) (below : List Frame) (meth : Method) (c : Code) (A : Nat → Prop) (Q : State → Prop), Cx κ p m c cc nL s args y.cls meth ret A → (∀ x ∈ c.exceptionTable.toList, False) → (∀ q, A q → Fw w q ∨ s.heap.size ≤ q) → Zx κ below w post postX args s mc ms = Q → Bd κ A s w s.heap [] → ∀ ls : Array Slot, lv_has ls nL (lv_args 0 av) →
      W p l e (Rm fr lo mc ms) s m args below meth c s.heap [] 0 0 Q (F0 m 0 ls [])) : CX κ l y cc nL ret fr lo mc ms av w post postX := by
  intro sz
  refine vx_ofW (cc := cc) (maxL := nL) (ret := ret) hy rfl ?_
  intro p e s m args below meth c s₁ B hml hne hv
  obtain ⟨rfl, hsz, hE, hP, hD⟩ := hv
  subst hsz
  have hts := atoms_spec (ws := Cond.code y cc nL ret :: wAll) B.pre
  have hown : s.vm.findClass y.cls = some m.cls := findClass_of_methodNamed B.named
  have hl := lv_entry av hn
  rw [lg_entry_eq]
  generalize (lg_sl av ++ List.replicate (nL - (lg_sl av).length) Slot.unset).toArray = ls at hl ⊢
  exact body p e s m _ below meth c (Ac w s.heap.size) _ ⟨⟨B.exec, B.bytes, hml, hown, fun x hx => hts x (List.mem_cons_of_mem _ hx)⟩, hE, fun q hq => hq.elim (fun h => D_of hD h) (fun h => Nat.le_trans hE.2.2.2 h), fun q h => Or.inr h, B.returns, B.notSynchronized⟩ hne (fun q h => h) rfl ⟨hP, ⟨hD.1, fun k q hk => Or.inl ⟨q.2, List.mem_of_getElem? hk⟩⟩, va_S.rf⟩ ls hl
/-- behind a call that may throw: both ways -/
theorem CX_after2 {post : Option Value → va_W → Prop} {postX : String → va_W → Prop} {mc ms pc : Nat} {ls : Array Slot} {rest st0 : List Value} {a : Array Value} (hX : Cx κ p m c cc nL s args own meth ret A) (hB : Bd κ A s w H locs)
    (hr : vx_Run p l e R s m args below meth c H locs cells slots mc ms (F0 m pc ls st0) rest (Qm κ w post H.size a) (Xm κ w postX H.size) (Ac w H.size))
    (kx : ∀ (E : String) (ce : Cell) (q9 : Addr) (w' : va_W) (H1 : Heap) (locs1 : List Loc), postX E w' → Bd κ A s w' H1 locs1 → H1[q9]? = some ce → ce.vm = .none → s.vm.findClass E = some ce.cls → vx_W p l e R s m args below meth c H1 locs1 (cells + mc) (slots + ms) Q (F0 m pc ls rest) q9)
    (kk : ∀ (r : Option Value) (w' : va_W) (H1 : Heap) (locs1 : List Loc), post r w' → Bd κ A s w' H1 locs1 → W p l e R s m args below meth c H1 locs1 (cells + mc) (slots + ms) Q (F0 m (pc + 3) ls (r.toList ++ rest))) : W p l e R s m args below meth c H locs cells slots Q (F0 m pc ls st0) := by
  intro T hT X
  obtain ⟨hP0, hD0, hS⟩ := hB
  have hf : ∀ q, Ac w H.size q → A q := fun q h => h.elim (fun h => D_of hD0 h) (fun h => hX.2.2.2.1 q (Nat.le_trans hS.1 h))
  rcases hr T hT X with ⟨v, st₀, t, T', L, h0, X', hL, e1, e2, ⟨⟨r, w', hv, hp, hP, hD⟩, hF⟩, st⟩ | ⟨q, st₀, t, T', L, E, ce, h0, X', hL, e1, e2, ⟨⟨w', hp, hP, hD⟩, hF⟩, hce, hcv, hcl, st⟩
  · cases hv
    obtain ⟨k1, k2, k3⟩ := vx_keep h0 e1 hS (fun q _ h => hf q h) hf hL hF
    obtain ⟨t2, a1, b1⟩ := kk v w' T'.heap (locs ++ L) hp ⟨by rw [e1]; exact hP, hD.weaken (fun _ q _ h => hf q.1 h), k3⟩ T' rfl X'
    exact ⟨t2, st t2 a1, b1⟩
  · obtain ⟨k1, k2, k3⟩ := vx_keep h0 e1 hS (fun q _ h => hf q h) hf hL hF
    obtain ⟨t2, a1, b1⟩ := kx E ce q w' T'.heap (locs ++ L) hp ⟨by rw [e1]; exact hP, hD.weaken (fun _ q _ h => hf q.1 h), k3⟩ (by rw [e1]; exact hce) hcv hcl T' rfl X'
    exact ⟨t2, st.trans a1, b1⟩
/-- it goes on to the caller -/
theorem thrown_on {w0 : va_W} {post : Option Value → va_W → Prop} {postX : String → va_W → Prop} {mc ms pc : Nat} {ls : Array Slot} {rest : List Value} {E : String} {ce : Cell} {q9 : Addr} (hX : Cx κ p m c cc nL s args own meth ret A) (hne : ∀ x ∈ c.exceptionTable.toList, False) (hB : Bd κ A s w H locs) (hA3 : ∀ q, A q → Fw w0 q ∨ s.heap.size ≤ q)
    (hce : H[q9]? = some ce) (hcv : ce.vm = .none) (hcl : s.vm.findClass E = some ce.cls) (hp : postX E w) (hc : cells ≤ mc) (hs : slots ≤ ms) :
    vx_W p l e R s m args below meth c H locs cells slots (Zx κ below w0 post postX args s mc ms) (F0 m pc ls rest) q9 := by
  refine vx_out (fun x hx => (hne x hx).elim) hX.2.2.2.2.2 hce hcv hcl (fun t ht hvm => ⟨⟨w, hp, by rw [ht]; exact hB.1, hB.2.1.weaken (fun _ q _ h => hA3 q.1 h)⟩, ?_⟩) (fun q hq => hA3 _ (hB.2.2.2.2 q hq)) hc hs
  exact ⟨by rw [ht]; exact hB.2.2.1, fun q h1 h2 => by rw [ht]; exact hB.2.2.2.1 q h1 (fun h => h2 (hA3 q h))⟩
theorem run_XV {post : Option Value → va_W → Prop} {postX : String → va_W → Prop} {y : MethodName} {C : String} {bytes : ByteArray} {maxL fr lo mc ms n index pc b : Nat} {rt : Option FieldType} {ls : Array Slot} {As rest st0 : List Value} (hX : Cx κ p m c cc nL s args own meth ret A) (hB : Bd κ A s w H locs)
    (hM : CX κ l y bytes maxL rt fr lo mc ms (.ref b :: As) w post postX) (hy : y.cls = C ∧ Yk y n) (m1 : Cond.methodLink own index y ∈ wAll) (m2 : Cond.instanceMethod y ∈ wAll) (m3 : Cond.selects C y y ∈ wAll) (m4 : Cond.initialized C ∈ wAll) (m5 : Cond.code y bytes maxL rt ∈ wAll)
    (hR : fr + 1 ≤ R.frames ∧ 8 + (maxL + 11) + lo ≤ R.locals) (hf : cells + mc ≤ R.cells ∧ slots + ms ≤ R.slots) {k0 ci : Nat} {q : vw_C} {fs : List Value} (he : w[k0]? = some (b, .inr (ci, fs))) (hc : vwCl[ci]? = some q) (hq : q.1 = C)
    (hn : As.length = n) (hl : ls.size = nL) (hst : st0 = As.reverse ++ .ref b :: rest) (hcat : (rest.map fun v => v.category).sum ≤ 8) (hdg : decode cc pc = .ok (.invokevirtual index, 3)) :
    vx_Run p l e R s m args below meth c H locs cells slots mc ms (F0 m pc ls st0) rest (Qm κ w post H.size (Value.ref b :: As).toArray) (Xm κ w postX H.size) (Ac w H.size) := by
  refine vx_runV (As := As) (rest := rest) (nL := nL) (own := own) (C := C) (b := b) hX.1 (hM H.size) (cwV n hX.1.2.2.2.2 (gAll1 m1 (gAll1 m2 (gAll1 m3 (gAll1 m4 (gAll m5))))) rfl rfl rfl ⟨hy.1, hy.2⟩ hR) ⟨Pm_blind, ?_, Pm_at hX hB⟩ rfl hn hl hst (lv_room hcat) hdg hf
  obtain ⟨cell, z1, z2, z3⟩ := va_recv hX.2.1.1 hB.1 hc he
  exact ⟨cell, z1, z2, by rw [← hq]; exact z3⟩
theorem run_XS {post : Option Value → va_W → Prop} {postX : String → va_W → Prop} {y : MethodName} {bytes : ByteArray} {maxL fr lo mc ms n index pc : Nat} {rt : Option FieldType} {ls : Array Slot} {As rest st0 : List Value} (hX : Cx κ p m c cc nL s args own meth ret A) (hB : Bd κ A s w H locs)
    (hM : CX κ l y bytes maxL rt fr lo mc ms As w post postX) (hy : Yk y n) (m1 : Cond.methodLink own index y ∈ wAll) (m2 : Cond.static y ∈ wAll) (m4 : Cond.initialized y.cls ∈ wAll) (m5 : Cond.code y bytes maxL rt ∈ wAll)
    (hR : fr + 1 ≤ R.frames ∧ 8 + (maxL + 11) + lo ≤ R.locals) (hf : cells + mc ≤ R.cells ∧ slots + ms ≤ R.slots)
    (hn : As.length = n) (hl : ls.size = nL) (hst : st0 = As.reverse ++ rest) (hcat : (rest.map fun v => v.category).sum ≤ 8) (hdg : decode cc pc = .ok (.invokestatic index, 3)) :
    vx_Run p l e R s m args below meth c H locs cells slots mc ms (F0 m pc ls st0) rest (Qm κ w post H.size As.toArray) (Xm κ w postX H.size) (Ac w H.size) := by
  have ht := hX.1.2.2.2.2
  exact vx_runS (As := As) (rest := rest) (nL := nL) (own := own) hX.1 (hM H.size) ⟨callB_of n ht (gAll m5) rfl rfl rfl (ht _ m4) (ht _ m1) hy hR, ht _ m2⟩ ⟨Pm_blind, Pm_at hX hB⟩ rfl hn hl hst (lv_room hcat) hdg hf
/-- new X("text") is thrown -/
theorem throw_T {w0 : va_W} {post : Option Value → va_W → Prop} {postX : String → va_W → Prop} {mc ms pc : Nat} {ls : Array Slot} {rest : List Value} {cls text : String} {ik is ic : Nat} (hst : l.stackTraces = false) (hX : Cx κ p m c cc nL s args own meth ret A) (hne : ∀ x ∈ c.exceptionTable.toList, False) (hB : Bd κ A s w H locs) (hA3 : ∀ q, A q → Fw w0 q ∨ s.heap.size ≤ q)
    (ho : own = "Gridmender") (hcls : Bundle.fit cls = true) (m1 : Cond.classLink own ik cls ∈ wAll) (m2 : Cond.initialized cls ∈ wAll) (hstr : (is, text) ∈ strs)
    (hat1 : ∀ x ∈ (vx_atS own ic cls ["java/lang/RuntimeException", "java/lang/Exception"]).filter goodWord, x ∈ wAll) (hat2 : ∀ x ∈ (vx_atS own ic cls ["java/lang/RuntimeException", "java/lang/Exception"]).filter (fun x => !goodWord x), x ∈ wNest)
    (hgood : ∀ x ∈ Cond.classLink own ik cls :: Cond.initialized cls :: vx_atS own ic cls ["java/lang/RuntimeException", "java/lang/Exception"], vx_ot x = true) (hls : ls.size = nL)
    (d0 : decode cc pc = .ok (.new ik, 3)) (d3 : decode cc (pc + 3) = .ok (.dup, 1)) (d4 : decode cc (pc + 4) = .ok (.ldc is, 2)) (d6 : decode cc (pc + 6) = .ok (.invokespecial ic, 3)) (d9 : decode cc (pc + 9) = .ok (.athrow, 1))
    (hRf : 5 < R.frames) (hRl : (rest.map fun v => v.category).sum + 82 ≤ R.locals) (hRc : cells + 1 ≤ R.cells) (hRs : slots + 6 ≤ R.slots) (hp : postX cls w) (hc : cells + 1 ≤ mc) (hs : slots + 6 ≤ ms) :
    W p l e R s m args below meth c H locs cells slots (Zx κ below w0 post postX args s mc ms) (F0 m pc ls rest) := by
  subst ho
  obtain ⟨sa, hsa⟩ := hX.2.1.2.2.1.2.2.1 (is, text) hstr
  have ht := hX.1.2.2.2.2
  have hz := hX.2.1.2.2.1.1
  refine vx_throwS (names := ["java/lang/RuntimeException", "java/lang/Exception"]) hX.1.1 hX.1.2.1 hst hX.1.2.2.2.1 hcls (by decide +kernel) (ht _ m1) (ht _ m2) hsa (vx_hat (B := wNest) (fun x hx => ht _ (hat1 x hx)) hat2 (fun x hx => ?_)) hgood (hz.1.narrow hX.2.2.1) (hz.2.1.narrow hX.2.2.1) hB.2.2 (by rw [hX.1.2.2.1]; exact hls) d0 d3 d4 d6 d9 (fun x hx => (hne x hx).elim) hRf hRl hRc hRs hX.2.2.2.2.2 (fun t hvm hz1 hk => ⟨⟨w, hp, P_kept hB.1 (fun q hq => hk q (P_lt hB.1 hq)), hB.2.1.weaken (fun _ q _ h => hA3 q.1 h)⟩, ?_⟩) (fun q hq => hA3 _ (hB.2.2.2.2 q hq)) hc hs
  · have h1 := hX.2.1.2.1.use hx
    have h2 := (List.mem_filter.mp hx).2
    cases x <;> first | (simp [wNk] at h2; done) | exact va_Nw.use rfl h1
  · exact ⟨Nat.le_trans hB.2.2.1 hz1, fun q h1 h2 => (hk q (Nat.lt_of_lt_of_le h1 hB.2.2.1)).trans (hB.2.2.2.1 q h1 (fun h => h2 (hA3 q h)))⟩

theorem throw_TW {w0 : va_W} {post : Option Value → va_W → Prop} {postX : String → va_W → Prop} {mc ms pc : Nat} {ls : Array Slot} {rest : List Value} {cls text : String} {ik is ic : Nat} (hst : l.stackTraces = false) (hX : Cx κ p m c cc nL s args own meth ret A) (hne : ∀ x ∈ c.exceptionTable.toList, False) (hB : Bd κ A s w H locs) (hA3 : ∀ q, A q → Fw w0 q ∨ s.heap.size ≤ q)
    (ho : own = "Gridmender") (hcls : Bundle.fit cls = true) (m1 : Cond.classLink own ik cls ∈ wAll) (m2 : Cond.initialized cls ∈ wAll) (hstr : (is, text) ∈ strs)
    (hat1 : ∀ x ∈ (vx_atS own ic cls ["java/lang/RuntimeException", "java/lang/Exception"]).filter goodWord, x ∈ wAll) (hat2 : ∀ x ∈ (vx_atS own ic cls ["java/lang/RuntimeException", "java/lang/Exception"]).filter (fun x => !goodWord x), x ∈ wNest)
    (hgood : ∀ x ∈ Cond.classLink own ik cls :: Cond.initialized cls :: vx_atS own ic cls ["java/lang/RuntimeException", "java/lang/Exception"], vx_ot x = true) (hls : ls.size = nL)
    (d0 : decode cc pc = .ok (.new ik, 3)) (d3 : decode cc (pc + 3) = .ok (.dup, 1)) (d4 : decode cc (pc + 4) = .ok (.ldc_w is, 3)) (d6 : decode cc (pc + 7) = .ok (.invokespecial ic, 3)) (d9 : decode cc (pc + 10) = .ok (.athrow, 1))
    (hRf : 5 < R.frames) (hRl : (rest.map fun v => v.category).sum + 82 ≤ R.locals) (hRc : cells + 1 ≤ R.cells) (hRs : slots + 6 ≤ R.slots) (hp : postX cls w) (hc : cells + 1 ≤ mc) (hs : slots + 6 ≤ ms) :
    W p l e R s m args below meth c H locs cells slots (Zx κ below w0 post postX args s mc ms) (F0 m pc ls rest) := by
  subst ho
  obtain ⟨sa, hsa⟩ := hX.2.1.2.2.1.2.2.1 (is, text) hstr
  have ht := hX.1.2.2.2.2
  have hz := hX.2.1.2.2.1.1
  refine vx_throwSW (names := ["java/lang/RuntimeException", "java/lang/Exception"]) hX.1.1 hX.1.2.1 hst hX.1.2.2.2.1 hcls (by decide +kernel) (ht _ m1) (ht _ m2) hsa (vx_hat (B := wNest) (fun x hx => ht _ (hat1 x hx)) hat2 (fun x hx => ?_)) hgood (hz.1.narrow hX.2.2.1) (hz.2.1.narrow hX.2.2.1) hB.2.2 (by rw [hX.1.2.2.1]; exact hls) d0 d3 d4 d6 d9 (fun x hx => (hne x hx).elim) hRf hRl hRc hRs hX.2.2.2.2.2 (fun t hvm hz1 hk => ⟨⟨w, hp, P_kept hB.1 (fun q hq => hk q (P_lt hB.1 hq)), hB.2.1.weaken (fun _ q _ h => hA3 q.1 h)⟩, ?_⟩) (fun q hq => hA3 _ (hB.2.2.2.2 q hq)) hc hs
  · have h1 := hX.2.1.2.1.use hx
    have h2 := (List.mem_filter.mp hx).2
    cases x <;> first | (simp [wNk] at h2; done) | exact va_Nw.use rfl h1
  · exact ⟨Nat.le_trans hB.2.2.1 hz1, fun q h1 h2 => (hk q (Nat.lt_of_lt_of_le h1 hB.2.2.1)).trans (hB.2.2.2.1 q h1 (fun h => h2 (hA3 q h)))⟩
end GMX
