/-! ===== Rows for the library's strings ===== -/
section JRW
variable {p : Program} {l : Launch} {e : Env} {R : Room} {s : State} {m : MethodId} {args : Array Value} {below : List Frame} {meth : Method} {c : Code} {H : Heap} {locs : List Loc} {cells slots : Nat} {Q : State → Prop}
variable {κ : Kt} {cc : ByteArray} {nL : Nat} {own : String} {ret : Option FieldType} {A : Nat → Prop} {w : va_W}
variable {pc : Nat} {ls : Array Slot} {rest : List Value}
/-- a field that a class above declares -/
theorem gfU {k0 ci N b index : Nat} {C ref : String} {T : u_T} {fs : List Value} (hX : Cx κ p m c cc nL s args own meth ret A) (hB : Bd κ A s w H locs) (he : w[k0]? = some (b, .inr (ci, fs))) (hc : vwCl[ci]? = some (C, T, N)) (hin : ∀ x ∈ u_ws C T N, x ∈ wAll) (k : Nat) (hk : k < N) (hl : Cond.fieldLink own index ref (T k).2.1 (T k).2.2.1 ∈ wAll) (hs : (T k).1 = ref) {v : Value} (hv : fs[k]? = some v) (hdg : decode cc pc = .ok (.getfield index, 3))
    (kk : W p l e R s m args below meth c H locs cells slots Q (F0 m (pc + 3) ls (v :: rest))) : W p l e R s m args below meth c H locs cells slots Q (F0 m pc ls (.ref b :: rest)) :=
  va_get (ref := ref) hX.1.1 hX.1.2.1 hX.1.2.2.2.2 hin hX.1.2.2.2.1 hX.2.1.1 hB.1 k0 he hc k hk (hX.1.2.2.2.2 _ hl) (fun x h => by rw [hs] at h; exact h) hv hdg kk
theorem pfU {k0 ci N b index : Nat} {C ref : String} {T : u_T} {fs : List Value} {ty : FieldType} {v : Value} (hX : Cx κ p m c cc nL s args own meth ret A) (hB : Bd κ A s w H locs) (he : w[k0]? = some (b, .inr (ci, fs))) (hc : vwCl[ci]? = some (C, T, N)) (hin : ∀ x ∈ u_ws C T N, x ∈ wAll) {ty0 : Nat → FieldType} (hty : ∀ k, k < N → parseFieldDescriptor (T k).2.2.1 = some (ty0 k)) (hnm : ∀ a, a < N → ∀ b, b < N → a ≠ b → (T a).2.1 ≠ (T b).2.1) (k : Nat) (hk : k < N) (hl : Cond.fieldLink own index ref (T k).2.1 (T k).2.2.1 ∈ wAll) (hs : (T k).1 = ref) (hfin : (T k).2.2.2 = false) (hd : ty0 k = ty) (hn : narrow ty v = v) (hfit : fits ty v = true) (hlen : k < fs.length) {w1 : va_W} (hw : w.set k0 (b, .inr (ci, fs.set k v)) = w1) (hdg : decode cc pc = .ok (.putfield index, 3))
    (kk : ∀ (H1 : Heap) (locs1 : List Loc), Bd κ A s w1 H1 locs1 → W p l e R s m args below meth c H1 locs1 cells slots Q (F0 m (pc + 3) ls rest)) : W p l e R s m args below meth c H locs cells slots Q (F0 m pc ls (v :: .ref b :: rest)) := by
  subst hw
  exact va_put (ref := ref) (ty := ty) hX.1.1 hX.1.2.1 hX.1.2.2.2.2 hin ty0 hty hnm hX.1.2.2.2.1 hX.2.1.1 hB.1 hB.2.1 hB.2.2 k0 he hc k hk (hX.1.2.2.2.2 _ hl) (fun x h => by rw [hs] at h; exact h) hfin (by rw [hty k hk, hd]) hn hfit hlen hdg (fun H1 locs1 h1 h2 h3 => kk H1 locs1 ⟨h1, h2, h3⟩)
/-- a static of the library -/
theorem gsv {C n d : String} {v : Value} {index : Nat} (hX : Cx κ p m c cc nL s args own meth ret A) (hB : Bd κ A s w H locs) (hZ : va_Z C n d v (Az κ) s s.heap) (hl : Cond.fieldLink own index C n d ∈ wAll) (hdg : decode cc pc = .ok (.getstatic index, 3))
    (kk : W p l e R s m args below meth c H locs cells slots Q (F0 m (pc + 3) ls (v :: rest))) : W p l e R s m args below meth c H locs cells slots Q (F0 m pc ls rest) :=
  va_gets hX.1.1 hX.1.2.1 (hZ.narrow hX.2.2.1) hB.2.2 hX.1.2.2.2.1 (hX.1.2.2.2.2 _ hl) (fun _ h => h) hdg kk
theorem baldS {t N : Nat} {f : Nat → Int32} (hX : Cx κ p m c cc nL s args own meth ret A) (hB : Bd κ A s w H locs) (hT : va_T .byte t N (fun j => .int (f j)) (Az κ) s s.heap) {i : Int32} (hin : vp_in i N) (hdg : decode cc pc = .ok (.baload, 1))
    (kk : W p l e R s m args below meth c H locs cells slots Q (F0 m (pc + 1) ls (.int (f i.toNatClampNeg) :: rest))) : W p l e R s m args below meth c H locs cells slots Q (F0 m pc ls (.int i :: .ref t :: rest)) :=
  va_tb hX.1.1 hX.1.2.1 (hT.narrow hX.2.2.1) hB.2.2 hin rfl hdg kk
theorem bastN {k0 b n k : Nat} {f : Nat → Int32} {x : Int32} (hX : Cx κ p m c cc nL s args own meth ret A) (hB : Bd κ A s w H locs) (he : w[k0]? = some (b, .inl (κ.2.1 3, n, .inl f))) (hn : n < 2 ^ 31) (hk : k < n) {w1 : va_W} (hw : w.set k0 (b, .inl (κ.2.1 3, n, .inl (upd f k (vp_nar .byte x)))) = w1) (hdg : decode cc pc = .ok (.bastore, 1))
    (kk : ∀ (H1 : Heap) (locs1 : List Loc), Bd κ A s w1 H1 locs1 → W p l e R s m args below meth c H1 locs1 cells slots Q (F0 m (pc + 1) ls rest)) : W p l e R s m args below meth c H locs cells slots Q (F0 m pc ls (.int x :: .int (nI k) :: .ref b :: rest)) := by
  subst hw
  refine va_bast (tys := tysK κ) hX.1.1 hX.1.2.1 hX.2.1.1 hB.1 hB.2.1 hB.2.2 k0 3 he rfl (vp_in_nI hk hn) hdg (fun H1 locs1 h1 h2 h3 => kk H1 locs1 ?_)
  rw [nI_clamp (Nat.lt_trans hk hn)] at h1 h2
  exact ⟨h1, h2, h3⟩
theorem alenB {k0 b n : Nat} {f : Nat → Int32} {v : Int32} (hX : Cx κ p m c cc nL s args own meth ret A) (hB : Bd κ A s w H locs) (he : w[k0]? = some (b, .inl (κ.2.1 3, n, .inl f))) (hv : Int32.ofNat n = v) (hdg : decode cc pc = .ok (.arraylength, 1))
    (kk : W p l e R s m args below meth c H locs cells slots Q (F0 m (pc + 1) ls (.int v :: rest))) : W p l e R s m args below meth c H locs cells slots Q (F0 m pc ls (.ref b :: rest)) :=
  va_alen (tys := tysK κ) (ty := .byte) hX.1.1 hX.1.2.1 hX.2.1.1 hB.1 k0 3 he rfl hv hdg kk
theorem copyB {k0 k1 b0 b n0 n1 index sp dp n : Nat} {f g : Nat → Int32} (hX : Cx κ p m c cc nL s args own meth ret A) (hB : Bd κ A s w H locs) (hml : ls.size = nL) (m1 : Cond.methodLink own index arraycopyName ∈ wAll) (m2 : Cond.native arraycopyName ∈ wNest) (m3 : Cond.static arraycopyName ∈ wAll) (m4 : Cond.initialized "java/lang/System" ∈ wAll) (h0 : w[k0]? = some (b0, .inl (κ.2.1 3, n0, .inl f))) (h1 : w[k1]? = some (b, .inl (κ.2.1 3, n1, .inl g))) (hn0 : n0 < 2 ^ 31) (hn1 : n1 < 2 ^ 31) (h4 : sp + n ≤ n0) (h5 : dp + n ≤ n1) (hf : sb_Fit f) (hfr : 1 ≤ R.frames) (hlo : (rest.map fun v => v.category).sum + (nativeFrameWords "java/lang/System" "arraycopy" 5 + 11) ≤ R.locals) {w1 : va_W} (hw : w.set k1 (b, .inl (κ.2.1 3, n1, .inl (va_cpy f g sp dp n))) = w1) (hdg : decode cc pc = .ok (.invokestatic index, 3))
    (kk : ∀ (H1 : Heap) (locs1 : List Loc), Bd κ A s w1 H1 locs1 → W p l e R s m args below meth c H1 locs1 cells slots Q (F0 m (pc + 3) ls rest)) : W p l e R s m args below meth c H locs cells slots Q (F0 m pc ls (.int (nI n) :: .int (nI dp) :: .ref b :: .int (nI sp) :: .ref b0 :: rest)) := by
  subst hw
  have hv := hX.1.2.2.2.2
  have e1 : (nI sp).toNatClampNeg = sp := nI_clamp (by omega)
  have e2 : (nI dp).toNatClampNeg = dp := nI_clamp (by omega)
  have e3 : (nI n).toNatClampNeg = n := nI_clamp (by omega)
  refine va_copyi (tys := tysK κ) (ty := .byte) hX.1.1 hX.1.2.1 (by rw [hX.1.2.2.1]; exact hml.symm) hX.1.2.2.2.1 (hv _ m1) (va_Nw.use rfl (hX.2.1.2.1.use m2)) (hv _ m3) (hv _ m4) hX.2.1.1 hB.1 hB.2.1 hB.2.2 k0 k1 3 3 h0 h1 rfl rfl rfl (nI_pos (by omega)) (nI_pos (by omega)) (nI_pos (by omega)) (by rw [e1, e3]; exact h4) (by rw [e2, e3]; exact h5) (fun i _ => hf _) hfr hlo hdg (fun H1 locs1 a1 a2 a3 => kk H1 locs1 ?_)
  rw [e1, e2, e3] at a1 a2
  exact ⟨a1, a2, a3⟩
/-- a private method is chosen by itself, on an object of a class below too -/
theorem sel_priv {C : String} {y : MethodName} {k : va_G} (hc : ∃ cC, s.vm.findClass C = some cC) (hsame : (Cond.sameMethod y.cls y.cls y.name y.desc).before args s = true) (hpr : (Cond.privateMethod y).before args s = true) (hinst : (Cond.instanceMethod y).before args s = true) (hy : y.cls ≠ "java/lang/invoke/MethodHandle" ∧ y.cls ≠ "java/lang/invoke/VarHandle") : (Cond.selects C y y).before args s = true := by
  obtain ⟨cC, hc⟩ := hc
  obtain ⟨cn, ck, r1, hcn, hck, hni, hf, hn1⟩ := Cond.sameMethod_found hsame
  obtain ⟨mk, methM, hnamed, hmethM, -, -⟩ := Cond.instanceMethod_spec hinst
  have hfound : s.methodFound? y.cls y.name y.desc = some mk := State.methodFound?_of_named hnamed hy
  have hcls : mk.cls = cn := Option.some.inj ((findClass_of_methodNamed hnamed).symm.trans hcn)
  have hsel : selectMethod {} s.vm cC mk = .method mk := selectMethod_private hmethM (Cond.privateMethod_at hpr mk methM hnamed hmethM)
  simp only [Cond.before, Cond.holds, Cond.value, hc, hfound, hnamed, hsel, hcls, hck]
  simp; exact hni
theorem call_U {post : Option Value → va_W → Prop} {y : MethodName} {C : String} {bytes : ByteArray} {maxL fr lo mc ms n index b : Nat} {rt : Option FieldType} {As st0 : List Value} (hX : Cx κ p m c cc nL s args own meth ret A) (hB : Bd κ A s w H locs)
    (hM : CM κ l y bytes maxL rt fr lo mc ms (.ref b :: As) w post) (hy : Yk y n) (m1 : Cond.methodLink own index y ∈ wAll) (m3 : Cond.sameMethod y.cls y.cls y.name y.desc ∈ wAll) (m2 : Cond.instanceMethod y ∈ wAll) (hsel : Cond.selects C y y ∈ wAll ∨ Cond.privateMethod y ∈ wNest) (m4 : Cond.initialized y.cls ∈ wAll) (m5 : Cond.code y bytes maxL rt ∈ wAll)
    (hR : fr + 1 ≤ R.frames ∧ 8 + (maxL + 11) + lo ≤ R.locals) (hf : cells + mc ≤ R.cells ∧ slots + ms ≤ R.slots) {k0 ci : Nat} {q : vw_C} {fs : List Value} (he : w[k0]? = some (b, .inr (ci, fs))) (hc : vwCl[ci]? = some q) (hq : q.1 = C)
    (hn : As.length = n) (hl : ls.size = nL) (hst : st0 = As.reverse ++ .ref b :: rest) (hcat : (rest.map fun v => v.category).sum ≤ 8) (hdg : decode cc pc = .ok (.invokevirtual index, 3))
    (kk : ∀ (r : Option Value) (w' : va_W) (H1 : Heap) (locs1 : List Loc), post r w' → Bd κ A s w' H1 locs1 → W p l e R s m args below meth c H1 locs1 (cells + mc) (slots + ms) Q (F0 m (pc + 3) ls (r.toList ++ rest))) : W p l e R s m args below meth c H locs cells slots Q (F0 m pc ls st0) := by
  have ht := hX.1.2.2.2.2
  obtain ⟨cell, z1, z2, z3⟩ := va_recv hX.2.1.1 hB.1 hc he
  rw [hq] at z3
  have hs : (Cond.selects C y y).before args s = true := hsel.elim (fun h => ht _ h) (fun h => sel_priv (k := κ.1) ⟨_, z3⟩ (ht _ m3) (va_Nw.use rfl (hX.2.1.2.1.use h)) (ht _ m2) ⟨hy.1, hy.2.1⟩)
  refine CM_after hX hB (va_runU (x := y) (y := y) (C := C) (owner := y.cls) (As := As) (rest := rest) (nL := nL) (own := own) (b := b) hX.1 (hM H.size) ⟨⟨rfl, rfl, hR.1, hR.2, pay_in ht (gAll m5), List.mem_cons_self⟩, ht _ m5, ht _ m4, ⟨hy.1, hy.2.1⟩, fun sig h => ?_, ht _ m1, ht _ m3, va_Decl.of (ht _ m2) (ht _ m5), hs, ht _ m2⟩ ⟨Pm_blind, ⟨cell, z1, z2, z3⟩, Pm_at hX hB⟩ rfl hn hl hst (lv_room hcat) hdg hf) kk
  have h2 := hy.2.2
  rw [h] at h2
  exact (Option.some.inj h2).symm
/-- a method that a class above declares, and the object's own class lays anew -/
theorem call_O {post : Option Value → va_W → Prop} {x y : MethodName} {C : String} {bytes b0 : ByteArray} {maxL m0 fr lo mc ms n index b : Nat} {rt r0 : Option FieldType} {As st0 : List Value} (hX : Cx κ p m c cc nL s args own meth ret A) (hB : Bd κ A s w H locs)
    (hM : CM κ l y bytes maxL rt fr lo mc ms (.ref b :: As) w post) (hy : Yk x n) (hC : y.cls = C) (m1 : Cond.methodLink own index x ∈ wAll) (m3 : Cond.sameMethod x.cls x.cls x.name x.desc ∈ wAll) (m7 : Cond.instanceMethod x ∈ wAll) (m8 : Cond.code x b0 m0 r0 ∈ wAll) (hsel : Cond.selects C x y ∈ wAll) (m2 : Cond.instanceMethod y ∈ wAll) (m4 : Cond.initialized y.cls ∈ wAll) (m5 : Cond.code y bytes maxL rt ∈ wAll)
    (hR : fr + 1 ≤ R.frames ∧ 8 + (maxL + 11) + lo ≤ R.locals) (hf : cells + mc ≤ R.cells ∧ slots + ms ≤ R.slots) {k0 ci : Nat} {q : vw_C} {fs : List Value} (he : w[k0]? = some (b, .inr (ci, fs))) (hc : vwCl[ci]? = some q) (hq : q.1 = C)
    (hn : As.length = n) (hl : ls.size = nL) (hst : st0 = As.reverse ++ .ref b :: rest) (hcat : (rest.map fun v => v.category).sum ≤ 8) (hdg : decode cc pc = .ok (.invokevirtual index, 3))
    (kk : ∀ (r : Option Value) (w' : va_W) (H1 : Heap) (locs1 : List Loc), post r w' → Bd κ A s w' H1 locs1 → W p l e R s m args below meth c H1 locs1 (cells + mc) (slots + ms) Q (F0 m (pc + 3) ls (r.toList ++ rest))) : W p l e R s m args below meth c H locs cells slots Q (F0 m pc ls st0) := by
  have ht := hX.1.2.2.2.2
  obtain ⟨cell, z1, z2, z3⟩ := va_recv hX.2.1.1 hB.1 hc he
  rw [hq] at z3
  exact CM_after hX hB (va_runU (x := x) (y := y) (C := C) (owner := x.cls) (As := As) (rest := rest) (nL := nL) (own := own) (b := b) hX.1 (hM H.size) (va_cwO n ht (gAll1 m1 (gAll1 m3 (gAll1 m7 (gAll1 hsel (gAll1 m2 (gAll1 m4 (gAll m5))))))) rfl rfl rfl m8 ⟨hy.1, hy.2.1, hy.2.2⟩ hR) ⟨Pm_blind, ⟨cell, z1, z2, z3⟩, Pm_at hX hB⟩ rfl hn hl hst (lv_room hcat) hdg hf) kk
/-- a method of the class above, by 'super' -/
theorem call_SU {post : Option Value → va_W → Prop} {y : MethodName} {bytes : ByteArray} {maxL fr lo mc ms n index b : Nat} {rt : Option FieldType} {As st0 : List Value} (hX : Cx κ p m c cc nL s args own meth ret A) (hB : Bd κ A s w H locs)
    (hM : CM κ l y bytes maxL rt fr lo mc ms (.ref b :: As) w post) (hy : y.name ≠ "<init>" ∧ (parseMethodDescriptor y.desc).map (fun d => d.parameters.length) = some n) (m1 : Cond.methodLink own index y ∈ wAll) (m3 : Cond.sameMethod y.cls y.cls y.name y.desc ∈ wAll) (m6 : Cond.superclass own y.cls ∈ wAll) (m2 : Cond.instanceMethod y ∈ wAll) (m4 : Cond.initialized y.cls ∈ wAll) (m5 : Cond.code y bytes maxL rt ∈ wAll)
    (hR : fr + 1 ≤ R.frames ∧ 8 + (maxL + 11) + lo ≤ R.locals) (hf : cells + mc ≤ R.cells ∧ slots + ms ≤ R.slots) {k0 ci : Nat} {q : vw_C} {fs : List Value} (he : w[k0]? = some (b, .inr (ci, fs))) (hc : vwCl[ci]? = some q) (hq : q.1 = own)
    (hn : As.length = n) (hl : ls.size = nL) (hst : st0 = As.reverse ++ .ref b :: rest) (hcat : (rest.map fun v => v.category).sum ≤ 8) (hdg : decode cc pc = .ok (.invokespecial index, 3))
    (kk : ∀ (r : Option Value) (w' : va_W) (H1 : Heap) (locs1 : List Loc), post r w' → Bd κ A s w' H1 locs1 → W p l e R s m args below meth c H1 locs1 (cells + mc) (slots + ms) Q (F0 m (pc + 3) ls (r.toList ++ rest))) : W p l e R s m args below meth c H locs cells slots Q (F0 m pc ls st0) := by
  have ht := hX.1.2.2.2.2
  obtain ⟨cell, z1, z2, z3⟩ := va_recv hX.2.1.1 hB.1 hc he
  have hat := (hX.2.1.1.1 ci q hc).2
  rw [hq] at z3 hat
  refine CM_after hX hB (va_runSU (y := y) (C := own) (As := As) (rest := rest) (nL := nL) (own := own) (b := b) hat hX.1 (hM H.size) ⟨⟨rfl, rfl, hR.1, hR.2, pay_in ht (gAll m5), List.mem_cons_self⟩, ht _ m1, ht _ m3, ht _ m6, ht _ m2, ht _ m4, ht _ m5, hy.1, fun sig h => ?_⟩ ⟨Pm_blind, ⟨cell, z1, z2, z3⟩, Pm_at hX hB⟩ rfl hn hl hst (lv_room hcat) hdg hf) kk
  have h2 := hy.2
  rw [h] at h2
  exact (Option.some.inj h2).symm
end JRW
theorem inJ4 : ∀ x ∈ u_ws RJ4 TJ4 4, x ∈ wAll := by decide +kernel
theorem inJ0 : ∀ x ∈ u_ws RJ0 TJ0 4, x ∈ wAll := by decide +kernel
