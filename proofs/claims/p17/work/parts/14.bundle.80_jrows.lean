section
-- 80.jrows
/-! ===== Rows for the library's strings ===== -/
section JRW
variable {p : Program} {l : Launch} {e : Env} {R : Room} {s : State} {m : MethodId} {args : Array Value} {below : List Frame} {meth : Method} {c : Code} {H : Heap} {locs : List Loc} {cells slots : Nat} {Q : State → Prop}
variable {κ : Kt} {cc : ByteArray} {nL : Nat} {own : String} {ret : Option FieldType} {A : Nat → Prop} {w : va_W}
variable {pc : Nat} {ls : Array Slot} {rest : List Value}
/-- a field that a class above declares -/
theorem gfU {k0 ci N b index : Nat} {C ref : String} {T : u_T} {fs : List Value} (hX : Cx κ p m c cc nL s args own meth ret A) (hB : Bd κ A s w H locs) (he : w[k0]? = some (b, .inr (ci, fs))) (hc : vwCl[ci]? = some (C, T, N)) (hin : ∀ x ∈ u_ws C T N, x ∈ wAll) (k : Nat) (hk : k < N) (hl : Cond.fieldLink own index ref (T k).2.1 (T k).2.2.1 ∈ wAll) (hs : (T k).1 = ref) {v : Value} (hv : fs[k]? = some v) (hdg : decode cc pc = .ok (.getfield index, 3))
    (kk : W p l e R s m args below meth c H locs cells slots Q (F0 m (pc + 3) ls (v :: rest))) : W p l e R s m args below meth c H locs cells slots Q (F0 m pc ls (.ref b :: rest)) :=
  va_get (ref := ref) hX.1.1 hX.1.2.1 hX.1.2.2.2.2 hin hX.1.2.2.2.1 hX.2.1.1 hB.1 k0 he hc k hk (hX.1.2.2.2.2 _ hl) (fun x h => by rw [hs] at h; exact h) hv hdg kk
theorem pfU {k0 ci N b index : Nat} {C ref : String} {T : u_T} {fs : List Value} {ty : FieldType} {v : Value} (hX : Cx κ p m c cc nL s args own meth ret A) (hB : Bd κ A s w H locs) (he : w[k0]? = some (b, .inr (ci, fs))) (hc : vwCl[ci]? = some (C, T, N)) (hin : ∀ x ∈ u_ws C T N, x ∈ wAll) {ty0 : Nat → FieldType} (hty : ∀ k, k < N → parseFieldDescriptor (T k).2.2.1 = some (ty0 k)) (hnm : ∀ a, a < N → ∀ b, b < N → a ≠ b → (T a).2.1 ≠ (T b).2.1) (k : Nat) (hk : k < N) (hl : Cond.fieldLink own index ref (T k).2.1 (T k).2.2.1 ∈ wAll) (hs : (T k).1 = ref) (hfin : (T k).2.2.2 = false) (hd : ty0 k = ty) (hn : narrow ty v = v) (hfit : fits ty v = true) (hlen : k < fs.length) {w1 : va_W} (hw : w.set k0 (b, .inr (ci, fs.set k v)) = w1) (hdg : decode cc pc = .ok (.putfield index, 3))
    (kk : ∀ (H1 : Heap) (locs1 : List Loc), Bd κ A s w1 H1 locs1 → W p l e R s m args below meth c H1 locs1 cells slots Q (F0 m (pc + 3) ls rest)) : W p l e R s m args below meth c H locs cells slots Q (F0 m pc ls (v :: .ref b :: rest)) := by
  subst hw
  exact va_put (ref := ref) (ty := ty) hX.1.1 hX.1.2.1 hX.1.2.2.2.2 hin ty0 hty hnm hX.1.2.2.2.1 hX.2.1.1 hB.1 hB.2.1 hB.2.2 k0 he hc k hk (hX.1.2.2.2.2 _ hl) (fun x h => by rw [hs] at h; exact h) hfin (by rw [hty k hk, hd]) hn hfit hlen hdg (fun H1 locs1 h1 h2 h3 => kk H1 locs1 ⟨h1, h2, h3⟩)
/-- a static of the library -/
theorem gsv {C n d : String} {v : Value} {index : Nat} (hX : Cx κ p m c cc nL s args own meth ret A) (hB : Bd κ A s w H locs) (hZ : va_Z C n d v (Az κ) s s.heap) (hl : Cond.fieldLink own index C n d ∈ wAll) (hdg : decode cc pc = .ok (.getstatic index, 3))
    (kk : W p l e R s m args below meth c H locs cells slots Q (F0 m (pc + 3) ls (v :: rest))) : W p l e R s m args below meth c H locs cells slots Q (F0 m pc ls rest) :=
  va_gets hX.1.1 hX.1.2.1 (hZ.narrow hX.2.2.1) hB.2.2 hX.1.2.2.2.1 (hX.1.2.2.2.2 _ hl) (fun _ h => h) hdg kk
theorem baldS {t N : Nat} {f : Nat → Int32} (hX : Cx κ p m c cc nL s args own meth ret A) (hB : Bd κ A s w H locs) (hT : va_T .byte t N (fun j => .int (f j)) (Az κ) s s.heap) {i : Int32} (hin : vp_in i N) (hdg : decode cc pc = .ok (.baload, 1))
    (kk : W p l e R s m args below meth c H locs cells slots Q (F0 m (pc + 1) ls (.int (f i.toNatClampNeg) :: rest))) : W p l e R s m args below meth c H locs cells slots Q (F0 m pc ls (.int i :: .ref t :: rest)) :=
  va_tb hX.1.1 hX.1.2.1 (hT.narrow hX.2.2.1) hB.2.2 hin rfl hdg kk
theorem bastN {k0 b n k : Nat} {f : Nat → Int32} {x : Int32} (hX : Cx κ p m c cc nL s args own meth ret A) (hB : Bd κ A s w H locs) (he : w[k0]? = some (b, .inl (κ.2.1 3, n, .inl f))) (hn : n < 2 ^ 31) (hk : k < n) {w1 : va_W} (hw : w.set k0 (b, .inl (κ.2.1 3, n, .inl (upd f k (vp_nar .byte x)))) = w1) (hdg : decode cc pc = .ok (.bastore, 1))
    (kk : ∀ (H1 : Heap) (locs1 : List Loc), Bd κ A s w1 H1 locs1 → W p l e R s m args below meth c H1 locs1 cells slots Q (F0 m (pc + 1) ls rest)) : W p l e R s m args below meth c H locs cells slots Q (F0 m pc ls (.int x :: .int (nI k) :: .ref b :: rest)) := by
  subst hw
  refine va_bast (tys := tysK κ) hX.1.1 hX.1.2.1 hX.2.1.1 hB.1 hB.2.1 hB.2.2 k0 3 he rfl (vp_in_nI hk hn) hdg (fun H1 locs1 h1 h2 h3 => kk H1 locs1 ?_)
  rw [nI_clamp (Nat.lt_trans hk hn)] at h1 h2
  exact ⟨h1, h2, h3⟩
theorem alenB {k0 b n : Nat} {f : Nat → Int32} {v : Int32} (hX : Cx κ p m c cc nL s args own meth ret A) (hB : Bd κ A s w H locs) (he : w[k0]? = some (b, .inl (κ.2.1 3, n, .inl f))) (hv : Int32.ofNat n = v) (hdg : decode cc pc = .ok (.arraylength, 1))
    (kk : W p l e R s m args below meth c H locs cells slots Q (F0 m (pc + 1) ls (.int v :: rest))) : W p l e R s m args below meth c H locs cells slots Q (F0 m pc ls (.ref b :: rest)) :=
  va_alen (tys := tysK κ) (ty := .byte) hX.1.1 hX.1.2.1 hX.2.1.1 hB.1 k0 3 he rfl hv hdg kk
theorem copyB {k0 k1 b0 b n0 n1 index sp dp n : Nat} {f g : Nat → Int32} (hX : Cx κ p m c cc nL s args own meth ret A) (hB : Bd κ A s w H locs) (hml : ls.size = nL) (m1 : Cond.methodLink own index arraycopyName ∈ wAll) (m2 : Cond.native arraycopyName ∈ wNest) (m3 : Cond.static arraycopyName ∈ wAll) (m4 : Cond.initialized "java/lang/System" ∈ wAll) (h0 : w[k0]? = some (b0, .inl (κ.2.1 3, n0, .inl f))) (h1 : w[k1]? = some (b, .inl (κ.2.1 3, n1, .inl g))) (hn0 : n0 < 2 ^ 31) (hn1 : n1 < 2 ^ 31) (h4 : sp + n ≤ n0) (h5 : dp + n ≤ n1) (hf : sb_Fit f) (hfr : 1 ≤ R.frames) (hlo : (rest.map fun v => v.category).sum + (nativeFrameWords "java/lang/System" "arraycopy" 5 + 11) ≤ R.locals) {w1 : va_W} (hw : w.set k1 (b, .inl (κ.2.1 3, n1, .inl (va_cpy f g sp dp n))) = w1) (hdg : decode cc pc = .ok (.invokestatic index, 3))
    (kk : ∀ (H1 : Heap) (locs1 : List Loc), Bd κ A s w1 H1 locs1 → W p l e R s m args below meth c H1 locs1 cells slots Q (F0 m (pc + 3) ls rest)) : W p l e R s m args below meth c H locs cells slots Q (F0 m pc ls (.int (nI n) :: .int (nI dp) :: .ref b :: .int (nI sp) :: .ref b0 :: rest)) := by
  subst hw
  have hv := hX.1.2.2.2.2
  have e1 : (nI sp).toNatClampNeg = sp := nI_clamp (by omega)
  have e2 : (nI dp).toNatClampNeg = dp := nI_clamp (by omega)
  have e3 : (nI n).toNatClampNeg = n := nI_clamp (by omega)
  refine va_copyi (tys := tysK κ) (ty := .byte) hX.1.1 hX.1.2.1 (by rw [hX.1.2.2.1]; exact hml.symm) hX.1.2.2.2.1 (hv _ m1) (va_Nw.use rfl (hX.2.1.2.1.use m2)) (hv _ m3) (hv _ m4) hX.2.1.1 hB.1 hB.2.1 hB.2.2 k0 k1 3 3 h0 h1 rfl rfl rfl (nI_pos (by omega)) (nI_pos (by omega)) (nI_pos (by omega)) (by rw [e1, e3]; exact h4) (by rw [e2, e3]; exact h5) (fun i _ => hf _) hfr hlo hdg (fun H1 locs1 a1 a2 a3 => kk H1 locs1 ?_)
  rw [e1, e2, e3] at a1 a2
  exact ⟨a1, a2, a3⟩
/-- a private method is chosen by itself, on an object of a class below too -/
theorem sel_priv {C : String} {y : MethodName} {k : va_G} (hc : ∃ cC, s.vm.findClass C = some cC) (hsame : (Cond.sameMethod y.cls y.cls y.name y.desc).before args s = true) (hpr : (Cond.privateMethod y).before args s = true) (hinst : (Cond.instanceMethod y).before args s = true) (hy : y.cls ≠ "java/lang/invoke/MethodHandle" ∧ y.cls ≠ "java/lang/invoke/VarHandle") : (Cond.selects C y y).before args s = true := by
  obtain ⟨cC, hc⟩ := hc
  obtain ⟨cn, ck, r1, hcn, hck, hni, hf, hn1⟩ := Cond.sameMethod_found hsame
  obtain ⟨mk, methM, hnamed, hmethM, -, -⟩ := Cond.instanceMethod_spec hinst
  have hfound : s.methodFound? y.cls y.name y.desc = some mk := State.methodFound?_of_named hnamed hy
  have hcls : mk.cls = cn := Option.some.inj ((findClass_of_methodNamed hnamed).symm.trans hcn)
  have hsel : selectMethod {} s.vm cC mk = .method mk := selectMethod_private hmethM (Cond.privateMethod_at hpr mk methM hnamed hmethM)
  simp only [Cond.before, Cond.holds, Cond.value, hc, hfound, hnamed, hsel, hcls, hck]
  simp; exact hni
theorem call_U {post : Option Value → va_W → Prop} {y : MethodName} {C : String} {bytes : ByteArray} {maxL fr lo mc ms n index b : Nat} {rt : Option FieldType} {As st0 : List Value} (hX : Cx κ p m c cc nL s args own meth ret A) (hB : Bd κ A s w H locs)
    (hM : CM κ l y bytes maxL rt fr lo mc ms (.ref b :: As) w post) (hy : Yk y n) (m1 : Cond.methodLink own index y ∈ wAll) (m3 : Cond.sameMethod y.cls y.cls y.name y.desc ∈ wAll) (m2 : Cond.instanceMethod y ∈ wAll) (hsel : Cond.selects C y y ∈ wAll ∨ Cond.privateMethod y ∈ wNest) (m4 : Cond.initialized y.cls ∈ wAll) (m5 : Cond.code y bytes maxL rt ∈ wAll)
    (hR : fr + 1 ≤ R.frames ∧ 8 + (maxL + 11) + lo ≤ R.locals) (hf : cells + mc ≤ R.cells ∧ slots + ms ≤ R.slots) {k0 ci : Nat} {q : vw_C} {fs : List Value} (he : w[k0]? = some (b, .inr (ci, fs))) (hc : vwCl[ci]? = some q) (hq : q.1 = C)
    (hn : As.length = n) (hl : ls.size = nL) (hst : st0 = As.reverse ++ .ref b :: rest) (hcat : (rest.map fun v => v.category).sum ≤ 8) (hdg : decode cc pc = .ok (.invokevirtual index, 3))
    (kk : ∀ (r : Option Value) (w' : va_W) (H1 : Heap) (locs1 : List Loc), post r w' → Bd κ A s w' H1 locs1 → W p l e R s m args below meth c H1 locs1 (cells + mc) (slots + ms) Q (F0 m (pc + 3) ls (r.toList ++ rest))) : W p l e R s m args below meth c H locs cells slots Q (F0 m pc ls st0) := by
  have ht := hX.1.2.2.2.2
  obtain ⟨cell, z1, z2, z3⟩ := va_recv hX.2.1.1 hB.1 hc he
  rw [hq] at z3
  have hs : (Cond.selects C y y).before args s = true := hsel.elim (fun h => ht _ h) (fun h => sel_priv (k := κ.1) ⟨_, z3⟩ (ht _ m3) (va_Nw.use rfl (hX.2.1.2.1.use h)) (ht _ m2) ⟨hy.1, hy.2.1⟩)
  refine CM_after hX hB (va_runU (x := y) (y := y) (C := C) (owner := y.cls) (As := As) (rest := rest) (nL := nL) (own := own) (b := b) hX.1 (hM H.size) ⟨⟨rfl, rfl, hR.1, hR.2, pay_in ht (gAll m5), List.mem_cons_self⟩, ht _ m5, ht _ m4, ⟨hy.1, hy.2.1⟩, fun sig h => ?_, ht _ m1, ht _ m3, va_Decl.of (ht _ m2) (ht _ m5), hs, ht _ m2⟩ ⟨Pm_blind, ⟨cell, z1, z2, z3⟩, Pm_at hX hB⟩ rfl hn hl hst (lv_room hcat) hdg hf) kk
  have h2 := hy.2.2
  rw [h] at h2
  exact (Option.some.inj h2).symm
/-- a method that a class above declares, and the object's own class lays anew -/
theorem call_O {post : Option Value → va_W → Prop} {x y : MethodName} {C : String} {bytes b0 : ByteArray} {maxL m0 fr lo mc ms n index b : Nat} {rt r0 : Option FieldType} {As st0 : List Value} (hX : Cx κ p m c cc nL s args own meth ret A) (hB : Bd κ A s w H locs)
    (hM : CM κ l y bytes maxL rt fr lo mc ms (.ref b :: As) w post) (hy : Yk x n) (hC : y.cls = C) (m1 : Cond.methodLink own index x ∈ wAll) (m3 : Cond.sameMethod x.cls x.cls x.name x.desc ∈ wAll) (m7 : Cond.instanceMethod x ∈ wAll) (m8 : Cond.code x b0 m0 r0 ∈ wAll) (hsel : Cond.selects C x y ∈ wAll) (m2 : Cond.instanceMethod y ∈ wAll) (m4 : Cond.initialized y.cls ∈ wAll) (m5 : Cond.code y bytes maxL rt ∈ wAll)
    (hR : fr + 1 ≤ R.frames ∧ 8 + (maxL + 11) + lo ≤ R.locals) (hf : cells + mc ≤ R.cells ∧ slots + ms ≤ R.slots) {k0 ci : Nat} {q : vw_C} {fs : List Value} (he : w[k0]? = some (b, .inr (ci, fs))) (hc : vwCl[ci]? = some q) (hq : q.1 = C)
    (hn : As.length = n) (hl : ls.size = nL) (hst : st0 = As.reverse ++ .ref b :: rest) (hcat : (rest.map fun v => v.category).sum ≤ 8) (hdg : decode cc pc = .ok (.invokevirtual index, 3))
    (kk : ∀ (r : Option Value) (w' : va_W) (H1 : Heap) (locs1 : List Loc), post r w' → Bd κ A s w' H1 locs1 → W p l e R s m args below meth c H1 locs1 (cells + mc) (slots + ms) Q (F0 m (pc + 3) ls (r.toList ++ rest))) : W p l e R s m args below meth c H locs cells slots Q (F0 m pc ls st0) := by
  have ht := hX.1.2.2.2.2
  obtain ⟨cell, z1, z2, z3⟩ := va_recv hX.2.1.1 hB.1 hc he
  rw [hq] at z3
  exact CM_after hX hB (va_runU (x := x) (y := y) (C := C) (owner := x.cls) (As := As) (rest := rest) (nL := nL) (own := own) (b := b) hX.1 (hM H.size) (va_cwO n ht (gAll1 m1 (gAll1 m3 (gAll1 m7 (gAll1 hsel (gAll1 m2 (gAll1 m4 (gAll m5))))))) rfl rfl rfl m8 ⟨hy.1, hy.2.1, hy.2.2⟩ hR) ⟨Pm_blind, ⟨cell, z1, z2, z3⟩, Pm_at hX hB⟩ rfl hn hl hst (lv_room hcat) hdg hf) kk
/-- a method of the class above, by 'super' -/
theorem call_SU {post : Option Value → va_W → Prop} {y : MethodName} {bytes : ByteArray} {maxL fr lo mc ms n index b : Nat} {rt : Option FieldType} {As st0 : List Value} (hX : Cx κ p m c cc nL s args own meth ret A) (hB : Bd κ A s w H locs)
    (hM : CM κ l y bytes maxL rt fr lo mc ms (.ref b :: As) w post) (hy : y.name ≠ "<init>" ∧ (parseMethodDescriptor y.desc).map (fun d => d.parameters.length) = some n) (m1 : Cond.methodLink own index y ∈ wAll) (m3 : Cond.sameMethod y.cls y.cls y.name y.desc ∈ wAll) (m6 : Cond.superclass own y.cls ∈ wAll) (m2 : Cond.instanceMethod y ∈ wAll) (m4 : Cond.initialized y.cls ∈ wAll) (m5 : Cond.code y bytes maxL rt ∈ wAll)
    (hR : fr + 1 ≤ R.frames ∧ 8 + (maxL + 11) + lo ≤ R.locals) (hf : cells + mc ≤ R.cells ∧ slots + ms ≤ R.slots) {k0 ci : Nat} {q : vw_C} {fs : List Value} (he : w[k0]? = some (b, .inr (ci, fs))) (hc : vwCl[ci]? = some q) (hq : q.1 = own)
    (hn : As.length = n) (hl : ls.size = nL) (hst : st0 = As.reverse ++ .ref b :: rest) (hcat : (rest.map fun v => v.category).sum ≤ 8) (hdg : decode cc pc = .ok (.invokespecial index, 3))
    (kk : ∀ (r : Option Value) (w' : va_W) (H1 : Heap) (locs1 : List Loc), post r w' → Bd κ A s w' H1 locs1 → W p l e R s m args below meth c H1 locs1 (cells + mc) (slots + ms) Q (F0 m (pc + 3) ls (r.toList ++ rest))) : W p l e R s m args below meth c H locs cells slots Q (F0 m pc ls st0) := by
  have ht := hX.1.2.2.2.2
  obtain ⟨cell, z1, z2, z3⟩ := va_recv hX.2.1.1 hB.1 hc he
  have hat := (hX.2.1.1.1 ci q hc).2
  rw [hq] at z3 hat
  refine CM_after hX hB (va_runSU (y := y) (C := own) (As := As) (rest := rest) (nL := nL) (own := own) (b := b) hat hX.1 (hM H.size) ⟨⟨rfl, rfl, hR.1, hR.2, pay_in ht (gAll m5), List.mem_cons_self⟩, ht _ m1, ht _ m3, ht _ m6, ht _ m2, ht _ m4, ht _ m5, hy.1, fun sig h => ?_⟩ ⟨Pm_blind, ⟨cell, z1, z2, z3⟩, Pm_at hX hB⟩ rfl hn hl hst (lv_room hcat) hdg hf) kk
  have h2 := hy.2
  rw [h] at h2
  exact (Option.some.inj h2).symm
end JRW
theorem inJ4 : ∀ x ∈ u_ws RJ4 TJ4 4, x ∈ wAll := by decide +kernel
theorem inJ0 : ∀ x ∈ u_ws RJ0 TJ0 4, x ∈ wAll := by decide +kernel
end
section
-- 81.jsb
abbrev bA (κ : Kt) (b n : Nat) (f : Nat → Int32) : Nat × va_E := (b, .inl (κ.2.1 3, n, .inl f))
theorem shl0 (x : Int32) : x <<< ((0 : Int32) &&& 31) = x := by
  have e : ((0 : Int32) &&& 31) = 0 := by decide
  rw [e, Int32.shiftLeft_zero]
theorem shr0z (x : Int32) : x >>> ((0 : Int32) &&& 31) = x := by
  have e : ((0 : Int32) &&& 31) = 0 := by decide
  rw [e, Int32.shiftRight_zero]
theorem nmax {a b : Nat} (ha : a < 2 ^ 31) (hb : b < 2 ^ 31) : (if nI a < nI b then nI b else nI a) = nI (max a b) := by
  by_cases h : a < b
  · rw [if_pos ((nI_ltI ha hb).mpr h), Nat.max_eq_right (by omega)]
  · rw [if_neg (fun z => h ((nI_ltI ha hb).mp z)), Nat.max_eq_left (by omega)]
theorem subleP {a b : Nat} (ha : a < 2 ^ 31) (hb : b < 2 ^ 31) : (nI a - nI b ≤ 0) = (a ≤ b) := by
  apply propext
  rw [i32_le, Int32.toInt_sub, nI_toInt ha, nI_toInt hb, Int.bmod_eq_of_le (by omega) (by omega), show (0 : Int32).toInt = 0 from rfl]
  omega
theorem nI_dec {a : Nat} (h : 1 ≤ a) : nI a + Int32.ofInt (-1) = nI (a - 1) := by
  have e := nI_sub (a := a) (b := 1) h
  rw [← e, show nI 1 = 1 from rfl, Int32.sub_eq_add_neg]
  rfl
theorem df1 : ∀ j, j < 4 → defaultValue (tyJ4 j) = vp_V [.null, .int 0, .int 0, .int 0] j := by
  intro j hj
  match j, hj with
  | 0, _ => rfl
  | 1, _ => rfl
  | 2, _ => rfl
  | 3, _ => rfl
theorem df0 : ∀ j, j < 4 → defaultValue (tyJ0 j) = vp_V [.null, .int 0, .int 0, .int 0] j := by
  intro j hj
  match j, hj with
  | 0, _ => rfl
  | 1, _ => rfl
  | 2, _ => rfl
  | 3, _ => rfl
theorem end_aA {p : Program} {l : Launch} {e : Env} {R : Room} {s : State} {m : MethodId} {args : Array Value} {below : List Frame} {meth : Method} {c : Code} {H : Heap} {locs : List Loc} {cells slots : Nat} {κ : Kt} {cc : ByteArray} {nL : Nat} {own : String} {ret : Option FieldType} {A : Nat → Prop} {w : va_W} {pc : Nat} {ls : Array Slot} {w0 : va_W} {post : Option Value → va_W → Prop} {mc ms : Nat} {v : Value} {ty : FieldType} (hX : Cx κ p m c cc nL s args own meth ret A) (hB : Bd κ A s w H locs) (hA3 : ∀ q, A q → Fw w0 q ∨ s.heap.size ≤ q) (hr : ret = some (.array ty)) (hv : v = .null ∨ ∃ a, v = .ref a) (hp : post (some v) w) (hc : cells ≤ mc) (hs : slots ≤ ms) (hdg : decode cc pc = .ok (.areturn, 1)) :
    W p l e R s m args below meth c H locs cells slots (Zm κ below w0 post args s mc ms) (F0 m pc ls [v]) := by
  refine W.widen hc hs (W.aret hX.1.1 hX.1.2.1 (hX.2.2.2.2.1.trans hr) (Or.inr ⟨_, rfl⟩) hv (fun t ht hW => ⟨⟨_, w, rfl, hp, by rw [ht]; exact hB.1, hB.2.1.weaken (fun _ q _ h => hA3 q.1 h)⟩, ?_⟩) (fun q hq => hA3 _ (hB.2.2.2.2 q hq)) hdg (hlocks := hX.2.2.2.2.2))
  exact ⟨by rw [ht]; exact hB.2.2.1, fun q h1 h2 => by rw [ht]; exact hB.2.2.2.1 q h1 (fun h => h2 (hA3 q h))⟩

set_option maxHeartbeats 4000000 in
set_option maxRecDepth 100000 in
theorem k_J8_newLength_cabcc (κ : Kt) (l : Launch) (w : va_W) (xx : Int32) (x : Nat) (xy : Int32) (y : Nat) (xz : Int32) (z : Nat) (hxx : xx = nI x) (hxy : xy = nI y) (hxz : xz = nI z) (hbd : x ≤ 1000 ∧ y ≤ 1000 ∧ z ≤ 2000 ∧ 1 ≤ z) : CM κ l yJ8_newLength_cabcc cJ8_newLength_cabcc 4 (some .int) 1 21 0 0 [.int xx, .int xy, .int xz] (w) (fun o w' => o = some (.int (nI (x + max y z))) ∧ w' = w) := by
  subst hxx
  subst hxy
  subst hxz
  refine CM_begin (plainFor_of_name pn_RJ8) (Nat.le_of_ble_eq_true rfl) ?_
  intro p e s m args below meth c A Q hX hnm hA3 hQ hB ls hl
  have hx := hX.1.1
  have hb := hX.1.2.1
  have hl : lv_has ls 4 [(0, .int (nI x)), (1, .int (nI y)), (2, .int (nI z))] := hl
  refine lv_iload_n hx hb dJ8_newLength_cabcc_0 rfl (lv_at hl 0 rfl) ?_
  refine lv_iload_n hx hb dJ8_newLength_cabcc_1 rfl (lv_at hl 1 rfl) ?_
  refine lv_iload_n hx hb dJ8_newLength_cabcc_2 rfl (lv_at hl 2 rfl) ?_
  refine va_mmax hx hb (by rw [hX.1.2.2.1]; exact hl.1.symm) hX.1.2.2.2.1 (hX.1.2.2.2.2 _ wm_4_39) (hX.1.2.2.2.2 _ wm_1_220) (hX.1.2.2.2.2 _ wm_1_14) (hX.1.2.2.2.2 _ wm_1_221) (Nat.le_of_ble_eq_true rfl) (Nat.le_of_ble_eq_true rfl) (Nat.le_of_ble_eq_true rfl) (Nat.le_of_ble_eq_true rfl) dJ8_newLength_cabcc_3 ?_
  refine lv_topi (fun t1 et1 => ?_)
  refine eqi (y := nI (max y z)) (et1.trans (nmax (by omega) (by omega))) ?_
  refine lv_iadd hx hb dJ8_newLength_cabcc_6 ?_
  refine eqi (y := nI (x + (max y z))) (nI_add x (max y z)) ?_
  refine lv_istore_n (lv' := [(3, .int (nI (x + (max y z)))), (0, .int (nI x)), (1, .int (nI y)), (2, .int (nI z))]) hx hb dJ8_newLength_cabcc_7 rfl hl (by decide) rfl (fun ls hl => ?_)
  refine lv_iconst (v := 0) hx hb dJ8_newLength_cabcc_8 (by decide) ?_
  refine lv_iload_n hx hb dJ8_newLength_cabcc_9 rfl (lv_at hl 0 rfl) ?_
  refine lv_icmp_ge (tgt := 21) hx hb dJ8_newLength_cabcc_10 (by decide) (fun c2 => ?_) (fun c2 => ?_)
  · replace c2 : nI (x + (max y z)) ≤ nI 0 := c2
    rw [nleP (by omega) (by omega)] at c2
    exact False.elim (by omega)
  · replace c2 : ¬ nI (x + (max y z)) ≤ nI 0 := c2
    rw [nleP (by omega) (by omega)] at c2
    refine lv_iload_n hx hb dJ8_newLength_cabcc_13 rfl (lv_at hl 0 rfl) ?_
    refine lv_ldc (own := RJ8) (v := 2147483639) hx hb hX.1.2.2.2.1 (hX.1.2.2.2.2 _ wm_4_40) dJ8_newLength_cabcc_14 ?_
    refine lv_icmp_gt (tgt := 21) hx hb dJ8_newLength_cabcc_16 (by decide) (fun c3 => ?_) (fun c3 => ?_)
    · replace c3 : nI 2147483639 < nI (x + (max y z)) := c3
      rw [nltP (by omega) (by omega)] at c3
      exact False.elim (by omega)
    · replace c3 : ¬ nI 2147483639 < nI (x + (max y z)) := c3
      rw [nltP (by omega) (by omega)] at c3
      refine lv_iload_n hx hb dJ8_newLength_cabcc_19 rfl (lv_at hl 0 rfl) ?_
      rw [← hQ]
      exact end_i hX hB hA3 rfl rfl ⟨rfl, rfl⟩ (Nat.le_of_ble_eq_true rfl) (Nat.le_of_ble_eq_true rfl) dJ8_newLength_cabcc_20
set_option maxHeartbeats 4000000 in
set_option maxRecDepth 100000 in
theorem k_J5_newCapacity_0f7a4 (κ : Kt) (l : Launch) (w : va_W) (s_0 b_s n_s c_s : Nat) (ml : Int32) (f_s : Nat → Int32) (xm0 : Int32) (m0 : Nat) (hcn : c_s ≤ n_s) (hnb : n_s ≤ 1000) (hft : sb_Fit f_s) (hxm0 : xm0 = nI m0) (hm1 : n_s < m0) (hm2 : m0 ≤ 400) : CM κ l yJ5_newCapacity_0f7a4 cJ5_newCapacity_0f7a4 6 (some .int) 2 44 0 0 [.ref s_0, .int xm0] (bA κ b_s n_s f_s :: (s_0, .inr (1, [.ref b_s, .int 0, .int ml, .int (nI c_s)])) :: w) (fun o w' => o = some (.int (nI (n_s + max (m0 - n_s) (n_s + 2)))) ∧ w' = bA κ b_s n_s f_s :: (s_0, .inr (1, [.ref b_s, .int 0, .int ml, .int (nI c_s)])) :: w) := by
  subst hxm0
  refine CM_begin (plainFor_of_name pn_RJ5) (Nat.le_of_ble_eq_true rfl) ?_
  intro p e s m args below meth c A Q hX hnm hA3 hQ hB ls hl
  have hx := hX.1.1
  have hb := hX.1.2.1
  have hl : lv_has ls 6 [(0, .ref s_0), (1, .int (nI m0))] := hl
  refine lv_aload_n hx hb dJ5_newCapacity_0f7a4_0 rfl (lv_at hl 0 rfl) ?_
  refine gfU (k0 := 1) hX hB rfl rfl inJ4 0 (by decide) wm_4_8 rfl rfl dJ5_newCapacity_0f7a4_1 ?_
  refine alenB (k0 := 0) (v := nI (n_s)) hX hB rfl rfl dJ5_newCapacity_0f7a4_4 ?_
  refine lv_istore_n (lv' := [(2, .int (nI (n_s))), (0, .ref s_0), (1, .int (nI m0))]) hx hb dJ5_newCapacity_0f7a4_5 rfl hl (by decide) rfl (fun ls hl => ?_)
  refine lv_iload_n hx hb dJ5_newCapacity_0f7a4_6 rfl (lv_at hl 2 rfl) ?_
  refine lv_aload_n hx hb dJ5_newCapacity_0f7a4_7 rfl (lv_at hl 1 rfl) ?_
  refine gfU (k0 := 1) hX hB rfl rfl inJ4 1 (by decide) wm_4_9 rfl rfl dJ5_newCapacity_0f7a4_8 ?_
  refine lv_ishl hx hb dJ5_newCapacity_0f7a4_11 ?_
  refine eqi (y := nI m0) (shl0 _) ?_
  refine lv_istore_n (lv' := [(3, .int (nI m0)), (2, .int (nI (n_s))), (0, .ref s_0), (1, .int (nI m0))]) hx hb dJ5_newCapacity_0f7a4_12 rfl hl (by decide) rfl (fun ls hl => ?_)
  refine lv_iload_n hx hb dJ5_newCapacity_0f7a4_13 rfl (lv_at hl 0 rfl) ?_
  refine lv_iload_n hx hb dJ5_newCapacity_0f7a4_14 rfl (lv_at hl 1 rfl) ?_
  refine lv_isub hx hb dJ5_newCapacity_0f7a4_15 ?_
  refine eqi (y := nI (m0 - n_s)) (nI_sub (a := m0) (b := n_s) (by omega)) ?_
  refine lv_istore (lv' := [(4, .int (nI (m0 - n_s))), (3, .int (nI m0)), (2, .int (nI (n_s))), (0, .ref s_0), (1, .int (nI m0))]) hx hb dJ5_newCapacity_0f7a4_16 hl (by decide) rfl (fun ls hl => ?_)
  refine lv_iload_n hx hb dJ5_newCapacity_0f7a4_18 rfl (lv_at hl 2 rfl) ?_
  refine lv_iload hx hb dJ5_newCapacity_0f7a4_19 (lv_at hl 0 rfl) ?_
  refine lv_iload_n hx hb dJ5_newCapacity_0f7a4_21 rfl (lv_at hl 2 rfl) ?_
  refine lv_iconst (v := 2) hx hb dJ5_newCapacity_0f7a4_22 (by decide) ?_
  refine lv_aload_n hx hb dJ5_newCapacity_0f7a4_23 rfl (lv_at hl 3 rfl) ?_
  refine gfU (k0 := 1) hX hB rfl rfl inJ4 1 (by decide) wm_4_9 rfl rfl dJ5_newCapacity_0f7a4_24 ?_
  refine lv_ishl hx hb dJ5_newCapacity_0f7a4_27 ?_
  refine eqi (y := 2) (shl0 _) ?_
  refine lv_iadd hx hb dJ5_newCapacity_0f7a4_28 ?_
  refine eqi (y := nI (n_s + 2)) (nI_add n_s 2) ?_
  refine call_S (n := 3) (As := [.int (nI (n_s)), .int (nI (m0 - n_s)), .int (nI (n_s + 2))]) (rest := []) hX hB (k_J8_newLength_cabcc κ l (bA κ b_s n_s f_s :: (s_0, .inr (1, [.ref b_s, .int 0, .int ml, .int (nI c_s)])) :: w) (nI (n_s)) n_s (nI (m0 - n_s)) (m0 - n_s) (nI (n_s + 2)) (n_s + 2) rfl rfl rfl (by omega)) yk_J8_newLength_cabcc wm_4_36 wm_4_37 wm_1_21 wm_4_38 ⟨Nat.le_of_ble_eq_true rfl, Nat.le_of_ble_eq_true rfl⟩ ⟨Nat.le_of_ble_eq_true rfl, Nat.le_of_ble_eq_true rfl⟩ rfl hl.1 rfl (Nat.le_of_ble_eq_true rfl) dJ5_newCapacity_0f7a4_29 (fun o w' H locs hp hB => ?_)
  obtain ⟨rfl, hw9⟩ := hp
  replace hB : Bd κ A s (bA κ b_s n_s f_s :: (s_0, .inr (1, [.ref b_s, .int 0, .int ml, .int (nI c_s)])) :: w) H locs := by rw [hw9] at hB; exact hB
  refine W.eq (g2 := F0 m 32 ls [.int (nI (n_s + max (m0 - n_s) (n_s + 2)))]) rfl ?_
  refine lv_istore (lv' := [(5, .int (nI (n_s + max (m0 - n_s) (n_s + 2)))), (4, .int (nI (m0 - n_s))), (3, .int (nI m0)), (2, .int (nI (n_s))), (0, .ref s_0), (1, .int (nI m0))]) hx hb dJ5_newCapacity_0f7a4_32 hl (by decide) rfl (fun ls hl => ?_)
  refine lv_iload hx hb dJ5_newCapacity_0f7a4_34 (lv_at hl 0 rfl) ?_
  refine lv_ldc (own := RJ5) (v := 2147483647) hx hb hX.1.2.2.2.1 (hX.1.2.2.2.2 _ wm_4_44) dJ5_newCapacity_0f7a4_36 ?_
  refine lv_icmp_ne (tgt := 51) hx hb dJ5_newCapacity_0f7a4_38 (by decide) (fun c1 => ?_) (fun c1 => ?_)
  · replace c1 : ¬ nI (n_s + max (m0 - n_s) (n_s + 2)) = nI 2147483647 := c1
    rw [neqP (by omega) (by omega)] at c1
    refine lv_iload hx hb dJ5_newCapacity_0f7a4_51 (lv_at hl 0 rfl) ?_
    refine lv_aload_n hx hb dJ5_newCapacity_0f7a4_53 rfl (lv_at hl 4 rfl) ?_
    refine gfU (k0 := 1) hX hB rfl rfl inJ4 1 (by decide) wm_4_9 rfl rfl dJ5_newCapacity_0f7a4_54 ?_
    refine lv_ishr hx hb dJ5_newCapacity_0f7a4_57 ?_
    refine eqi (y := nI (n_s + max (m0 - n_s) (n_s + 2))) (shr0z _) ?_
    rw [← hQ]
    exact end_i hX hB hA3 rfl rfl ⟨rfl, rfl⟩ (Nat.le_of_ble_eq_true rfl) (Nat.le_of_ble_eq_true rfl) dJ5_newCapacity_0f7a4_58
  · replace c1 : nI (n_s + max (m0 - n_s) (n_s + 2)) = nI 2147483647 := c1
    rw [neqP (by omega) (by omega)] at c1
    exact False.elim (by omega)
set_option maxHeartbeats 4000000 in
set_option maxRecDepth 100000 in
theorem k_J7_copyOf_9075b (κ : Kt) (l : Launch) (w : va_W) (k_b b_b n_b : Nat) (f_b : Nat → Int32) (xm0 : Int32) (m0 : Nat) (h_b : w[k_b]? = some (bA κ b_b n_b f_b)) (hnb : n_b ≤ 1000) (hft : sb_Fit f_b) (hxm0 : xm0 = nI m0) (hne : m0 ≠ n_b) (hm2 : m0 ≤ 820) : CM κ l yJ7_copyOf_9075b cJ7_copyOf_9075b 3 (some (.array .byte)) 1 60 1 820 [.ref b_b, .int xm0] (w) (fun o w' => ∃ (q1 : Nat) (F : Nat → Int32), o = some (.ref q1) ∧ (sb_Fit F) ∧ w' = bA κ q1 m0 F :: w) := by
  subst hxm0
  refine CM_begin (plainFor_of_name pn_RJ7) (Nat.le_of_ble_eq_true rfl) ?_
  intro p e s m args below meth c A Q hX hnm hA3 hQ hB ls hl
  have hx := hX.1.1
  have hb := hX.1.2.1
  have hl : lv_has ls 3 [(0, .ref b_b), (1, .int (nI m0))] := hl
  refine lv_iload_n hx hb dJ7_copyOf_9075b_0 rfl (lv_at hl 1 rfl) ?_
  refine lv_aload_n hx hb dJ7_copyOf_9075b_1 rfl (lv_at hl 0 rfl) ?_
  refine alenB (k0 := k_b) (v := nI (n_b)) hX hB h_b rfl dJ7_copyOf_9075b_2 ?_
  refine lv_icmp_ne (tgt := 14) hx hb dJ7_copyOf_9075b_3 (by decide) (fun c1 => ?_) (fun c1 => ?_)
  · rw [neqP (a := m0) (b := n_b) (by omega) (by omega)] at c1
    refine lv_iload_n hx hb dJ7_copyOf_9075b_14 rfl (lv_at hl 1 rfl) ?_
    refine newA (t0 := 3) (ty := .byte) (N := m0) (mx := 820) (a0 := (m0, .inl (fun _ => 0))) hX hB rfl rfl (fun h => h) wm_2_236 (fun _ => rfl) (nI_pos (n := m0) (by omega)) (nI_clamp (n := m0) (by omega)) (by omega) (Nat.le_of_ble_eq_true rfl) (Nat.le_of_ble_eq_true rfl) (Nat.le_of_ble_eq_true rfl) dJ7_copyOf_9075b_15 (fun q2 H hB => ?_)
    refine lv_astore_n (lv' := [(2, .ref q2), (0, .ref b_b), (1, .int (nI m0))]) hx hb dJ7_copyOf_9075b_17 rfl hl (by decide) rfl (fun ls hl => ?_)
    refine lv_aload_n hx hb dJ7_copyOf_9075b_18 rfl (lv_at hl 1 rfl) ?_
    refine lv_iconst (v := 0) hx hb dJ7_copyOf_9075b_19 (by decide) ?_
    refine lv_aload_n hx hb dJ7_copyOf_9075b_20 rfl (lv_at hl 0 rfl) ?_
    refine lv_iconst (v := 0) hx hb dJ7_copyOf_9075b_21 (by decide) ?_
    refine lv_aload_n hx hb dJ7_copyOf_9075b_22 rfl (lv_at hl 1 rfl) ?_
    refine alenB (k0 := k_b + 1) (v := nI (n_b)) hX hB h_b rfl dJ7_copyOf_9075b_23 ?_
    refine lv_iload_n hx hb dJ7_copyOf_9075b_24 rfl (lv_at hl 2 rfl) ?_
    refine va_mmin hx hb (by rw [hX.1.2.2.1]; exact hl.1.symm) hX.1.2.2.2.1 (hX.1.2.2.2.2 _ wm_4_55) (hX.1.2.2.2.2 _ wm_1_217) (hX.1.2.2.2.2 _ wm_1_14) (hX.1.2.2.2.2 _ wm_1_218) (Nat.le_of_ble_eq_true rfl) (Nat.le_of_ble_eq_true rfl) (Nat.le_of_ble_eq_true rfl) (Nat.le_of_ble_eq_true rfl) dJ7_copyOf_9075b_25 ?_
    refine lv_topi (fun t3 et3 => ?_)
    refine eqi (y := nI (min n_b m0)) (et3.trans (nmin (by omega) (by omega))) ?_
    refine copyB (k0 := k_b + 1) (k1 := 0) (sp := 0) (dp := 0) (n := min n_b m0) hX hB hl.1 wm_4_56 wn_4_58 wm_4_57 wm_1_23 h_b rfl (by omega) (by omega) (by omega) (by omega) hft (Nat.le_of_ble_eq_true rfl) (Nat.le_of_ble_eq_true rfl) (w1 := bA κ q2 m0 (va_cpy f_b (fun _ => 0) 0 0 (min n_b m0)) :: w) rfl dJ7_copyOf_9075b_28 (fun H locs hB => ?_)
    refine lv_aload_n hx hb dJ7_copyOf_9075b_31 rfl (lv_at hl 0 rfl) ?_
    rw [← hQ]
    exact end_aA hX hB hA3 rfl (Or.inr ⟨_, rfl⟩) ⟨q2, (va_cpy f_b (fun _ => 0) 0 0 (min n_b m0)), rfl, (sb_fitC hft sb_fit0), rfl⟩ (Nat.le_of_ble_eq_true rfl) (Nat.le_of_ble_eq_true rfl) dJ7_copyOf_9075b_32
  · rw [neqP (a := m0) (b := n_b) (by omega) (by omega)] at c1
    exact False.elim (by omega)
set_option maxHeartbeats 4000000 in
set_option maxRecDepth 100000 in
theorem k_J5_ensureCapacityInternal_d00df (κ : Kt) (l : Launch) (w : va_W) (s_0 b_s n_s c_s : Nat) (ml : Int32) (f_s : Nat → Int32) (xm0 : Int32) (m0 : Nat) (hcn : c_s ≤ n_s) (hnb : n_s ≤ 1000) (hft : sb_Fit f_s) (hxm0 : xm0 = nI m0) (hm2 : m0 ≤ 400) : CM κ l yJ5_ensureCapacityInternal_d00df cJ5_ensureCapacityInternal_d00df 3 (none) 3 82 1 820 [.ref s_0, .int xm0] (bA κ b_s n_s f_s :: (s_0, .inr (1, [.ref b_s, .int 0, .int ml, .int (nI c_s)])) :: w) (fun o w' => ∃ (q1 : Nat) (n1 : Nat) (F : Nat → Int32), o = none ∧ (m0 ≤ n1 ∧ n_s ≤ n1 ∧ n1 ≤ 1000 ∧ (n1 = n_s ∨ n1 ≤ 2 * m0)) ∧ (sb_Fit F) ∧ w' = bA κ q1 n1 F :: (s_0, .inr (1, [.ref q1, .int 0, .int ml, .int (nI c_s)])) :: w) := by
  subst hxm0
  refine CM_begin (plainFor_of_name pn_RJ5) (Nat.le_of_ble_eq_true rfl) ?_
  intro p e s m args below meth c A Q hX hnm hA3 hQ hB ls hl
  have hx := hX.1.1
  have hb := hX.1.2.1
  have hl : lv_has ls 3 [(0, .ref s_0), (1, .int (nI m0))] := hl
  refine lv_aload_n hx hb dJ5_ensureCapacityInternal_d00df_0 rfl (lv_at hl 0 rfl) ?_
  refine gfU (k0 := 1) hX hB rfl rfl inJ4 0 (by decide) wm_4_8 rfl rfl dJ5_ensureCapacityInternal_d00df_1 ?_
  refine alenB (k0 := 0) (v := nI (n_s)) hX hB rfl rfl dJ5_ensureCapacityInternal_d00df_4 ?_
  refine lv_aload_n hx hb dJ5_ensureCapacityInternal_d00df_5 rfl (lv_at hl 0 rfl) ?_
  refine gfU (k0 := 1) hX hB rfl rfl inJ4 1 (by decide) wm_4_9 rfl rfl dJ5_ensureCapacityInternal_d00df_6 ?_
  refine lv_ishr hx hb dJ5_ensureCapacityInternal_d00df_9 ?_
  refine eqi (y := nI (n_s)) (shr0z _) ?_
  refine lv_istore_n (lv' := [(2, .int (nI (n_s))), (0, .ref s_0), (1, .int (nI m0))]) hx hb dJ5_ensureCapacityInternal_d00df_10 rfl hl (by decide) rfl (fun ls hl => ?_)
  refine lv_iload_n hx hb dJ5_ensureCapacityInternal_d00df_11 rfl (lv_at hl 2 rfl) ?_
  refine lv_iload_n hx hb dJ5_ensureCapacityInternal_d00df_12 rfl (lv_at hl 0 rfl) ?_
  refine lv_isub hx hb dJ5_ensureCapacityInternal_d00df_13 ?_
  refine lv_if_le (tgt := 38) hx hb dJ5_ensureCapacityInternal_d00df_14 (by decide) (fun c1 => ?_) (fun c1 => ?_)
  · rw [subleP (by omega) (by omega)] at c1
    rw [← hQ]
    exact end_v hX hB hA3 rfl ⟨b_s, n_s, f_s, rfl, (by omega), hft, rfl⟩ (Nat.le_of_ble_eq_true rfl) (Nat.le_of_ble_eq_true rfl) dJ5_ensureCapacityInternal_d00df_38
  · rw [subleP (by omega) (by omega)] at c1
    refine lv_aload_n hx hb dJ5_ensureCapacityInternal_d00df_17 rfl (lv_at hl 1 rfl) ?_
    refine lv_aload_n hx hb dJ5_ensureCapacityInternal_d00df_18 rfl (lv_at hl 1 rfl) ?_
    refine gfU (k0 := 1) hX hB rfl rfl inJ4 0 (by decide) wm_4_8 rfl rfl dJ5_ensureCapacityInternal_d00df_19 ?_
    refine lv_aload_n hx hb dJ5_ensureCapacityInternal_d00df_22 rfl (lv_at hl 1 rfl) ?_
    refine lv_iload_n hx hb dJ5_ensureCapacityInternal_d00df_23 rfl (lv_at hl 2 rfl) ?_
    refine call_U (n := 1) (k0 := 1) (As := [.int (nI m0)]) (rest := [.ref b_s, .ref s_0]) hX hB (k_J5_newCapacity_0f7a4 κ l (w) s_0 b_s n_s c_s ml f_s (nI m0) m0 (by omega) (by omega) hft rfl (by omega) (by omega)) yk_J5_newCapacity_0f7a4 wm_4_32 wm_7_187 wm_4_34 (Or.inr wn_4_33) wm_1_17 wm_4_35 ⟨Nat.le_of_ble_eq_true rfl, Nat.le_of_ble_eq_true rfl⟩ ⟨Nat.le_of_ble_eq_true rfl, Nat.le_of_ble_eq_true rfl⟩ rfl rfl rfl rfl hl.1 rfl (Nat.le_of_ble_eq_true rfl) dJ5_ensureCapacityInternal_d00df_24 (fun o w' H locs hp hB => ?_)
    obtain ⟨rfl, hw9⟩ := hp
    replace hB : Bd κ A s (bA κ b_s n_s f_s :: (s_0, .inr (1, [.ref b_s, .int 0, .int ml, .int (nI c_s)])) :: w) H locs := by rw [hw9] at hB; exact hB
    refine W.eq (g2 := F0 m 27 ls [.int (nI (n_s + max (m0 - n_s) (n_s + 2))), .ref b_s, .ref s_0]) rfl ?_
    refine lv_aload_n hx hb dJ5_ensureCapacityInternal_d00df_27 rfl (lv_at hl 1 rfl) ?_
    refine gfU (k0 := 1) hX hB rfl rfl inJ4 1 (by decide) wm_4_9 rfl rfl dJ5_ensureCapacityInternal_d00df_28 ?_
    refine lv_ishl hx hb dJ5_ensureCapacityInternal_d00df_31 ?_
    refine eqi (y := nI (n_s + max (m0 - n_s) (n_s + 2))) (shl0 _) ?_
    refine call_S (n := 2) (As := [.ref b_s, .int (nI (n_s + max (m0 - n_s) (n_s + 2)))]) (rest := [.ref s_0]) hX hB (k_J7_copyOf_9075b κ l (bA κ b_s n_s f_s :: (s_0, .inr (1, [.ref b_s, .int 0, .int ml, .int (nI c_s)])) :: w) 0 b_s n_s f_s (nI (n_s + max (m0 - n_s) (n_s + 2))) (n_s + max (m0 - n_s) (n_s + 2)) rfl (by omega) hft rfl (by omega) (by omega)) yk_J7_copyOf_9075b wm_4_45 wm_4_46 wm_1_22 wm_4_47 ⟨Nat.le_of_ble_eq_true rfl, Nat.le_of_ble_eq_true rfl⟩ ⟨Nat.le_of_ble_eq_true rfl, Nat.le_of_ble_eq_true rfl⟩ rfl hl.1 rfl (Nat.le_of_ble_eq_true rfl) dJ5_ensureCapacityInternal_d00df_32 (fun o w' H locs hp hB => ?_)
    obtain ⟨q2, F3, rfl, hf4, hw9⟩ := hp
    replace hB : Bd κ A s (bA κ q2 (n_s + max (m0 - n_s) (n_s + 2)) F3 :: bA κ b_s n_s f_s :: (s_0, .inr (1, [.ref b_s, .int 0, .int ml, .int (nI c_s)])) :: w) H locs := by rw [hw9] at hB; exact hB
    refine W.eq (g2 := F0 m 35 ls [.ref q2, .ref s_0]) rfl ?_
    refine pfU (ty := .array .byte) (k0 := 2) hX hB rfl rfl inJ4 tyJ4_ok nmJ4 0 (by decide) wm_4_8 rfl rfl rfl rfl rfl (Nat.le_of_ble_eq_true rfl) (w1 := bA κ q2 (n_s + max (m0 - n_s) (n_s + 2)) F3 :: bA κ b_s n_s f_s :: (s_0, .inr (1, [.ref q2, .int 0, .int ml, .int (nI c_s)])) :: w) rfl dJ5_ensureCapacityInternal_d00df_35 (fun H locs hB => ?_)
    replace hB : Bd κ A s (bA κ q2 (n_s + max (m0 - n_s) (n_s + 2)) F3 :: (s_0, .inr (1, [.ref q2, .int 0, .int ml, .int (nI c_s)])) :: w) H locs := Bd_del 1 hB
    rw [← hQ]
    exact end_v hX hB hA3 rfl ⟨q2, (n_s + max (m0 - n_s) (n_s + 2)), F3, rfl, (by omega), hf4, rfl⟩ (Nat.le_of_ble_eq_true rfl) (Nat.le_of_ble_eq_true rfl) dJ5_ensureCapacityInternal_d00df_38
set_option maxHeartbeats 4000000 in
set_option maxRecDepth 100000 in
theorem k_J5_isLatin1_aae02 (κ : Kt) (l : Launch) (w : va_W) (k_s s_0 b_s c_s : Nat) (ml : Int32) (h_s : w[k_s]? = some (s_0, .inr (1, [.ref b_s, .int 0, .int ml, .int (nI c_s)]))) : CM κ l yJ5_isLatin1_aae02 cJ5_isLatin1_aae02 1 (some .boolean) 0 0 0 0 [.ref s_0] (w) (fun o w' => o = some (.int 1) ∧ w' = w) := by
  refine CM_begin (plainFor_of_name pn_RJ5) (Nat.le_of_ble_eq_true rfl) ?_
  intro p e s m args below meth c A Q hX hnm hA3 hQ hB ls hl
  have hx := hX.1.1
  have hb := hX.1.2.1
  have hl : lv_has ls 1 [(0, .ref s_0)] := hl
  refine gsv hX hB hX.2.1.2.2.1.1.2.2.1 wm_3_239 dJ5_isLatin1_aae02_0 ?_
  refine lv_if_eq (tgt := 17) hx hb dJ5_isLatin1_aae02_3 (by decide) (fun c1 => False.elim (by revert c1; decide)) (fun _ => ?_)
  refine lv_aload_n hx hb dJ5_isLatin1_aae02_6 rfl (lv_at hl 0 rfl) ?_
  refine gfU (k0 := k_s) hX hB h_s rfl inJ4 1 (by decide) wm_4_9 rfl rfl dJ5_isLatin1_aae02_7 ?_
  refine lv_if_ne (tgt := 17) hx hb dJ5_isLatin1_aae02_10 (by decide) (fun c2 => False.elim (by revert c2; decide)) (fun _ => ?_)
  refine lv_iconst (v := 1) hx hb dJ5_isLatin1_aae02_13 (by decide) ?_
  refine lv_goto (tgt := 18) hx hb dJ5_isLatin1_aae02_14 (by decide) ?_
  rw [← hQ]
  exact end_i hX hB hA3 rfl rfl ⟨rfl, rfl⟩ (Nat.le_of_ble_eq_true rfl) (Nat.le_of_ble_eq_true rfl) dJ5_isLatin1_aae02_18
set_option maxHeartbeats 4000000 in
set_option maxRecDepth 100000 in
theorem k_J5_length_8abf5 (κ : Kt) (l : Launch) (w : va_W) (k_s s_0 b_s c_s : Nat) (ml : Int32) (h_s : w[k_s]? = some (s_0, .inr (1, [.ref b_s, .int 0, .int ml, .int (nI c_s)]))) : CM κ l yJ5_length_8abf5 cJ5_length_8abf5 1 (some .int) 0 0 0 0 [.ref s_0] (w) (fun o w' => o = some (.int (nI c_s)) ∧ w' = w) := by
  refine CM_begin (plainFor_of_name pn_RJ5) (Nat.le_of_ble_eq_true rfl) ?_
  intro p e s m args below meth c A Q hX hnm hA3 hQ hB ls hl
  have hx := hX.1.1
  have hb := hX.1.2.1
  have hl : lv_has ls 1 [(0, .ref s_0)] := hl
  refine lv_aload_n hx hb dJ5_length_8abf5_0 rfl (lv_at hl 0 rfl) ?_
  refine gfU (k0 := k_s) hX hB h_s rfl inJ4 3 (by decide) wm_4_11 rfl rfl dJ5_length_8abf5_1 ?_
  rw [← hQ]
  exact end_i hX hB hA3 rfl rfl ⟨rfl, rfl⟩ (Nat.le_of_ble_eq_true rfl) (Nat.le_of_ble_eq_true rfl) dJ5_length_8abf5_4
set_option maxHeartbeats 4000000 in
set_option maxRecDepth 100000 in
theorem k_J4_length_8abf5 (κ : Kt) (l : Launch) (w : va_W) (k_s s_0 b_s c_s : Nat) (ml : Int32) (h_s : w[k_s]? = some (s_0, .inr (1, [.ref b_s, .int 0, .int ml, .int (nI c_s)]))) : CM κ l yJ4_length_8abf5 cJ4_length_8abf5 1 (some .int) 1 20 0 0 [.ref s_0] (w) (fun o w' => o = some (.int (nI c_s)) ∧ w' = w) := by
  refine CM_begin (plainFor_of_name pn_RJ4) (Nat.le_of_ble_eq_true rfl) ?_
  intro p e s m args below meth c A Q hX hnm hA3 hQ hB ls hl
  have hx := hX.1.1
  have hb := hX.1.2.1
  have hl : lv_has ls 1 [(0, .ref s_0)] := hl
  refine lv_aload_n hx hb dJ4_length_8abf5_0 rfl (lv_at hl 0 rfl) ?_
  refine call_SU (n := 0) (k0 := k_s) (As := []) (rest := []) hX hB (k_J5_length_8abf5 κ l (w) k_s s_0 b_s c_s ml h_s) ⟨by decide, by decide +kernel⟩ wm_4_170 wm_4_166 wm_4_20 wm_4_165 wm_1_17 wm_4_171 ⟨Nat.le_of_ble_eq_true rfl, Nat.le_of_ble_eq_true rfl⟩ ⟨Nat.le_of_ble_eq_true rfl, Nat.le_of_ble_eq_true rfl⟩ h_s rfl rfl rfl hl.1 rfl (Nat.le_of_ble_eq_true rfl) dJ4_length_8abf5_1 (fun o w' H locs hp hB => ?_)
  obtain ⟨rfl, hw9⟩ := hp
  replace hB : Bd κ A s (w) H locs := by rw [hw9] at hB; exact hB
  refine W.eq (g2 := F0 m 4 ls [.int (nI c_s)]) rfl ?_
  rw [← hQ]
  exact end_i hX hB hA3 rfl rfl ⟨rfl, rfl⟩ (Nat.le_of_ble_eq_true rfl) (Nat.le_of_ble_eq_true rfl) dJ4_length_8abf5_4
set_option maxHeartbeats 4000000 in
set_option maxRecDepth 100000 in
theorem k_J5_getValue_6d5f1 (κ : Kt) (l : Launch) (w : va_W) (k_s s_0 b_s c_s : Nat) (ml : Int32) (h_s : w[k_s]? = some (s_0, .inr (1, [.ref b_s, .int 0, .int ml, .int (nI c_s)]))) : CM κ l yJ5_getValue_6d5f1 cJ5_getValue_6d5f1 1 (some (.array .byte)) 0 0 0 0 [.ref s_0] (w) (fun o w' => o = some (.ref b_s) ∧ w' = w) := by
  refine CM_begin (plainFor_of_name pn_RJ5) (Nat.le_of_ble_eq_true rfl) ?_
  intro p e s m args below meth c A Q hX hnm hA3 hQ hB ls hl
  have hx := hX.1.1
  have hb := hX.1.2.1
  have hl : lv_has ls 1 [(0, .ref s_0)] := hl
  refine lv_aload_n hx hb dJ5_getValue_6d5f1_0 rfl (lv_at hl 0 rfl) ?_
  refine gfU (k0 := k_s) hX hB h_s rfl inJ4 0 (by decide) wm_4_8 rfl rfl dJ5_getValue_6d5f1_1 ?_
  rw [← hQ]
  exact end_aA hX hB hA3 rfl (Or.inr ⟨_, rfl⟩) ⟨rfl, rfl⟩ (Nat.le_of_ble_eq_true rfl) (Nat.le_of_ble_eq_true rfl) dJ5_getValue_6d5f1_4
set_option maxHeartbeats 4000000 in
set_option maxRecDepth 100000 in
theorem k_J1_canEncode_fc78d (κ : Kt) (l : Launch) (w : va_W) (xx : Int32) (x : Nat) (hxx : xx = nI x) (hx5 : x ≤ 255) : CM κ l yJ1_canEncode_fc78d cJ1_canEncode_fc78d 1 (some .boolean) 0 0 0 0 [.int xx] (w) (fun o w' => o = some (.int 1) ∧ w' = w) := by
  subst hxx
  refine CM_begin (plainFor_of_name pn_RJ1) (Nat.le_of_ble_eq_true rfl) ?_
  intro p e s m args below meth c A Q hX hnm hA3 hQ hB ls hl
  have hx := hX.1.1
  have hb := hX.1.2.1
  have hl : lv_has ls 1 [(0, .int (nI x))] := hl
  refine lv_iload_n hx hb dJ1_canEncode_fc78d_0 rfl (lv_at hl 0 rfl) ?_
  refine lv_sipush (v := 255) hx hb dJ1_canEncode_fc78d_1 (by decide) ?_
  refine lv_icmp_gt (tgt := 11) hx hb dJ1_canEncode_fc78d_4 (by decide) (fun c1 => ?_) (fun c1 => ?_)
  · replace c1 : nI 255 < nI x := c1
    rw [nltP (by omega) (by omega)] at c1
    exact False.elim (by omega)
  · replace c1 : ¬ nI 255 < nI x := c1
    rw [nltP (by omega) (by omega)] at c1
    refine lv_iconst (v := 1) hx hb dJ1_canEncode_fc78d_7 (by decide) ?_
    refine lv_goto (tgt := 12) hx hb dJ1_canEncode_fc78d_8 (by decide) ?_
    rw [← hQ]
    exact end_i hX hB hA3 rfl rfl ⟨rfl, rfl⟩ (Nat.le_of_ble_eq_true rfl) (Nat.le_of_ble_eq_true rfl) dJ1_canEncode_fc78d_12
set_option maxHeartbeats 4000000 in
set_option maxRecDepth 100000 in
theorem k_J5_append_3fe6f (κ : Kt) (l : Launch) (w : va_W) (s_0 b_s n_s c_s : Nat) (ml : Int32) (f_s : Nat → Int32) (xx : Int32) (x : Nat) (hcn : c_s ≤ n_s) (hnb : n_s ≤ 1000) (hft : sb_Fit f_s) (hxx : xx = nI x) (hc3 : c_s ≤ 300) (hn2 : n_s ≤ 2 * c_s + 16) (hx5 : x ≤ 255) : CM κ l yJ5_append_3fe6f cJ5_append_3fe6f 2 (some (.object "java/lang/AbstractStringBuilder")) 4 104 1 820 [.ref s_0, .int xx] (bA κ b_s n_s f_s :: (s_0, .inr (1, [.ref b_s, .int 0, .int ml, .int (nI c_s)])) :: w) (fun o w' => ∃ (q1 : Nat) (n1 : Nat) (F : Nat → Int32), o = some (.ref s_0) ∧ (c_s + 1 ≤ n1 ∧ n1 ≤ 1000 ∧ n1 ≤ 2 * (c_s + 1) + 16) ∧ (sb_Fit F) ∧ w' = bA κ q1 n1 F :: (s_0, .inr (1, [.ref q1, .int 0, .int ml, .int (nI (c_s + 1))])) :: w) := by
  subst hxx
  refine CM_begin (plainFor_of_name pn_RJ5) (Nat.le_of_ble_eq_true rfl) ?_
  intro p e s m args below meth c A Q hX hnm hA3 hQ hB ls hl
  have hx := hX.1.1
  have hb := hX.1.2.1
  have hl : lv_has ls 2 [(0, .ref s_0), (1, .int (nI x))] := hl
  refine lv_aload_n hx hb dJ5_append_3fe6f_0 rfl (lv_at hl 0 rfl) ?_
  refine lv_aload_n hx hb dJ5_append_3fe6f_1 rfl (lv_at hl 0 rfl) ?_
  refine gfU (k0 := 1) hX hB rfl rfl inJ4 3 (by decide) wm_4_11 rfl rfl dJ5_append_3fe6f_2 ?_
  refine lv_iconst (v := 1) hx hb dJ5_append_3fe6f_5 (by decide) ?_
  refine lv_iadd hx hb dJ5_append_3fe6f_6 ?_
  refine eqi (y := nI (c_s + 1)) (nI_add c_s 1) ?_
  refine call_U (n := 1) (k0 := 1) (As := [.int (nI (c_s + 1))]) (rest := []) hX hB (k_J5_ensureCapacityInternal_d00df κ l (w) s_0 b_s n_s c_s ml f_s (nI (c_s + 1)) (c_s + 1) (by omega) (by omega) hft rfl (by omega)) yk_J5_ensureCapacityInternal_d00df wm_4_28 wm_7_186 wm_4_30 (Or.inr wn_4_29) wm_1_17 wm_4_31 ⟨Nat.le_of_ble_eq_true rfl, Nat.le_of_ble_eq_true rfl⟩ ⟨Nat.le_of_ble_eq_true rfl, Nat.le_of_ble_eq_true rfl⟩ rfl rfl rfl rfl hl.1 rfl (Nat.le_of_ble_eq_true rfl) dJ5_append_3fe6f_7 (fun o w' H locs hp hB => ?_)
  obtain ⟨q1, n2, F3, rfl, hf4, hf5, hw9⟩ := hp
  replace hB : Bd κ A s (bA κ q1 n2 F3 :: (s_0, .inr (1, [.ref q1, .int 0, .int ml, .int (nI c_s)])) :: w) H locs := by rw [hw9] at hB; exact hB
  refine W.eq (g2 := F0 m 10 ls []) rfl ?_
  refine lv_aload_n hx hb dJ5_append_3fe6f_10 rfl (lv_at hl 0 rfl) ?_
  refine call_U (n := 0) (k0 := 1) (As := []) (rest := []) hX hB (k_J5_isLatin1_aae02 κ l (bA κ q1 n2 F3 :: (s_0, .inr (1, [.ref q1, .int 0, .int ml, .int (nI c_s)])) :: w) 1 s_0 q1 c_s ml rfl) yk_J5_isLatin1_aae02 wm_4_59 wm_4_61 wm_4_60 (Or.inl wm_4_62) wm_1_17 wm_4_63 ⟨Nat.le_of_ble_eq_true rfl, Nat.le_of_ble_eq_true rfl⟩ ⟨Nat.le_of_ble_eq_true rfl, Nat.le_of_ble_eq_true rfl⟩ rfl rfl rfl rfl hl.1 rfl (Nat.le_of_ble_eq_true rfl) dJ5_append_3fe6f_11 (fun o w' H locs hp hB => ?_)
  obtain ⟨rfl, hw9⟩ := hp
  replace hB : Bd κ A s (bA κ q1 n2 F3 :: (s_0, .inr (1, [.ref q1, .int 0, .int ml, .int (nI c_s)])) :: w) H locs := by rw [hw9] at hB; exact hB
  refine W.eq (g2 := F0 m 14 ls [.int 1]) rfl ?_
  refine lv_if_eq (tgt := 45) hx hb dJ5_append_3fe6f_14 (by decide) (fun c6 => False.elim (by revert c6; decide)) (fun _ => ?_)
  refine lv_iload_n hx hb dJ5_append_3fe6f_17 rfl (lv_at hl 1 rfl) ?_
  refine call_S (n := 1) (As := [.int (nI x)]) (rest := []) hX hB (k_J1_canEncode_fc78d κ l (bA κ q1 n2 F3 :: (s_0, .inr (1, [.ref q1, .int 0, .int ml, .int (nI c_s)])) :: w) (nI x) x rfl (by omega)) yk_J1_canEncode_fc78d wm_4_64 wm_4_65 wm_1_24 wm_4_66 ⟨Nat.le_of_ble_eq_true rfl, Nat.le_of_ble_eq_true rfl⟩ ⟨Nat.le_of_ble_eq_true rfl, Nat.le_of_ble_eq_true rfl⟩ rfl hl.1 rfl (Nat.le_of_ble_eq_true rfl) dJ5_append_3fe6f_18 (fun o w' H locs hp hB => ?_)
  obtain ⟨rfl, hw9⟩ := hp
  replace hB : Bd κ A s (bA κ q1 n2 F3 :: (s_0, .inr (1, [.ref q1, .int 0, .int ml, .int (nI c_s)])) :: w) H locs := by rw [hw9] at hB; exact hB
  refine W.eq (g2 := F0 m 21 ls [.int 1]) rfl ?_
  refine lv_if_eq (tgt := 45) hx hb dJ5_append_3fe6f_21 (by decide) (fun c7 => False.elim (by revert c7; decide)) (fun _ => ?_)
  refine lv_aload_n hx hb dJ5_append_3fe6f_24 rfl (lv_at hl 0 rfl) ?_
  refine gfU (k0 := 1) hX hB rfl rfl inJ4 0 (by decide) wm_4_8 rfl rfl dJ5_append_3fe6f_25 ?_
  refine lv_aload_n hx hb dJ5_append_3fe6f_28 rfl (lv_at hl 0 rfl) ?_
  refine lv_dup hx hb dJ5_append_3fe6f_29 rfl ?_
  refine gfU (k0 := 1) hX hB rfl rfl inJ4 3 (by decide) wm_4_11 rfl rfl dJ5_append_3fe6f_30 ?_
  refine lv_dup_x1 hx hb dJ5_append_3fe6f_33 rfl rfl ?_
  refine lv_iconst (v := 1) hx hb dJ5_append_3fe6f_34 (by decide) ?_
  refine lv_iadd hx hb dJ5_append_3fe6f_35 ?_
  refine eqi (y := nI (c_s + 1)) (nI_add c_s 1) ?_
  refine pfU (ty := .int) (k0 := 1) hX hB rfl rfl inJ4 tyJ4_ok nmJ4 3 (by decide) wm_4_11 rfl rfl rfl rfl rfl (Nat.le_of_ble_eq_true rfl) (w1 := bA κ q1 n2 F3 :: (s_0, .inr (1, [.ref q1, .int 0, .int ml, .int (nI (c_s + 1))])) :: w) rfl dJ5_append_3fe6f_36 (fun H locs hB => ?_)
  refine lv_iload_n hx hb dJ5_append_3fe6f_39 rfl (lv_at hl 1 rfl) ?_
  refine lv_i2b (v := (nI x).toInt8.toInt32) hx hb dJ5_append_3fe6f_40 rfl ?_
  refine bastN (k0 := 0) (k := c_s) hX hB rfl (by omega) (by omega) (w1 := bA κ q1 n2 (upd F3 c_s (vp_nar .byte ((nI x).toInt8.toInt32))) :: (s_0, .inr (1, [.ref q1, .int 0, .int ml, .int (nI (c_s + 1))])) :: w) rfl dJ5_append_3fe6f_41 (fun H locs hB => ?_)
  refine lv_goto (tgt := 75) hx hb dJ5_append_3fe6f_42 (by decide) ?_
  refine lv_aload_n hx hb dJ5_append_3fe6f_75 rfl (lv_at hl 0 rfl) ?_
  rw [← hQ]
  exact end_a hX hB hA3 rfl (Or.inr ⟨_, rfl⟩) ⟨q1, n2, (upd F3 c_s (vp_nar .byte ((nI x).toInt8.toInt32))), rfl, (by omega), (sb_fitU hf5 (pk_fb _)), rfl⟩ (Nat.le_of_ble_eq_true rfl) (Nat.le_of_ble_eq_true rfl) dJ5_append_3fe6f_76
set_option maxHeartbeats 4000000 in
set_option maxRecDepth 100000 in
theorem k_J4_append_cf468 (κ : Kt) (l : Launch) (w : va_W) (s_0 b_s n_s c_s : Nat) (ml : Int32) (f_s : Nat → Int32) (xx : Int32) (x : Nat) (hcn : c_s ≤ n_s) (hnb : n_s ≤ 1000) (hft : sb_Fit f_s) (hxx : xx = nI x) (hc3 : c_s ≤ 300) (hn2 : n_s ≤ 2 * c_s + 16) (hx5 : x ≤ 255) : CM κ l yJ4_append_cf468 cJ4_append_cf468 2 (some (.object "java/lang/StringBuilder")) 5 125 1 820 [.ref s_0, .int xx] (bA κ b_s n_s f_s :: (s_0, .inr (1, [.ref b_s, .int 0, .int ml, .int (nI c_s)])) :: w) (fun o w' => ∃ (q1 : Nat) (n1 : Nat) (F : Nat → Int32), o = some (.ref s_0) ∧ (c_s + 1 ≤ n1 ∧ n1 ≤ 1000 ∧ n1 ≤ 2 * (c_s + 1) + 16) ∧ (sb_Fit F) ∧ w' = bA κ q1 n1 F :: (s_0, .inr (1, [.ref q1, .int 0, .int ml, .int (nI (c_s + 1))])) :: w) := by
  subst hxx
  refine CM_begin (plainFor_of_name pn_RJ4) (Nat.le_of_ble_eq_true rfl) ?_
  intro p e s m args below meth c A Q hX hnm hA3 hQ hB ls hl
  have hx := hX.1.1
  have hb := hX.1.2.1
  have hl : lv_has ls 2 [(0, .ref s_0), (1, .int (nI x))] := hl
  refine lv_aload_n hx hb dJ4_append_cf468_0 rfl (lv_at hl 0 rfl) ?_
  refine lv_iload_n hx hb dJ4_append_cf468_1 rfl (lv_at hl 1 rfl) ?_
  refine call_SU (n := 1) (k0 := 1) (As := [.int (nI x)]) (rest := []) hX hB (k_J5_append_3fe6f κ l (w) s_0 b_s n_s c_s ml f_s (nI x) x (by omega) (by omega) hft rfl (by omega) (by omega) (by omega)) ⟨by decide, by decide +kernel⟩ wm_4_25 wm_7_185 wm_4_20 wm_4_26 wm_1_17 wm_4_27 ⟨Nat.le_of_ble_eq_true rfl, Nat.le_of_ble_eq_true rfl⟩ ⟨Nat.le_of_ble_eq_true rfl, Nat.le_of_ble_eq_true rfl⟩ rfl rfl rfl rfl hl.1 rfl (Nat.le_of_ble_eq_true rfl) dJ4_append_cf468_2 (fun o w' H locs hp hB => ?_)
  obtain ⟨q1, n2, F3, rfl, hf4, hf5, hw9⟩ := hp
  replace hB : Bd κ A s (bA κ q1 n2 F3 :: (s_0, .inr (1, [.ref q1, .int 0, .int ml, .int (nI (c_s + 1))])) :: w) H locs := by rw [hw9] at hB; exact hB
  refine W.eq (g2 := F0 m 5 ls [.ref s_0]) rfl ?_
  refine lv_pop hx hb dJ4_append_cf468_5 rfl ?_
  refine lv_aload_n hx hb dJ4_append_cf468_6 rfl (lv_at hl 0 rfl) ?_
  rw [← hQ]
  exact end_a hX hB hA3 rfl (Or.inr ⟨_, rfl⟩) ⟨q1, n2, F3, rfl, (by omega), hf5, rfl⟩ (Nat.le_of_ble_eq_true rfl) (Nat.le_of_ble_eq_true rfl) dJ4_append_cf468_7
end
section
-- 82.jint
/-- how many characters an int takes -/
def DSz (x : Int32) (s : Nat) : Prop := (x < 0 → 2 ≤ s ∧ s ≤ 11 ∧ x.toInt.natAbs < 10 ^ (s - 1)) ∧ (¬ x < 0 → 1 ≤ s ∧ s ≤ 10 ∧ x.toInt.natAbs < 10 ^ s)
theorem z32 : (0 : Int32).toInt = 0 := rfl
theorem pw_le {i : Nat} (h : i ≤ 9) : (10 : Nat) ^ i ≤ 1000000000 := Nat.pow_le_pow_right (by decide) h
theorem ds_p {i : Nat} {p : Int32} (h1 : 1 ≤ i) (h : i ≤ 9 → p.toInt = -((10 ^ i : Nat) : Int)) : i + 1 ≤ 9 → (10 * p).toInt = -((10 ^ (i + 1) : Nat) : Int) := by
  intro hi
  have e := h (by omega)
  have hb := pw_le (i := i + 1) hi
  rw [Nat.pow_succ] at hb ⊢
  rw [Int32.toInt_mul, e, show (10 : Int32).toInt = 10 from rfl, Int.bmod_eq_of_le (by omega) (by omega)]
  omega
theorem ds_1 {x p : Int32} {i : Nat} (hx : x < 0) (hi1 : 1 ≤ i) (hi : i < 10) (h : i ≤ 9 → p.toInt = -((10 ^ i : Nat) : Int)) (c : ¬ x ≤ p) : DSz x (i + 1) := by
  have e := h (by omega)
  rw [i32_le] at c
  have hx' := hx
  rw [i32_lt, z32] at hx'
  refine ⟨fun _ => ⟨by omega, by omega, ?_⟩, fun z => absurd hx z⟩
  rw [show i + 1 - 1 = i by omega]
  omega
theorem neg32 {x : Int32} (hx : ¬ x < 0) : (-x).toInt = -x.toInt := by
  rw [i32_lt, z32] at hx
  have h1 := Int32.toInt_lt x
  rw [Int32.toInt_neg]
  exact Int.bmod_eq_of_le (by omega) (by omega)
theorem ds_2 {x p : Int32} {i : Nat} (hx : ¬ x < 0) (hi1 : 1 ≤ i) (hi : i < 10) (h : i ≤ 9 → p.toInt = -((10 ^ i : Nat) : Int)) (c : ¬ -x ≤ p) : DSz x (i + 0) := by
  have e := h (by omega)
  rw [i32_le, neg32 hx] at c
  have hx' := hx
  rw [i32_lt, z32] at hx'
  refine ⟨fun z => absurd z hx, fun _ => ⟨by omega, by omega, ?_⟩⟩
  rw [Nat.add_zero]
  omega
theorem ds_3 {x : Int32} (hx : x < 0) : DSz x 11 := by
  have h1 := Int32.le_toInt x
  have h2 := Int32.toInt_lt x
  have h3 : (2 : Nat) ^ 31 < 10 ^ (11 - 1) := by decide
  exact ⟨fun _ => ⟨by omega, by omega, by omega⟩, fun z => absurd hx z⟩
theorem ds_4 {x : Int32} (hx : ¬ x < 0) : DSz x 10 := by
  have h1 := Int32.le_toInt x
  have h2 := Int32.toInt_lt x
  have h3 : (2 : Nat) ^ 31 < 10 ^ 10 := by decide
  exact ⟨fun z => absurd z hx, fun _ => ⟨by omega, by omega, by omega⟩⟩
/-- what is left to write: y not above 0, k places for it, d more -/
def GCi (y : Int32) (k : Nat) : Prop := y.toInt ≤ 0 ∧ y.toInt.natAbs < 10 ^ k ∧ 1 ≤ k
theorem gc_0 {x : Int32} {s : Nat} (h : DSz x s) (hx : x < 0) : GCi x (s - 1) := by
  have h2 := h.1 hx
  rw [i32_lt, z32] at hx
  exact ⟨by omega, h2.2.2, by omega⟩
theorem gc_1 {x : Int32} {s : Nat} (h : DSz x s) (hx : ¬ x < 0) : GCi (-x) s := by
  have h2 := h.2 hx
  have e := neg32 hx
  have hx' := hx
  rw [i32_lt, z32] at hx'
  refine ⟨by omega, by rw [e]; omega, by omega⟩
theorem gc_k3 {y : Int32} {k : Nat} (h : GCi y k) (c : ¬ -100 < y) : 3 ≤ k ∧ y.toInt ≤ -100 := by
  rw [i32_lt, show (-100 : Int32).toInt = -100 from rfl] at c
  refine ⟨Nat.not_lt.mp fun z => ?_, by omega⟩
  have h1 : (10 : Nat) ^ k ≤ 10 ^ 2 := Nat.pow_le_pow_right (by decide) (by omega)
  have := h.2.1
  omega
theorem gc_div {y : Int32} {k : Nat} (h : GCi y k) : (y / 100).toInt = -((y.toInt.natAbs / 100 : Nat) : Int) := by
  have h1 := Int32.le_toInt y
  have h2 := Int32.toInt_lt y
  have h0 := h.1
  rw [Int32.toInt_div, show (100 : Int32).toInt = 100 from rfl]
  have e : y.toInt.tdiv 100 = -((y.toInt.natAbs / 100 : Nat) : Int) := by
    have e1 : y.toInt = -(y.toInt.natAbs : Int) := by omega
    rw [e1, Int.neg_tdiv, Int.natAbs_neg, Int.natAbs_natCast]
    congr 1
  rw [e]
  exact Int.bmod_eq_of_le (by omega) (by omega)
theorem gc_r {y : Int32} {k : Nat} (h : GCi y k) : vp_in (y / 100 * 100 - y) 100 := by
  have h0 := h.1
  have h1 := Int32.le_toInt y
  have e := gc_div h
  rw [vp_in_iff, Int32.toInt_sub, Int32.toInt_mul, e, show (100 : Int32).toInt = 100 from rfl]
  rw [Int.bmod_eq_of_le (n := -((y.toInt.natAbs / 100 : Nat) : Int) * 100) (by omega) (by omega)]
  rw [Int.bmod_eq_of_le (by omega) (by omega)]
  omega
theorem gc_s {y : Int32} {k : Nat} (h : GCi y k) (c : ¬ -100 < y) : GCi (y / 100) (k - 2) ∧ (y / 100).toInt.natAbs < y.toInt.natAbs := by
  have h3 := gc_k3 h c
  have e := gc_div h
  have h2 := h.2.1
  obtain ⟨j, rfl⟩ : ∃ j, k = j + 2 := ⟨k - 2, by omega⟩
  have hp : (10 : Nat) ^ (j + 2) = 10 ^ j * 100 := by rw [Nat.pow_add]
  rw [hp] at h2
  rw [show j + 2 - 2 = j by omega]
  refine ⟨⟨by omega, ?_, by omega⟩, by omega⟩
  rw [e, Int.natAbs_neg, Int.natAbs_natCast]
  exact (Nat.div_lt_iff_lt_mul (by decide)).mpr h2
theorem gc_n {y : Int32} {k : Nat} (h : GCi y k) (c : -100 < y) : vp_in (-y) 100 := by
  rw [i32_lt, show (-100 : Int32).toInt = -100 from rfl] at c
  have h0 := h.1
  rw [vp_in_iff, Int32.toInt_neg, Int.bmod_eq_of_le (by omega) (by omega)]
  omega
theorem gc_k2 {y : Int32} {k : Nat} (h : GCi y k) (c : ¬ -9 ≤ y) : 2 ≤ k := by
  rw [i32_le, show (-9 : Int32).toInt = -9 from rfl] at c
  refine Nat.not_lt.mp fun z => ?_
  have h1 : (10 : Nat) ^ k ≤ 10 ^ 1 := Nat.pow_le_pow_right (by decide) (by omega)
  have := h.2.1
  omega
theorem DSz_b {x : Int32} {s : Nat} (h : DSz x s) : 1 ≤ s ∧ s ≤ 11 := by
  by_cases c : x < 0
  · have := h.1 c; omega
  · have := h.2 c; omega

set_option maxHeartbeats 4000000 in
set_option maxRecDepth 100000 in
theorem k_J6_stringSize_0f7a4 (κ : Kt) (l : Launch) (w : va_W) (x : Int32)  : CM κ l yJ6_stringSize_0f7a4 cJ6_stringSize_0f7a4 4 (some .int) 0 0 0 0 [.int x] (w) (fun o w' => ∃ (z : Nat), o = some (.int (nI z)) ∧ (DSz x z) ∧ w' = w) := by
  refine CM_begin (plainFor_of_name pn_RJ6) (Nat.le_of_ble_eq_true rfl) ?_
  intro p e s m args below meth c A Q hX hnm hA3 hQ hB ls hl
  have hx := hX.1.1
  have hb := hX.1.2.1
  have hl : lv_has ls 4 [(0, .int x)] := hl
  refine lv_iconst (v := 1) hx hb dJ6_stringSize_0f7a4_0 (by decide) ?_
  refine lv_istore_n (lv' := [(1, .int 1), (0, .int x)]) hx hb dJ6_stringSize_0f7a4_1 rfl hl (by decide) rfl (fun ls hl => ?_)
  refine lv_iload_n hx hb dJ6_stringSize_0f7a4_2 rfl (lv_at hl 1 rfl) ?_
  refine lv_if_lt (tgt := 11) hx hb dJ6_stringSize_0f7a4_3 (by decide) (fun c1 => ?_) (fun c1 => ?_)
  · refine lv_bipush (v := (-10)) hx hb dJ6_stringSize_0f7a4_11 (by decide) ?_
    refine lv_istore_n (lv' := [(2, .int (-10)), (1, .int 1), (0, .int x)]) hx hb dJ6_stringSize_0f7a4_13 rfl hl (by decide) rfl (fun ls hl => ?_)
    refine lv_iconst (v := 1) hx hb dJ6_stringSize_0f7a4_14 (by decide) ?_
    refine lv_istore_n (lv' := [(3, .int 1), (2, .int (-10)), (1, .int 1), (0, .int x)]) hx hb dJ6_stringSize_0f7a4_15 rfl hl (by decide) rfl (fun ls hl => ?_)
    have lp16 : ∀ (nn : Nat) (y3_16 : Nat) (y2_16 : Int32) (H : Heap) (locs : List Loc), (y3_16 ≤ 10) → (1 ≤ y3_16) → (y3_16 ≤ 9 → (y2_16).toInt = -((10 ^ y3_16 : Nat) : Int)) → 10 + 1 - y3_16 < nn → Bd κ A s (w) H locs → ∀ ls : Array Slot, lv_has ls 4 [(3, .int (nI y3_16)), (2, .int y2_16), (1, .int 1), (0, .int x)] → W p l e (Rm 0 0 0 0) s m args below meth c H locs (0) (0) Q (F0 m 16 ls []) := by
      intro nn
      induction nn with
      | zero => intro y3_16 y2_16 H locs hn3_16 hi1 hp hμ; exact absurd hμ (Nat.not_lt_zero _)
      | succ nn ih16 =>
        intro y3_16 y2_16 H locs hn3_16 hi1 hp hμ16 hB ls hl
        refine lv_iload_n hx hb dJ6_stringSize_0f7a4_16 rfl (lv_at hl 0 rfl) ?_
        refine lv_bipush (v := 10) hx hb dJ6_stringSize_0f7a4_17 (by decide) ?_
        refine lv_icmp_ge (tgt := 42) hx hb dJ6_stringSize_0f7a4_19 (by decide) (fun c6 => ?_) (fun c6 => ?_)
        · replace c6 : nI 10 ≤ nI y3_16 := c6
          rw [nleP (by omega) (by omega)] at c6
          refine lv_bipush (v := 10) hx hb dJ6_stringSize_0f7a4_42 (by decide) ?_
          refine lv_iload_n hx hb dJ6_stringSize_0f7a4_44 rfl (lv_at hl 2 rfl) ?_
          refine lv_iadd hx hb dJ6_stringSize_0f7a4_45 ?_
          refine eqi (y := 11) (by decide) ?_
          rw [← hQ]
          exact end_i hX hB hA3 rfl rfl ⟨11, rfl, (ds_3 (by assumption)), rfl⟩ (Nat.le_of_ble_eq_true rfl) (Nat.le_of_ble_eq_true rfl) dJ6_stringSize_0f7a4_46
        · replace c6 : ¬ nI 10 ≤ nI y3_16 := c6
          rw [nleP (by omega) (by omega)] at c6
          refine lv_iload_n hx hb dJ6_stringSize_0f7a4_22 rfl (lv_at hl 3 rfl) ?_
          refine lv_iload_n hx hb dJ6_stringSize_0f7a4_23 rfl (lv_at hl 1 rfl) ?_
          refine lv_icmp_le (tgt := 31) hx hb dJ6_stringSize_0f7a4_24 (by decide) (fun c7 => ?_) (fun c7 => ?_)
          · refine lv_bipush (v := 10) hx hb dJ6_stringSize_0f7a4_31 (by decide) ?_
            refine lv_iload_n hx hb dJ6_stringSize_0f7a4_33 rfl (lv_at hl 1 rfl) ?_
            refine lv_imul hx hb dJ6_stringSize_0f7a4_34 ?_
            refine lv_istore_n (lv' := [(2, .int (10 * y2_16)), (3, .int (nI y3_16)), (1, .int 1), (0, .int x)]) hx hb dJ6_stringSize_0f7a4_35 rfl hl (by decide) rfl (fun ls hl => ?_)
            refine lv_iinc (v := nI (y3_16 + 1)) (lv' := [(3, .int (nI (y3_16 + 1))), (2, .int (10 * y2_16)), (1, .int 1), (0, .int x)]) hx hb dJ6_stringSize_0f7a4_36 hl (k := 1) rfl (nI_add y3_16 1) (by decide) rfl (fun ls hl => ?_)
            refine lv_goto (tgt := 16) hx hb dJ6_stringSize_0f7a4_39 (by decide) ?_
            exact ih16 (y3_16 + 1) (10 * y2_16) _ _ (by omega) (by omega) (ds_p hi1 hp) (by omega) hB _ hl
          · refine lv_iload_n hx hb dJ6_stringSize_0f7a4_27 rfl (lv_at hl 0 rfl) ?_
            refine lv_iload_n hx hb dJ6_stringSize_0f7a4_28 rfl (lv_at hl 2 rfl) ?_
            refine lv_iadd hx hb dJ6_stringSize_0f7a4_29 ?_
            refine eqi (y := nI (y3_16 + 1)) (nI_add y3_16 1) ?_
            rw [← hQ]
            exact end_i hX hB hA3 rfl rfl ⟨(y3_16 + 1), rfl, (by first | exact ds_1 (by assumption) hi1 (by omega) hp (by assumption) | exact ds_2 (by assumption) hi1 (by omega) hp (by assumption)), rfl⟩ (Nat.le_of_ble_eq_true rfl) (Nat.le_of_ble_eq_true rfl) dJ6_stringSize_0f7a4_30
    exact lp16 _ 1 (-10) _ _ (by omega) (by omega) (fun _ => rfl) (Nat.lt_succ_self _) hB _ hl
  · refine lv_iconst (v := 0) hx hb dJ6_stringSize_0f7a4_6 (by decide) ?_
    refine lv_istore_n (lv' := [(1, .int 0), (0, .int x)]) hx hb dJ6_stringSize_0f7a4_7 rfl hl (by decide) rfl (fun ls hl => ?_)
    refine lv_iload_n hx hb dJ6_stringSize_0f7a4_8 rfl (lv_at hl 1 rfl) ?_
    refine lv_ineg hx hb dJ6_stringSize_0f7a4_9 ?_
    refine lv_istore_n (lv' := [(0, .int (-x)), (1, .int 0)]) hx hb dJ6_stringSize_0f7a4_10 rfl hl (by decide) rfl (fun ls hl => ?_)
    refine lv_bipush (v := (-10)) hx hb dJ6_stringSize_0f7a4_11 (by decide) ?_
    refine lv_istore_n (lv' := [(2, .int (-10)), (0, .int (-x)), (1, .int 0)]) hx hb dJ6_stringSize_0f7a4_13 rfl hl (by decide) rfl (fun ls hl => ?_)
    refine lv_iconst (v := 1) hx hb dJ6_stringSize_0f7a4_14 (by decide) ?_
    refine lv_istore_n (lv' := [(3, .int 1), (2, .int (-10)), (0, .int (-x)), (1, .int 0)]) hx hb dJ6_stringSize_0f7a4_15 rfl hl (by decide) rfl (fun ls hl => ?_)
    have lp16 : ∀ (nn : Nat) (y3_16 : Nat) (y2_16 : Int32) (H : Heap) (locs : List Loc), (y3_16 ≤ 10) → (1 ≤ y3_16) → (y3_16 ≤ 9 → (y2_16).toInt = -((10 ^ y3_16 : Nat) : Int)) → 10 + 1 - y3_16 < nn → Bd κ A s (w) H locs → ∀ ls : Array Slot, lv_has ls 4 [(3, .int (nI y3_16)), (2, .int y2_16), (0, .int (-x)), (1, .int 0)] → W p l e (Rm 0 0 0 0) s m args below meth c H locs (0) (0) Q (F0 m 16 ls []) := by
      intro nn
      induction nn with
      | zero => intro y3_16 y2_16 H locs hn3_16 hi1 hp hμ; exact absurd hμ (Nat.not_lt_zero _)
      | succ nn ih16 =>
        intro y3_16 y2_16 H locs hn3_16 hi1 hp hμ16 hB ls hl
        refine lv_iload_n hx hb dJ6_stringSize_0f7a4_16 rfl (lv_at hl 0 rfl) ?_
        refine lv_bipush (v := 10) hx hb dJ6_stringSize_0f7a4_17 (by decide) ?_
        refine lv_icmp_ge (tgt := 42) hx hb dJ6_stringSize_0f7a4_19 (by decide) (fun c12 => ?_) (fun c12 => ?_)
        · replace c12 : nI 10 ≤ nI y3_16 := c12
          rw [nleP (by omega) (by omega)] at c12
          refine lv_bipush (v := 10) hx hb dJ6_stringSize_0f7a4_42 (by decide) ?_
          refine lv_iload_n hx hb dJ6_stringSize_0f7a4_44 rfl (lv_at hl 3 rfl) ?_
          refine lv_iadd hx hb dJ6_stringSize_0f7a4_45 ?_
          refine eqi (y := 10) (by decide) ?_
          rw [← hQ]
          exact end_i hX hB hA3 rfl rfl ⟨10, rfl, (ds_4 (by assumption)), rfl⟩ (Nat.le_of_ble_eq_true rfl) (Nat.le_of_ble_eq_true rfl) dJ6_stringSize_0f7a4_46
        · replace c12 : ¬ nI 10 ≤ nI y3_16 := c12
          rw [nleP (by omega) (by omega)] at c12
          refine lv_iload_n hx hb dJ6_stringSize_0f7a4_22 rfl (lv_at hl 2 rfl) ?_
          refine lv_iload_n hx hb dJ6_stringSize_0f7a4_23 rfl (lv_at hl 1 rfl) ?_
          refine lv_icmp_le (tgt := 31) hx hb dJ6_stringSize_0f7a4_24 (by decide) (fun c13 => ?_) (fun c13 => ?_)
          · refine lv_bipush (v := 10) hx hb dJ6_stringSize_0f7a4_31 (by decide) ?_
            refine lv_iload_n hx hb dJ6_stringSize_0f7a4_33 rfl (lv_at hl 1 rfl) ?_
            refine lv_imul hx hb dJ6_stringSize_0f7a4_34 ?_
            refine lv_istore_n (lv' := [(2, .int (10 * y2_16)), (3, .int (nI y3_16)), (0, .int (-x)), (1, .int 0)]) hx hb dJ6_stringSize_0f7a4_35 rfl hl (by decide) rfl (fun ls hl => ?_)
            refine lv_iinc (v := nI (y3_16 + 1)) (lv' := [(3, .int (nI (y3_16 + 1))), (2, .int (10 * y2_16)), (0, .int (-x)), (1, .int 0)]) hx hb dJ6_stringSize_0f7a4_36 hl (k := 1) rfl (nI_add y3_16 1) (by decide) rfl (fun ls hl => ?_)
            refine lv_goto (tgt := 16) hx hb dJ6_stringSize_0f7a4_39 (by decide) ?_
            exact ih16 (y3_16 + 1) (10 * y2_16) _ _ (by omega) (by omega) (ds_p hi1 hp) (by omega) hB _ hl
          · refine lv_iload_n hx hb dJ6_stringSize_0f7a4_27 rfl (lv_at hl 0 rfl) ?_
            refine lv_iload_n hx hb dJ6_stringSize_0f7a4_28 rfl (lv_at hl 3 rfl) ?_
            refine lv_iadd hx hb dJ6_stringSize_0f7a4_29 ?_
            refine eqi (y := nI (y3_16 + 0)) (nI_add y3_16 0) ?_
            rw [← hQ]
            exact end_i hX hB hA3 rfl rfl ⟨(y3_16 + 0), rfl, (by first | exact ds_1 (by assumption) hi1 (by omega) hp (by assumption) | exact ds_2 (by assumption) hi1 (by omega) hp (by assumption)), rfl⟩ (Nat.le_of_ble_eq_true rfl) (Nat.le_of_ble_eq_true rfl) dJ6_stringSize_0f7a4_30
    exact lp16 _ 1 (-10) _ _ (by omega) (by omega) (fun _ => rfl) (Nat.lt_succ_self _) hB _ hl
set_option maxHeartbeats 4000000 in
set_option maxRecDepth 100000 in
theorem k_J6_getChars_ba4f3 (κ : Kt) (l : Launch) (w : va_W) (x : Int32) (xp0 : Int32) (p0 : Nat) (k_b b_b n_b : Nat) (f_b : Nat → Int32) (hxp0 : xp0 = nI p0) (h_b : w[k_b]? = some (bA κ b_b n_b f_b)) (hnb : n_b ≤ 1000) (hft : sb_Fit f_b) (hsz : ∃ sz, DSz x sz ∧ sz ≤ p0) (hp0 : p0 ≤ n_b) : CM κ l yJ6_getChars_ba4f3 cJ6_getChars_ba4f3 7 (some .int) 0 0 0 0 [.int x, .int xp0, .ref b_b] (w) (fun o w' => ∃ (z : Nat) (F : Nat → Int32), o = some (.int (nI z)) ∧ (sb_Fit F) ∧ w' = w.set k_b (bA κ b_b n_b F)) := by
  subst hxp0
  refine CM_begin (plainFor_of_name pn_RJ6) (Nat.le_of_ble_eq_true rfl) ?_
  intro p e s m args below meth c A Q hX hnm hA3 hQ hB ls hl
  have hx := hX.1.1
  have hb := hX.1.2.1
  have hl : lv_has ls 7 [(0, .int x), (1, .int (nI p0)), (2, .ref b_b)] := hl
  have hB : Bd κ A s (w.set k_b (bA κ b_b n_b f_b)) s.heap [] := by rw [wset0 h_b]; exact hB
  obtain ⟨sz, hds, hsp⟩ := hsz
  obtain ⟨hdta, fdt, hdt1, hdt2⟩ := hX.2.1.2.2.1.1.2.2.2.1
  obtain ⟨hdoa, fdo, hdo1, hdo2⟩ := hX.2.1.2.2.1.1.2.2.2.2
  refine lv_iload_n hx hb dJ6_getChars_ba4f3_0 rfl (lv_at hl 1 rfl) ?_
  refine lv_istore (lv' := [(5, .int (nI p0)), (0, .int x), (1, .int (nI p0)), (2, .ref b_b)]) hx hb dJ6_getChars_ba4f3_1 hl (by decide) rfl (fun ls hl => ?_)
  refine lv_iload_n hx hb dJ6_getChars_ba4f3_3 rfl (lv_at hl 1 rfl) ?_
  refine lv_if_ge (tgt := 11) hx hb dJ6_getChars_ba4f3_4 (by decide) (fun c1 => ?_) (fun c1 => ?_)
  · refine lv_iconst (v := 0) hx hb dJ6_getChars_ba4f3_11 (by decide) ?_
    refine lv_istore (lv' := [(6, .int 0), (5, .int (nI p0)), (0, .int x), (1, .int (nI p0)), (2, .ref b_b)]) hx hb dJ6_getChars_ba4f3_12 hl (by decide) rfl (fun ls hl => ?_)
    refine lv_iload hx hb dJ6_getChars_ba4f3_14 (lv_at hl 0 rfl) ?_
    refine lv_if_ne (tgt := 22) hx hb dJ6_getChars_ba4f3_16 (by decide) (fun c2 => False.elim (by revert c2; decide)) (fun _ => ?_)
    refine lv_iload_n hx hb dJ6_getChars_ba4f3_19 rfl (lv_at hl 2 rfl) ?_
    refine lv_ineg hx hb dJ6_getChars_ba4f3_20 ?_
    refine lv_istore_n (lv' := [(0, .int (-x)), (6, .int 0), (5, .int (nI p0)), (1, .int (nI p0)), (2, .ref b_b)]) hx hb dJ6_getChars_ba4f3_21 rfl hl (by decide) rfl (fun ls hl => ?_)
    have lp22 : ∀ (nn : Nat) (y0_22 : Int32) (y5_22 : Nat) (bb_22 : Nat → Int32) (kk : Nat) (H : Heap) (locs : List Loc), (GCi y0_22 kk) → (kk + 0 ≤ y5_22 ∧ y5_22 ≤ n_b) → (sb_Fit bb_22) → (y0_22).toInt.natAbs < nn → Bd κ A s ((w.set k_b (bA κ b_b n_b bb_22))) H locs → ∀ ls : Array Slot, lv_has ls 7 [(0, .int y0_22), (6, .int 0), (5, .int (nI y5_22)), (1, .int (nI p0)), (2, .ref b_b)] → W p l e (Rm 0 0 0 0) s m args below meth c H locs (0) (0) Q (F0 m 22 ls []) := by
      intro nn
      induction nn with
      | zero => intro y0_22 y5_22 bb_22 kk H locs hgc hpp hfb hμ; exact absurd hμ (Nat.not_lt_zero _)
      | succ nn ih22 =>
        intro y0_22 y5_22 bb_22 kk H locs hgc hpp hfb hμ22 hB ls hl
        have hgk := hgc.2.2
        refine lv_iload_n hx hb dJ6_getChars_ba4f3_22 rfl (lv_at hl 0 rfl) ?_
        refine lv_bipush (v := (-100)) hx hb dJ6_getChars_ba4f3_23 (by decide) ?_
        refine lv_icmp_gt (tgt := 72) hx hb dJ6_getChars_ba4f3_25 (by decide) (fun c19 => ?_) (fun c19 => ?_)
        · refine lv_aload_n hx hb dJ6_getChars_ba4f3_72 rfl (lv_at hl 4 rfl) ?_
          refine lv_iinc (v := nI (y5_22 - 1)) (lv' := [(5, .int (nI (y5_22 - 1))), (0, .int y0_22), (6, .int 0), (1, .int (nI p0)), (2, .ref b_b)]) hx hb dJ6_getChars_ba4f3_73 hl (k := 2) rfl (nI_dec (a := y5_22) (by omega)) (by decide) rfl (fun ls hl => ?_)
          refine lv_iload hx hb dJ6_getChars_ba4f3_76 (lv_at hl 0 rfl) ?_
          refine gsv hX hB hdo1 wm_4_125 dJ6_getChars_ba4f3_78 ?_
          refine lv_iload_n hx hb dJ6_getChars_ba4f3_81 rfl (lv_at hl 1 rfl) ?_
          refine lv_ineg hx hb dJ6_getChars_ba4f3_82 ?_
          refine baldS hX hB hdo2 (gc_n hgc (by assumption)) dJ6_getChars_ba4f3_83 ?_
          refine lv_topi (fun u20 eu20 => ?_)
          refine bastN (k0 := k_b) (k := y5_22 - 1) hX hB (wset1 h_b) (by omega) (by omega) (w1 := (w.set k_b (bA κ b_b n_b (upd bb_22 (y5_22 - 1) (vp_nar .byte u20))))) (List.set_set _) dJ6_getChars_ba4f3_84 (fun H locs hB => ?_)
          refine lv_iload_n hx hb dJ6_getChars_ba4f3_85 rfl (lv_at hl 1 rfl) ?_
          refine lv_bipush (v := (-9)) hx hb dJ6_getChars_ba4f3_86 (by decide) ?_
          refine lv_icmp_ge (tgt := 104) hx hb dJ6_getChars_ba4f3_88 (by decide) (fun c21 => ?_) (fun c21 => ?_)
          · refine lv_iload hx hb dJ6_getChars_ba4f3_104 (lv_at hl 2 rfl) ?_
            refine lv_if_eq (tgt := 118) hx hb dJ6_getChars_ba4f3_106 (by decide) (fun _ => ?_) (fun c22 => False.elim (by revert c22; decide))
            refine lv_iload hx hb dJ6_getChars_ba4f3_118 (lv_at hl 0 rfl) ?_
            rw [← hQ]
            exact end_i hX hB hA3 rfl rfl ⟨(y5_22 - 1), (upd bb_22 (y5_22 - 1) (vp_nar .byte u20)), rfl, (sb_fitU hfb (pk_fb _)), rfl⟩ (Nat.le_of_ble_eq_true rfl) (Nat.le_of_ble_eq_true rfl) dJ6_getChars_ba4f3_120
          · have hk2 := gc_k2 hgc c21
            refine lv_aload_n hx hb dJ6_getChars_ba4f3_91 rfl (lv_at hl 4 rfl) ?_
            refine lv_iinc (v := nI (y5_22 - 1 - 1)) (lv' := [(5, .int (nI (y5_22 - 1 - 1))), (0, .int y0_22), (6, .int 0), (1, .int (nI p0)), (2, .ref b_b)]) hx hb dJ6_getChars_ba4f3_92 hl (k := 0) rfl (nI_dec (a := y5_22 - 1) (by omega)) (by decide) rfl (fun ls hl => ?_)
            refine lv_iload hx hb dJ6_getChars_ba4f3_95 (lv_at hl 0 rfl) ?_
            refine gsv hX hB hdt1 wm_4_127 dJ6_getChars_ba4f3_97 ?_
            refine lv_iload_n hx hb dJ6_getChars_ba4f3_100 rfl (lv_at hl 1 rfl) ?_
            refine lv_ineg hx hb dJ6_getChars_ba4f3_101 ?_
            refine baldS hX hB hdt2 (gc_n hgc (by assumption)) dJ6_getChars_ba4f3_102 ?_
            refine lv_topi (fun u23 eu23 => ?_)
            refine bastN (k0 := k_b) (k := y5_22 - 1 - 1) hX hB (wset1 h_b) (by omega) (by omega) (w1 := (w.set k_b (bA κ b_b n_b (upd (upd bb_22 (y5_22 - 1) (vp_nar .byte u20)) (y5_22 - 1 - 1) (vp_nar .byte u23))))) (List.set_set _) dJ6_getChars_ba4f3_103 (fun H locs hB => ?_)
            refine lv_iload hx hb dJ6_getChars_ba4f3_104 (lv_at hl 2 rfl) ?_
            refine lv_if_eq (tgt := 118) hx hb dJ6_getChars_ba4f3_106 (by decide) (fun _ => ?_) (fun c24 => False.elim (by revert c24; decide))
            refine lv_iload hx hb dJ6_getChars_ba4f3_118 (lv_at hl 0 rfl) ?_
            rw [← hQ]
            exact end_i hX hB hA3 rfl rfl ⟨(y5_22 - 1 - 1), (upd (upd bb_22 (y5_22 - 1) (vp_nar .byte u20)) (y5_22 - 1 - 1) (vp_nar .byte u23)), rfl, (sb_fitU (sb_fitU hfb (pk_fb _)) (pk_fb _)), rfl⟩ (Nat.le_of_ble_eq_true rfl) (Nat.le_of_ble_eq_true rfl) dJ6_getChars_ba4f3_120
        · have hk3 := gc_k3 hgc c19
          refine lv_iload_n hx hb dJ6_getChars_ba4f3_28 rfl (lv_at hl 0 rfl) ?_
          refine lv_bipush (v := 100) hx hb dJ6_getChars_ba4f3_29 (by decide) ?_
          refine lv_idiv hx hb dJ6_getChars_ba4f3_31 (by decide) ?_
          refine lv_istore_n (lv' := [(3, .int (y0_22 / 100)), (0, .int y0_22), (6, .int 0), (5, .int (nI y5_22)), (1, .int (nI p0)), (2, .ref b_b)]) hx hb dJ6_getChars_ba4f3_32 rfl hl (by decide) rfl (fun ls hl => ?_)
          refine lv_iload_n hx hb dJ6_getChars_ba4f3_33 rfl (lv_at hl 0 rfl) ?_
          refine lv_bipush (v := 100) hx hb dJ6_getChars_ba4f3_34 (by decide) ?_
          refine lv_imul hx hb dJ6_getChars_ba4f3_36 ?_
          refine lv_iload_n hx hb dJ6_getChars_ba4f3_37 rfl (lv_at hl 1 rfl) ?_
          refine lv_isub hx hb dJ6_getChars_ba4f3_38 ?_
          refine lv_istore (lv' := [(4, .int (((y0_22 / 100) * 100) - y0_22)), (3, .int (y0_22 / 100)), (0, .int y0_22), (6, .int 0), (5, .int (nI y5_22)), (1, .int (nI p0)), (2, .ref b_b)]) hx hb dJ6_getChars_ba4f3_39 hl (by decide) rfl (fun ls hl => ?_)
          refine lv_iload_n hx hb dJ6_getChars_ba4f3_41 rfl (lv_at hl 1 rfl) ?_
          refine lv_istore_n (lv' := [(0, .int (y0_22 / 100)), (4, .int (((y0_22 / 100) * 100) - y0_22)), (3, .int (y0_22 / 100)), (6, .int 0), (5, .int (nI y5_22)), (1, .int (nI p0)), (2, .ref b_b)]) hx hb dJ6_getChars_ba4f3_42 rfl hl (by decide) rfl (fun ls hl => ?_)
          refine lv_aload_n hx hb dJ6_getChars_ba4f3_43 rfl (lv_at hl 6 rfl) ?_
          refine lv_iinc (v := nI (y5_22 - 1)) (lv' := [(5, .int (nI (y5_22 - 1))), (0, .int (y0_22 / 100)), (4, .int (((y0_22 / 100) * 100) - y0_22)), (3, .int (y0_22 / 100)), (6, .int 0), (1, .int (nI p0)), (2, .ref b_b)]) hx hb dJ6_getChars_ba4f3_44 hl (k := 4) rfl (nI_dec (a := y5_22) (by omega)) (by decide) rfl (fun ls hl => ?_)
          refine lv_iload hx hb dJ6_getChars_ba4f3_47 (lv_at hl 0 rfl) ?_
          refine gsv hX hB hdo1 wm_4_125 dJ6_getChars_ba4f3_49 ?_
          refine lv_iload hx hb dJ6_getChars_ba4f3_52 (lv_at hl 2 rfl) ?_
          refine baldS hX hB hdo2 (gc_r hgc) dJ6_getChars_ba4f3_54 ?_
          refine lv_topi (fun u25 eu25 => ?_)
          refine bastN (k0 := k_b) (k := y5_22 - 1) hX hB (wset1 h_b) (by omega) (by omega) (w1 := (w.set k_b (bA κ b_b n_b (upd bb_22 (y5_22 - 1) (vp_nar .byte u25))))) (List.set_set _) dJ6_getChars_ba4f3_55 (fun H locs hB => ?_)
          refine lv_aload_n hx hb dJ6_getChars_ba4f3_56 rfl (lv_at hl 6 rfl) ?_
          refine lv_iinc (v := nI (y5_22 - 1 - 1)) (lv' := [(5, .int (nI (y5_22 - 1 - 1))), (0, .int (y0_22 / 100)), (4, .int (((y0_22 / 100) * 100) - y0_22)), (3, .int (y0_22 / 100)), (6, .int 0), (1, .int (nI p0)), (2, .ref b_b)]) hx hb dJ6_getChars_ba4f3_57 hl (k := 0) rfl (nI_dec (a := y5_22 - 1) (by omega)) (by decide) rfl (fun ls hl => ?_)
          refine lv_iload hx hb dJ6_getChars_ba4f3_60 (lv_at hl 0 rfl) ?_
          refine gsv hX hB hdt1 wm_4_127 dJ6_getChars_ba4f3_62 ?_
          refine lv_iload hx hb dJ6_getChars_ba4f3_65 (lv_at hl 2 rfl) ?_
          refine baldS hX hB hdt2 (gc_r hgc) dJ6_getChars_ba4f3_67 ?_
          refine lv_topi (fun u26 eu26 => ?_)
          refine bastN (k0 := k_b) (k := y5_22 - 1 - 1) hX hB (wset1 h_b) (by omega) (by omega) (w1 := (w.set k_b (bA κ b_b n_b (upd (upd bb_22 (y5_22 - 1) (vp_nar .byte u25)) (y5_22 - 1 - 1) (vp_nar .byte u26))))) (List.set_set _) dJ6_getChars_ba4f3_68 (fun H locs hB => ?_)
          refine lv_goto (tgt := 22) hx hb dJ6_getChars_ba4f3_69 (by decide) ?_
          exact ih22 (y0_22 / 100) (y5_22 - 1 - 1) (upd (upd bb_22 (y5_22 - 1) (vp_nar .byte u25)) (y5_22 - 1 - 1) (vp_nar .byte u26)) (kk - 2) _ _ ((gc_s hgc c19).1) (⟨by omega, by omega⟩) (sb_fitU (sb_fitU hfb (pk_fb _)) (pk_fb _)) (by have := (gc_s hgc c19).2; omega) hB _ (lv_sub hl [1, 4, 0, 5, 6] rfl)
    exact lp22 _ (-x) p0 f_b sz _ _ (gc_1 hds (Int32.not_lt.mpr (by assumption))) (⟨by have := DSz_b hds; omega, by omega⟩) hft (Nat.lt_succ_self _) hB _ hl
  · refine lv_iconst (v := 1) hx hb dJ6_getChars_ba4f3_7 (by decide) ?_
    refine lv_goto (tgt := 12) hx hb dJ6_getChars_ba4f3_8 (by decide) ?_
    refine lv_istore (lv' := [(6, .int 1), (5, .int (nI p0)), (0, .int x), (1, .int (nI p0)), (2, .ref b_b)]) hx hb dJ6_getChars_ba4f3_12 hl (by decide) rfl (fun ls hl => ?_)
    refine lv_iload hx hb dJ6_getChars_ba4f3_14 (lv_at hl 0 rfl) ?_
    refine lv_if_ne (tgt := 22) hx hb dJ6_getChars_ba4f3_16 (by decide) (fun _ => ?_) (fun c27 => False.elim (by revert c27; decide))
    have lp22 : ∀ (nn : Nat) (y5_22 : Nat) (y0_22 : Int32) (bb_22 : Nat → Int32) (kk : Nat) (H : Heap) (locs : List Loc), (GCi y0_22 kk) → (kk + 1 ≤ y5_22 ∧ y5_22 ≤ n_b) → (sb_Fit bb_22) → (y0_22).toInt.natAbs < nn → Bd κ A s ((w.set k_b (bA κ b_b n_b bb_22))) H locs → ∀ ls : Array Slot, lv_has ls 7 [(6, .int 1), (5, .int (nI y5_22)), (0, .int y0_22), (1, .int (nI p0)), (2, .ref b_b)] → W p l e (Rm 0 0 0 0) s m args below meth c H locs (0) (0) Q (F0 m 22 ls []) := by
      intro nn
      induction nn with
      | zero => intro y5_22 y0_22 bb_22 kk H locs hgc hpp hfb hμ; exact absurd hμ (Nat.not_lt_zero _)
      | succ nn ih22 =>
        intro y5_22 y0_22 bb_22 kk H locs hgc hpp hfb hμ22 hB ls hl
        have hgk := hgc.2.2
        refine lv_iload_n hx hb dJ6_getChars_ba4f3_22 rfl (lv_at hl 2 rfl) ?_
        refine lv_bipush (v := (-100)) hx hb dJ6_getChars_ba4f3_23 (by decide) ?_
        refine lv_icmp_gt (tgt := 72) hx hb dJ6_getChars_ba4f3_25 (by decide) (fun c44 => ?_) (fun c44 => ?_)
        · refine lv_aload_n hx hb dJ6_getChars_ba4f3_72 rfl (lv_at hl 4 rfl) ?_
          refine lv_iinc (v := nI (y5_22 - 1)) (lv' := [(5, .int (nI (y5_22 - 1))), (6, .int 1), (0, .int y0_22), (1, .int (nI p0)), (2, .ref b_b)]) hx hb dJ6_getChars_ba4f3_73 hl (k := 1) rfl (nI_dec (a := y5_22) (by omega)) (by decide) rfl (fun ls hl => ?_)
          refine lv_iload hx hb dJ6_getChars_ba4f3_76 (lv_at hl 0 rfl) ?_
          refine gsv hX hB hdo1 wm_4_125 dJ6_getChars_ba4f3_78 ?_
          refine lv_iload_n hx hb dJ6_getChars_ba4f3_81 rfl (lv_at hl 2 rfl) ?_
          refine lv_ineg hx hb dJ6_getChars_ba4f3_82 ?_
          refine baldS hX hB hdo2 (gc_n hgc (by assumption)) dJ6_getChars_ba4f3_83 ?_
          refine lv_topi (fun u45 eu45 => ?_)
          refine bastN (k0 := k_b) (k := y5_22 - 1) hX hB (wset1 h_b) (by omega) (by omega) (w1 := (w.set k_b (bA κ b_b n_b (upd bb_22 (y5_22 - 1) (vp_nar .byte u45))))) (List.set_set _) dJ6_getChars_ba4f3_84 (fun H locs hB => ?_)
          refine lv_iload_n hx hb dJ6_getChars_ba4f3_85 rfl (lv_at hl 2 rfl) ?_
          refine lv_bipush (v := (-9)) hx hb dJ6_getChars_ba4f3_86 (by decide) ?_
          refine lv_icmp_ge (tgt := 104) hx hb dJ6_getChars_ba4f3_88 (by decide) (fun c46 => ?_) (fun c46 => ?_)
          · refine lv_iload hx hb dJ6_getChars_ba4f3_104 (lv_at hl 1 rfl) ?_
            refine lv_if_eq (tgt := 118) hx hb dJ6_getChars_ba4f3_106 (by decide) (fun c47 => False.elim (by revert c47; decide)) (fun _ => ?_)
            refine lv_aload_n hx hb dJ6_getChars_ba4f3_109 rfl (lv_at hl 4 rfl) ?_
            refine lv_iinc (v := nI (y5_22 - 1 - 1)) (lv' := [(5, .int (nI (y5_22 - 1 - 1))), (6, .int 1), (0, .int y0_22), (1, .int (nI p0)), (2, .ref b_b)]) hx hb dJ6_getChars_ba4f3_110 hl (k := 0) rfl (nI_dec (a := y5_22 - 1) (by omega)) (by decide) rfl (fun ls hl => ?_)
            refine lv_iload hx hb dJ6_getChars_ba4f3_113 (lv_at hl 0 rfl) ?_
            refine lv_bipush (v := 45) hx hb dJ6_getChars_ba4f3_115 (by decide) ?_
            refine bastN (k0 := k_b) (k := y5_22 - 1 - 1) hX hB (wset1 h_b) (by omega) (by omega) (w1 := (w.set k_b (bA κ b_b n_b (upd (upd bb_22 (y5_22 - 1) (vp_nar .byte u45)) (y5_22 - 1 - 1) (vp_nar .byte 45))))) (List.set_set _) dJ6_getChars_ba4f3_117 (fun H locs hB => ?_)
            refine lv_iload hx hb dJ6_getChars_ba4f3_118 (lv_at hl 0 rfl) ?_
            rw [← hQ]
            exact end_i hX hB hA3 rfl rfl ⟨(y5_22 - 1 - 1), (upd (upd bb_22 (y5_22 - 1) (vp_nar .byte u45)) (y5_22 - 1 - 1) (vp_nar .byte 45)), rfl, (sb_fitU (sb_fitU hfb (pk_fb _)) (pk_fb _)), rfl⟩ (Nat.le_of_ble_eq_true rfl) (Nat.le_of_ble_eq_true rfl) dJ6_getChars_ba4f3_120
          · have hk2 := gc_k2 hgc c46
            refine lv_aload_n hx hb dJ6_getChars_ba4f3_91 rfl (lv_at hl 4 rfl) ?_
            refine lv_iinc (v := nI (y5_22 - 1 - 1)) (lv' := [(5, .int (nI (y5_22 - 1 - 1))), (6, .int 1), (0, .int y0_22), (1, .int (nI p0)), (2, .ref b_b)]) hx hb dJ6_getChars_ba4f3_92 hl (k := 0) rfl (nI_dec (a := y5_22 - 1) (by omega)) (by decide) rfl (fun ls hl => ?_)
            refine lv_iload hx hb dJ6_getChars_ba4f3_95 (lv_at hl 0 rfl) ?_
            refine gsv hX hB hdt1 wm_4_127 dJ6_getChars_ba4f3_97 ?_
            refine lv_iload_n hx hb dJ6_getChars_ba4f3_100 rfl (lv_at hl 2 rfl) ?_
            refine lv_ineg hx hb dJ6_getChars_ba4f3_101 ?_
            refine baldS hX hB hdt2 (gc_n hgc (by assumption)) dJ6_getChars_ba4f3_102 ?_
            refine lv_topi (fun u48 eu48 => ?_)
            refine bastN (k0 := k_b) (k := y5_22 - 1 - 1) hX hB (wset1 h_b) (by omega) (by omega) (w1 := (w.set k_b (bA κ b_b n_b (upd (upd bb_22 (y5_22 - 1) (vp_nar .byte u45)) (y5_22 - 1 - 1) (vp_nar .byte u48))))) (List.set_set _) dJ6_getChars_ba4f3_103 (fun H locs hB => ?_)
            refine lv_iload hx hb dJ6_getChars_ba4f3_104 (lv_at hl 1 rfl) ?_
            refine lv_if_eq (tgt := 118) hx hb dJ6_getChars_ba4f3_106 (by decide) (fun c49 => False.elim (by revert c49; decide)) (fun _ => ?_)
            refine lv_aload_n hx hb dJ6_getChars_ba4f3_109 rfl (lv_at hl 4 rfl) ?_
            refine lv_iinc (v := nI (y5_22 - 1 - 1 - 1)) (lv' := [(5, .int (nI (y5_22 - 1 - 1 - 1))), (6, .int 1), (0, .int y0_22), (1, .int (nI p0)), (2, .ref b_b)]) hx hb dJ6_getChars_ba4f3_110 hl (k := 0) rfl (nI_dec (a := y5_22 - 1 - 1) (by omega)) (by decide) rfl (fun ls hl => ?_)
            refine lv_iload hx hb dJ6_getChars_ba4f3_113 (lv_at hl 0 rfl) ?_
            refine lv_bipush (v := 45) hx hb dJ6_getChars_ba4f3_115 (by decide) ?_
            refine bastN (k0 := k_b) (k := y5_22 - 1 - 1 - 1) hX hB (wset1 h_b) (by omega) (by omega) (w1 := (w.set k_b (bA κ b_b n_b (upd (upd (upd bb_22 (y5_22 - 1) (vp_nar .byte u45)) (y5_22 - 1 - 1) (vp_nar .byte u48)) (y5_22 - 1 - 1 - 1) (vp_nar .byte 45))))) (List.set_set _) dJ6_getChars_ba4f3_117 (fun H locs hB => ?_)
            refine lv_iload hx hb dJ6_getChars_ba4f3_118 (lv_at hl 0 rfl) ?_
            rw [← hQ]
            exact end_i hX hB hA3 rfl rfl ⟨(y5_22 - 1 - 1 - 1), (upd (upd (upd bb_22 (y5_22 - 1) (vp_nar .byte u45)) (y5_22 - 1 - 1) (vp_nar .byte u48)) (y5_22 - 1 - 1 - 1) (vp_nar .byte 45)), rfl, (sb_fitU (sb_fitU (sb_fitU hfb (pk_fb _)) (pk_fb _)) (pk_fb _)), rfl⟩ (Nat.le_of_ble_eq_true rfl) (Nat.le_of_ble_eq_true rfl) dJ6_getChars_ba4f3_120
        · have hk3 := gc_k3 hgc c44
          refine lv_iload_n hx hb dJ6_getChars_ba4f3_28 rfl (lv_at hl 2 rfl) ?_
          refine lv_bipush (v := 100) hx hb dJ6_getChars_ba4f3_29 (by decide) ?_
          refine lv_idiv hx hb dJ6_getChars_ba4f3_31 (by decide) ?_
          refine lv_istore_n (lv' := [(3, .int (y0_22 / 100)), (6, .int 1), (5, .int (nI y5_22)), (0, .int y0_22), (1, .int (nI p0)), (2, .ref b_b)]) hx hb dJ6_getChars_ba4f3_32 rfl hl (by decide) rfl (fun ls hl => ?_)
          refine lv_iload_n hx hb dJ6_getChars_ba4f3_33 rfl (lv_at hl 0 rfl) ?_
          refine lv_bipush (v := 100) hx hb dJ6_getChars_ba4f3_34 (by decide) ?_
          refine lv_imul hx hb dJ6_getChars_ba4f3_36 ?_
          refine lv_iload_n hx hb dJ6_getChars_ba4f3_37 rfl (lv_at hl 3 rfl) ?_
          refine lv_isub hx hb dJ6_getChars_ba4f3_38 ?_
          refine lv_istore (lv' := [(4, .int (((y0_22 / 100) * 100) - y0_22)), (3, .int (y0_22 / 100)), (6, .int 1), (5, .int (nI y5_22)), (0, .int y0_22), (1, .int (nI p0)), (2, .ref b_b)]) hx hb dJ6_getChars_ba4f3_39 hl (by decide) rfl (fun ls hl => ?_)
          refine lv_iload_n hx hb dJ6_getChars_ba4f3_41 rfl (lv_at hl 1 rfl) ?_
          refine lv_istore_n (lv' := [(0, .int (y0_22 / 100)), (4, .int (((y0_22 / 100) * 100) - y0_22)), (3, .int (y0_22 / 100)), (6, .int 1), (5, .int (nI y5_22)), (1, .int (nI p0)), (2, .ref b_b)]) hx hb dJ6_getChars_ba4f3_42 rfl hl (by decide) rfl (fun ls hl => ?_)
          refine lv_aload_n hx hb dJ6_getChars_ba4f3_43 rfl (lv_at hl 6 rfl) ?_
          refine lv_iinc (v := nI (y5_22 - 1)) (lv' := [(5, .int (nI (y5_22 - 1))), (0, .int (y0_22 / 100)), (4, .int (((y0_22 / 100) * 100) - y0_22)), (3, .int (y0_22 / 100)), (6, .int 1), (1, .int (nI p0)), (2, .ref b_b)]) hx hb dJ6_getChars_ba4f3_44 hl (k := 4) rfl (nI_dec (a := y5_22) (by omega)) (by decide) rfl (fun ls hl => ?_)
          refine lv_iload hx hb dJ6_getChars_ba4f3_47 (lv_at hl 0 rfl) ?_
          refine gsv hX hB hdo1 wm_4_125 dJ6_getChars_ba4f3_49 ?_
          refine lv_iload hx hb dJ6_getChars_ba4f3_52 (lv_at hl 2 rfl) ?_
          refine baldS hX hB hdo2 (gc_r hgc) dJ6_getChars_ba4f3_54 ?_
          refine lv_topi (fun u50 eu50 => ?_)
          refine bastN (k0 := k_b) (k := y5_22 - 1) hX hB (wset1 h_b) (by omega) (by omega) (w1 := (w.set k_b (bA κ b_b n_b (upd bb_22 (y5_22 - 1) (vp_nar .byte u50))))) (List.set_set _) dJ6_getChars_ba4f3_55 (fun H locs hB => ?_)
          refine lv_aload_n hx hb dJ6_getChars_ba4f3_56 rfl (lv_at hl 6 rfl) ?_
          refine lv_iinc (v := nI (y5_22 - 1 - 1)) (lv' := [(5, .int (nI (y5_22 - 1 - 1))), (0, .int (y0_22 / 100)), (4, .int (((y0_22 / 100) * 100) - y0_22)), (3, .int (y0_22 / 100)), (6, .int 1), (1, .int (nI p0)), (2, .ref b_b)]) hx hb dJ6_getChars_ba4f3_57 hl (k := 0) rfl (nI_dec (a := y5_22 - 1) (by omega)) (by decide) rfl (fun ls hl => ?_)
          refine lv_iload hx hb dJ6_getChars_ba4f3_60 (lv_at hl 0 rfl) ?_
          refine gsv hX hB hdt1 wm_4_127 dJ6_getChars_ba4f3_62 ?_
          refine lv_iload hx hb dJ6_getChars_ba4f3_65 (lv_at hl 2 rfl) ?_
          refine baldS hX hB hdt2 (gc_r hgc) dJ6_getChars_ba4f3_67 ?_
          refine lv_topi (fun u51 eu51 => ?_)
          refine bastN (k0 := k_b) (k := y5_22 - 1 - 1) hX hB (wset1 h_b) (by omega) (by omega) (w1 := (w.set k_b (bA κ b_b n_b (upd (upd bb_22 (y5_22 - 1) (vp_nar .byte u50)) (y5_22 - 1 - 1) (vp_nar .byte u51))))) (List.set_set _) dJ6_getChars_ba4f3_68 (fun H locs hB => ?_)
          refine lv_goto (tgt := 22) hx hb dJ6_getChars_ba4f3_69 (by decide) ?_
          exact ih22 (y5_22 - 1 - 1) (y0_22 / 100) (upd (upd bb_22 (y5_22 - 1) (vp_nar .byte u50)) (y5_22 - 1 - 1) (vp_nar .byte u51)) (kk - 2) _ _ ((gc_s hgc c44).1) (⟨by omega, by omega⟩) (sb_fitU (sb_fitU hfb (pk_fb _)) (pk_fb _)) (by have := (gc_s hgc c44).2; omega) hB _ (lv_sub hl [4, 0, 1, 5, 6] rfl)
    exact lp22 _ p0 x f_b (sz - 1) _ _ (gc_0 hds (Int32.not_le.mp (by assumption))) (⟨by have := DSz_b hds; omega, by omega⟩) hft (Nat.lt_succ_self _) hB _ hl
set_option maxHeartbeats 4000000 in
set_option maxRecDepth 100000 in
theorem k_J5_append_c97b9 (κ : Kt) (l : Launch) (w : va_W) (s_0 b_s n_s c_s : Nat) (ml : Int32) (f_s : Nat → Int32) (x : Int32) (hcn : c_s ≤ n_s) (hnb : n_s ≤ 1000) (hft : sb_Fit f_s) (hc3 : c_s ≤ 300) (hn2 : n_s ≤ 2 * c_s + 16) : CM κ l yJ5_append_c97b9 cJ5_append_c97b9 4 (some (.object "java/lang/AbstractStringBuilder")) 4 104 1 820 [.ref s_0, .int x] (bA κ b_s n_s f_s :: (s_0, .inr (1, [.ref b_s, .int 0, .int ml, .int (nI c_s)])) :: w) (fun o w' => ∃ (q1 : Nat) (n1 : Nat) (F : Nat → Int32) (c1 : Nat), o = some (.ref s_0) ∧ (c_s + 1 ≤ n1 ∧ n1 ≤ 1000 ∧ n1 ≤ 2 * c1 + 16 ∧ c_s + 1 ≤ c1 ∧ c1 ≤ c_s + 11 ∧ c1 ≤ n1) ∧ (sb_Fit F) ∧ w' = bA κ q1 n1 F :: (s_0, .inr (1, [.ref q1, .int 0, .int ml, .int (nI c1)])) :: w) := by
  refine CM_begin (plainFor_of_name pn_RJ5) (Nat.le_of_ble_eq_true rfl) ?_
  intro p e s m args below meth c A Q hX hnm hA3 hQ hB ls hl
  have hx := hX.1.1
  have hb := hX.1.2.1
  have hl : lv_has ls 4 [(0, .ref s_0), (1, .int x)] := hl
  refine lv_aload_n hx hb dJ5_append_c97b9_0 rfl (lv_at hl 0 rfl) ?_
  refine gfU (k0 := 1) hX hB rfl rfl inJ4 3 (by decide) wm_4_11 rfl rfl dJ5_append_c97b9_1 ?_
  refine lv_istore_n (lv' := [(2, .int (nI c_s)), (0, .ref s_0), (1, .int x)]) hx hb dJ5_append_c97b9_4 rfl hl (by decide) rfl (fun ls hl => ?_)
  refine lv_iload_n hx hb dJ5_append_c97b9_5 rfl (lv_at hl 0 rfl) ?_
  refine lv_iload_n hx hb dJ5_append_c97b9_6 rfl (lv_at hl 2 rfl) ?_
  refine call_S (n := 1) (As := [.int x]) (rest := [.int (nI c_s)]) hX hB (k_J6_stringSize_0f7a4 κ l (bA κ b_s n_s f_s :: (s_0, .inr (1, [.ref b_s, .int 0, .int ml, .int (nI c_s)])) :: w) x ) yk_J6_stringSize_0f7a4 wm_4_119 wm_4_120 wm_1_26 wm_4_121 ⟨Nat.le_of_ble_eq_true rfl, Nat.le_of_ble_eq_true rfl⟩ ⟨Nat.le_of_ble_eq_true rfl, Nat.le_of_ble_eq_true rfl⟩ rfl hl.1 rfl (Nat.le_of_ble_eq_true rfl) dJ5_append_c97b9_7 (fun o w' H locs hp hB => ?_)
  obtain ⟨z1, rfl, hf2, hw9⟩ := hp
  replace hB : Bd κ A s (bA κ b_s n_s f_s :: (s_0, .inr (1, [.ref b_s, .int 0, .int ml, .int (nI c_s)])) :: w) H locs := by rw [hw9] at hB; exact hB
  refine W.eq (g2 := F0 m 10 ls [.int (nI z1), .int (nI c_s)]) rfl ?_
  refine lv_iadd hx hb dJ5_append_c97b9_10 ?_
  refine eqi (y := nI (c_s + z1)) (nI_add c_s z1) ?_
  refine lv_istore_n (lv' := [(3, .int (nI (c_s + z1))), (2, .int (nI c_s)), (0, .ref s_0), (1, .int x)]) hx hb dJ5_append_c97b9_11 rfl hl (by decide) rfl (fun ls hl => ?_)
  refine lv_aload_n hx hb dJ5_append_c97b9_12 rfl (lv_at hl 2 rfl) ?_
  refine lv_iload_n hx hb dJ5_append_c97b9_13 rfl (lv_at hl 0 rfl) ?_
  have hszb := DSz_b hf2
  refine call_U (n := 1) (k0 := 1) (As := [.int (nI (c_s + z1))]) (rest := []) hX hB (k_J5_ensureCapacityInternal_d00df κ l (w) s_0 b_s n_s c_s ml f_s (nI (c_s + z1)) (c_s + z1) (by omega) (by omega) hft rfl (by omega)) yk_J5_ensureCapacityInternal_d00df wm_4_28 wm_7_186 wm_4_30 (Or.inr wn_4_29) wm_1_17 wm_4_31 ⟨Nat.le_of_ble_eq_true rfl, Nat.le_of_ble_eq_true rfl⟩ ⟨Nat.le_of_ble_eq_true rfl, Nat.le_of_ble_eq_true rfl⟩ rfl rfl rfl rfl hl.1 rfl (Nat.le_of_ble_eq_true rfl) dJ5_append_c97b9_14 (fun o w' H locs hp hB => ?_)
  obtain ⟨q3, n4, F5, rfl, hf6, hf7, hw9⟩ := hp
  replace hB : Bd κ A s (bA κ q3 n4 F5 :: (s_0, .inr (1, [.ref q3, .int 0, .int ml, .int (nI c_s)])) :: w) H locs := by rw [hw9] at hB; exact hB
  refine W.eq (g2 := F0 m 17 ls []) rfl ?_
  refine lv_aload_n hx hb dJ5_append_c97b9_17 rfl (lv_at hl 2 rfl) ?_
  refine call_U (n := 0) (k0 := 1) (As := []) (rest := []) hX hB (k_J5_isLatin1_aae02 κ l (bA κ q3 n4 F5 :: (s_0, .inr (1, [.ref q3, .int 0, .int ml, .int (nI c_s)])) :: w) 1 s_0 q3 c_s ml rfl) yk_J5_isLatin1_aae02 wm_4_59 wm_4_61 wm_4_60 (Or.inl wm_4_62) wm_1_17 wm_4_63 ⟨Nat.le_of_ble_eq_true rfl, Nat.le_of_ble_eq_true rfl⟩ ⟨Nat.le_of_ble_eq_true rfl, Nat.le_of_ble_eq_true rfl⟩ rfl rfl rfl rfl hl.1 rfl (Nat.le_of_ble_eq_true rfl) dJ5_append_c97b9_18 (fun o w' H locs hp hB => ?_)
  obtain ⟨rfl, hw9⟩ := hp
  replace hB : Bd κ A s (bA κ q3 n4 F5 :: (s_0, .inr (1, [.ref q3, .int 0, .int ml, .int (nI c_s)])) :: w) H locs := by rw [hw9] at hB; exact hB
  refine W.eq (g2 := F0 m 21 ls [.int 1]) rfl ?_
  refine lv_if_eq (tgt := 37) hx hb dJ5_append_c97b9_21 (by decide) (fun c8 => False.elim (by revert c8; decide)) (fun _ => ?_)
  refine lv_iload_n hx hb dJ5_append_c97b9_24 rfl (lv_at hl 3 rfl) ?_
  refine lv_iload_n hx hb dJ5_append_c97b9_25 rfl (lv_at hl 0 rfl) ?_
  refine lv_aload_n hx hb dJ5_append_c97b9_26 rfl (lv_at hl 2 rfl) ?_
  refine gfU (k0 := 1) hX hB rfl rfl inJ4 0 (by decide) wm_4_8 rfl rfl dJ5_append_c97b9_27 ?_
  refine call_S (n := 3) (As := [.int x, .int (nI (c_s + z1)), .ref q3]) (rest := []) hX hB (k_J6_getChars_ba4f3 κ l (bA κ q3 n4 F5 :: (s_0, .inr (1, [.ref q3, .int 0, .int ml, .int (nI c_s)])) :: w) x (nI (c_s + z1)) (c_s + z1) 0 q3 n4 F5 rfl rfl (by omega) hf7 ⟨_, hf2, by omega⟩ (by omega)) yk_J6_getChars_ba4f3 wm_4_122 wm_4_123 wm_1_26 wm_4_124 ⟨Nat.le_of_ble_eq_true rfl, Nat.le_of_ble_eq_true rfl⟩ ⟨Nat.le_of_ble_eq_true rfl, Nat.le_of_ble_eq_true rfl⟩ rfl hl.1 rfl (Nat.le_of_ble_eq_true rfl) dJ5_append_c97b9_30 (fun o w' H locs hp hB => ?_)
  obtain ⟨z9, F10, rfl, hf11, hw9⟩ := hp
  replace hB : Bd κ A s (bA κ q3 n4 F10 :: (s_0, .inr (1, [.ref q3, .int 0, .int ml, .int (nI c_s)])) :: w) H locs := by rw [hw9] at hB; exact hB
  refine W.eq (g2 := F0 m 33 ls [.int (nI z9)]) rfl ?_
  refine lv_pop hx hb dJ5_append_c97b9_33 rfl ?_
  refine lv_goto (tgt := 48) hx hb dJ5_append_c97b9_34 (by decide) ?_
  refine lv_aload_n hx hb dJ5_append_c97b9_48 rfl (lv_at hl 2 rfl) ?_
  refine lv_iload_n hx hb dJ5_append_c97b9_49 rfl (lv_at hl 0 rfl) ?_
  refine pfU (ty := .int) (k0 := 1) hX hB rfl rfl inJ4 tyJ4_ok nmJ4 3 (by decide) wm_4_11 rfl rfl rfl rfl rfl (Nat.le_of_ble_eq_true rfl) (w1 := bA κ q3 n4 F10 :: (s_0, .inr (1, [.ref q3, .int 0, .int ml, .int (nI (c_s + z1))])) :: w) rfl dJ5_append_c97b9_50 (fun H locs hB => ?_)
  refine lv_aload_n hx hb dJ5_append_c97b9_53 rfl (lv_at hl 2 rfl) ?_
  rw [← hQ]
  exact end_a hX hB hA3 rfl (Or.inr ⟨_, rfl⟩) ⟨q3, n4, F10, (c_s + z1), rfl, (by omega), hf11, rfl⟩ (Nat.le_of_ble_eq_true rfl) (Nat.le_of_ble_eq_true rfl) dJ5_append_c97b9_54
set_option maxHeartbeats 4000000 in
set_option maxRecDepth 100000 in
theorem k_J4_append_bf812 (κ : Kt) (l : Launch) (w : va_W) (s_0 b_s n_s c_s : Nat) (ml : Int32) (f_s : Nat → Int32) (x : Int32) (hcn : c_s ≤ n_s) (hnb : n_s ≤ 1000) (hft : sb_Fit f_s) (hc3 : c_s ≤ 300) (hn2 : n_s ≤ 2 * c_s + 16) : CM κ l yJ4_append_bf812 cJ4_append_bf812 2 (some (.object "java/lang/StringBuilder")) 5 127 1 820 [.ref s_0, .int x] (bA κ b_s n_s f_s :: (s_0, .inr (1, [.ref b_s, .int 0, .int ml, .int (nI c_s)])) :: w) (fun o w' => ∃ (q1 : Nat) (n1 : Nat) (F : Nat → Int32) (c1 : Nat), o = some (.ref s_0) ∧ (c_s + 1 ≤ n1 ∧ n1 ≤ 1000 ∧ n1 ≤ 2 * c1 + 16 ∧ c_s + 1 ≤ c1 ∧ c1 ≤ c_s + 11 ∧ c1 ≤ n1) ∧ (sb_Fit F) ∧ w' = bA κ q1 n1 F :: (s_0, .inr (1, [.ref q1, .int 0, .int ml, .int (nI c1)])) :: w) := by
  refine CM_begin (plainFor_of_name pn_RJ4) (Nat.le_of_ble_eq_true rfl) ?_
  intro p e s m args below meth c A Q hX hnm hA3 hQ hB ls hl
  have hx := hX.1.1
  have hb := hX.1.2.1
  have hl : lv_has ls 2 [(0, .ref s_0), (1, .int x)] := hl
  refine lv_aload_n hx hb dJ4_append_bf812_0 rfl (lv_at hl 0 rfl) ?_
  refine lv_iload_n hx hb dJ4_append_bf812_1 rfl (lv_at hl 1 rfl) ?_
  refine call_SU (n := 1) (k0 := 1) (As := [.int x]) (rest := []) hX hB (k_J5_append_c97b9 κ l (w) s_0 b_s n_s c_s ml f_s x (by omega) (by omega) hft (by omega) (by omega)) ⟨by decide, by decide +kernel⟩ wm_4_116 wm_7_189 wm_4_20 wm_4_117 wm_1_17 wm_4_118 ⟨Nat.le_of_ble_eq_true rfl, Nat.le_of_ble_eq_true rfl⟩ ⟨Nat.le_of_ble_eq_true rfl, Nat.le_of_ble_eq_true rfl⟩ rfl rfl rfl rfl hl.1 rfl (Nat.le_of_ble_eq_true rfl) dJ4_append_bf812_2 (fun o w' H locs hp hB => ?_)
  obtain ⟨q1, n2, F3, c4, rfl, hf5, hf6, hw9⟩ := hp
  replace hB : Bd κ A s (bA κ q1 n2 F3 :: (s_0, .inr (1, [.ref q1, .int 0, .int ml, .int (nI c4)])) :: w) H locs := by rw [hw9] at hB; exact hB
  refine W.eq (g2 := F0 m 5 ls [.ref s_0]) rfl ?_
  refine lv_pop hx hb dJ4_append_bf812_5 rfl ?_
  refine lv_aload_n hx hb dJ4_append_bf812_6 rfl (lv_at hl 0 rfl) ?_
  rw [← hQ]
  exact end_a hX hB hA3 rfl (Or.inr ⟨_, rfl⟩) ⟨q1, n2, F3, c4, rfl, (by omega), hf6, rfl⟩ (Nat.le_of_ble_eq_true rfl) (Nat.le_of_ble_eq_true rfl) dJ4_append_bf812_7
end
section
-- 83.frame
/-! ===== a contract over more cells than it asks ===== -/
theorem frame_pre {κ : Kt} {av : List Value} {w Wr : va_W} {sz : Nat} {a : Array Value} {s : State} (h : Pm κ av (w ++ Wr) sz a s) : Pm κ av w sz a s := by
  obtain ⟨h1, h2, h3, h4, h5⟩ := h
  have e : ∀ (k : Nat) (q : Nat × va_E), w[k]? = some q → (w ++ Wr)[k]? = some q := fun k q hk => by
    rw [List.getElem?_append_left (List.getElem?_eq_some_iff.mp hk).1]; exact hk
  exact ⟨h1, h2, h3, fun k q hk => h4 k q (e k q hk), fun i j p q hi hj => h5.1 i j p q (e i p hi) (e j q hj), fun k q hk => h5.2 k q (e k q hk)⟩
theorem frame_Ac {w Wr : va_W} {sz q : Nat} (h : Ac w sz q) : Ac (w ++ Wr) sz q := h.elim (fun ⟨e, he⟩ => Or.inl ⟨e, List.mem_append_left _ he⟩) Or.inr
/-- what the rest is, stays -/
theorem frame_rest {κ : Kt} {av : List Value} {w Wr : va_W} {sz : Nat} {a : Array Value} {s : State} (h : Pm κ av (w ++ Wr) sz a s) {k : Nat} {q : Nat × va_E} (hk : Wr[k]? = some q) : q.1 < s.heap.size ∧ ¬ Ac w sz q.1 := by
  obtain ⟨h1, h2, h3, h4, h5⟩ := h
  have ek : (w ++ Wr)[w.length + k]? = some q := by
    rw [List.getElem?_append_right (Nat.le_add_right _ _), Nat.add_sub_cancel_left]; exact hk
  have hl := (h4 _ q ek).lt
  refine ⟨hl, fun z => z.elim (fun hf => ?_) (fun hs => ?_)⟩
  · obtain ⟨i, e, hi⟩ := Fw_at hf
    have hil := (List.getElem?_eq_some_iff.mp hi).1
    have := h5.1 i (w.length + k) (q.1, e) q (by rw [List.getElem?_append_left hil]; exact hi) ek rfl
    omega
  · omega
theorem frame_out {κ : Kt} {av : List Value} {w Wr w1 : va_W} {sz : Nat} {a : Array Value} {s t : State} (h : Pm κ av (w ++ Wr) sz a s) (hF : va_F (Ac w sz) s t) (hP : va_P κ.1 vwCl w1 t.heap) (hD : va_D (Ac w sz) w1) : va_P κ.1 vwCl (w1 ++ Wr) t.heap ∧ va_D (Ac (w ++ Wr) sz) (w1 ++ Wr) := by
  have hr : ∀ (k : Nat) (q : Nat × va_E), Wr[k]? = some q → q.1 < s.heap.size ∧ ¬ Ac w sz q.1 := fun k q hk => frame_rest h hk
  refine ⟨hP.app fun k q hk => ?_, va_D.app (hD.weaken fun k q _ z => frame_Ac z) ⟨fun i j p q hi hj e => ?_, fun k q hk => Or.inl ⟨q.2, List.mem_append_right _ (List.mem_of_getElem? hk)⟩⟩ fun i j p q hi hj e => ?_⟩
  · have ek : (w ++ Wr)[w.length + k]? = some q := by
      rw [List.getElem?_append_right (Nat.le_add_right _ _), Nat.add_sub_cancel_left]; exact hk
    exact (h.2.2.2.1 _ q ek).kept (hF.2 q.1 (hr k q hk).1 (hr k q hk).2)
  · have f : ∀ (k : Nat) (q : Nat × va_E), Wr[k]? = some q → (w ++ Wr)[w.length + k]? = some q := fun k q hk => by
      rw [List.getElem?_append_right (Nat.le_add_right _ _), Nat.add_sub_cancel_left]; exact hk
    have := h.2.2.2.2.1 _ _ p q (f i p hi) (f j q hj) e
    omega
  · have h1 := hD.2 i p hi
    rw [e] at h1
    exact (hr j q hj).2 h1
theorem CM_frame {κ : Kt} {l : Launch} {y : MethodName} {cc : ByteArray} {n : Nat} {ret : Option FieldType} {fr lo mc ms : Nat} {av : List Value} {w : va_W} {post : Option Value → va_W → Prop} (Wr : va_W) (h : CM κ l y cc n ret fr lo mc ms av w post) : CM κ l y cc n ret fr lo mc ms av (w ++ Wr) (fun o w' => ∃ w1, post o w1 ∧ w' = w1 ++ Wr) := by
  intro sz
  refine MetFree.mono (h sz) (fun a s hp => frame_pre hp) (fun _ _ _ _ _ _ => trivial) (fun a st oc t hp hq => ?_)
  obtain ⟨⟨⟨r, w', ho, hpo, hP, hD⟩, hF⟩, L, hE, hL⟩ := hq
  obtain ⟨hP2, hD2⟩ := frame_out hp hF hP hD
  exact ⟨⟨⟨r, w' ++ Wr, ho, ⟨w', hpo, rfl⟩, hP2, hD2⟩, hF.1, fun q h1 h2 => hF.2 q h1 (fun z => h2 (frame_Ac z))⟩, L, hE, fun q hq => frame_Ac (hL q hq)⟩
theorem CX_frame {κ : Kt} {l : Launch} {y : MethodName} {cc : ByteArray} {n : Nat} {ret : Option FieldType} {fr lo mc ms : Nat} {av : List Value} {w : va_W} {post : Option Value → va_W → Prop} {postX : String → va_W → Prop} (Wr : va_W) (h : CX κ l y cc n ret fr lo mc ms av w post postX) : CX κ l y cc n ret fr lo mc ms av (w ++ Wr) (fun o w' => ∃ w1, post o w1 ∧ w' = w1 ++ Wr) (fun E w' => ∃ w1, postX E w1 ∧ w' = w1 ++ Wr) := by
  intro sz
  refine MetFree.mono (h sz) (fun a s hp => frame_pre hp) (fun _ _ _ _ _ _ => trivial) (fun a st oc t hp hq => ?_)
  rcases hq with ⟨⟨⟨r, w', ho, hpo, hP, hD⟩, hF⟩, L, hE, hL⟩ | ⟨q, ho, hT⟩
  · obtain ⟨hP2, hD2⟩ := frame_out hp hF hP hD
    exact Or.inl ⟨⟨⟨r, w' ++ Wr, ho, ⟨w', hpo, rfl⟩, hP2, hD2⟩, hF.1, fun q h1 h2 => hF.2 q h1 (fun z => h2 (frame_Ac z))⟩, L, hE, fun q hq => frame_Ac (hL q hq)⟩
  · refine Or.inr ⟨q, ho, ?_⟩
    obtain ⟨E, ce, L, ⟨⟨w', hpo, hP, hD⟩, hF⟩, t1, t2, t3, t4, t5, tL⟩ := hT
    obtain ⟨hP2, hD2⟩ := frame_out hp hF hP hD
    exact ⟨E, ce, L, ⟨⟨w' ++ Wr, ⟨w', hpo, rfl⟩, hP2, hD2⟩, hF.1, fun q h1 h2 => hF.2 q h1 (fun z => h2 (frame_Ac z))⟩, t1, t2, t3, t4, t5, fun z hz => frame_Ac (tL z hz)⟩
end
section
-- 84.jstr
theorem castB {p : Program} {l : Launch} {e : Env} {R : Room} {s : State} {m : MethodId} {args : Array Value} {below : List Frame} {meth : Method} {c : Code} {H : Heap} {locs : List Loc} {cells slots : Nat} {Q : State → Prop} {κ : Kt} {cc : ByteArray} {nL : Nat} {own : String} {ret : Option FieldType} {A : Nat → Prop} {w : va_W} {pc : Nat} {ls : Array Slot} {rest : List Value} {k0 b n index : Nat} {f : Nat → Int32} (hX : Cx κ p m c cc nL s args own meth ret A) (hB : Bd κ A s w H locs) (hl : Cond.classLink own index "[B" ∈ wAll) (he : w[k0]? = some (bA κ b n f)) (hdg : decode cc pc = .ok (.checkcast index, 3))
    (kk : W p l e R s m args below meth c H locs cells slots Q (F0 m (pc + 3) ls (.ref b :: rest))) : W p l e R s m args below meth c H locs cells slots Q (F0 m pc ls (.ref b :: rest)) :=
  va_castA (nm := "[B") hX.1.1 hX.1.2.1 hX.1.2.2.2.1 (hX.1.2.2.2.2 _ hl) hB.1 k0 he (hX.2.1.1.2 3 _ rfl).2 hdg kk
theorem cloneB {p : Program} {l : Launch} {e : Env} {R : Room} {s : State} {m : MethodId} {args : Array Value} {below : List Frame} {meth : Method} {c : Code} {H : Heap} {locs : List Loc} {cells slots : Nat} {Q : State → Prop} {κ : Kt} {cc : ByteArray} {nL : Nat} {own : String} {ret : Option FieldType} {A : Nat → Prop} {w : va_W} {pc : Nat} {ls : Array Slot} {rest : List Value} {k0 b n mx index : Nat} {f : Nat → Int32} (hX : Cx κ p m c cc nL s args own meth ret A) (hB : Bd κ A s w H locs) (hml : ls.size = nL) (m1 : Cond.methodLink own index ⟨"[B", "clone", "()Ljava/lang/Object;"⟩ ∈ wAll) (m2 : Cond.sameMethod "[B" "java/lang/Object" "clone" "()Ljava/lang/Object;" ∈ wAll) (m3 : Cond.native ⟨"java/lang/Object", "clone", "()Ljava/lang/Object;"⟩ ∈ wNest) (m4 : Cond.instanceMethod ⟨"java/lang/Object", "clone", "()Ljava/lang/Object;"⟩ ∈ wAll) (m5 : Cond.selects "[B" ⟨"[B", "clone", "()Ljava/lang/Object;"⟩ ⟨"java/lang/Object", "clone", "()Ljava/lang/Object;"⟩ ∈ wAll) (m6 : Cond.castable "[B" "java/lang/Cloneable" ∈ wNest) (he : w[k0]? = some (bA κ b n f)) (hf : sb_Fit f) (hmx : n ≤ mx) (hfr : 1 ≤ R.frames) (hlo : (rest.map fun v => v.category).sum + 14 ≤ R.locals) (hcells : cells + 1 ≤ R.cells) (hslots : slots + mx ≤ R.slots) (hdg : decode cc pc = .ok (.invokevirtual index, 3))
    (kk : ∀ (q : Nat) (H1 : Heap), Bd κ A s (bA κ q n f :: w) H1 locs → W p l e R s m args below meth c H1 locs (cells + 1) (slots + mx) Q (F0 m (pc + 3) ls (.ref q :: rest))) : W p l e R s m args below meth c H locs cells slots Q (F0 m pc ls (.ref b :: rest)) := by
  have ht := hX.1.2.2.2.2
  have hnm : s.vm.findClass "[B" = some (κ.2.1 3) := (hX.2.1.1.2 3 _ rfl).2
  refine va_clone (tys := tysK κ) (x := (n, .inl f)) (ty := .byte) hX.1.1 hX.1.2.1 (by rw [hX.1.2.2.1]; exact hml.symm) hX.1.2.2.2.1 (ht _ m1) (ht _ m2) (va_Nw.use rfl (hX.2.1.2.1.use m3)) (ht _ m4) (ht _ m5) (hX.2.1.2.1.use m6) hX.2.1.1 hB.1 hB.2.1 hB.2.2 hX.2.2.2.1 k0 3 he rfl hnm (fun i v hv => ?_) hfr hlo hcells (Nat.le_trans (Nat.add_le_add_left hmx _) hslots) hdg (fun q H1 _ h1 h2 h3 => W.widen (Nat.le_refl _) (Nat.add_le_add_left hmx _) (kk q H1 (Bd_rot ⟨h1, h2, h3⟩)))
  have hi : i < n := by
    have := (Array.getElem?_eq_some_iff.mp hv).1
    have e : (vp_cell (κ.2.1 3) (n, .inl f)).slots.size = n := arrV_size _ _ _
    omega
  have e : (vp_cell (κ.2.1 3) (n, .inl f)).slots[i]? = some (.int (f i)) := arrV_read _ _ hi
  rw [e] at hv
  cases hv
  exact hf i

set_option maxHeartbeats 4000000 in
set_option maxRecDepth 100000 in
theorem k_J7_checkLength_df160 (κ : Kt) (l : Launch) (w : va_W) (xx : Int32) (x : Nat) (xy : Int32) (y : Nat) (hxx : xx = nI x) (hxy : xy = nI y) (hxy0 : x ≤ y) (hy6 : y ≤ 1000) : CM κ l yJ7_checkLength_df160 cJ7_checkLength_df160 2 (none) 0 0 0 0 [.int xx, .int xy] (w) (fun o w' => o = none ∧ w' = w) := by
  subst hxx
  subst hxy
  refine CM_begin (plainFor_of_name pn_RJ7) (Nat.le_of_ble_eq_true rfl) ?_
  intro p e s m args below meth c A Q hX hnm hA3 hQ hB ls hl
  have hx := hX.1.1
  have hb := hX.1.2.1
  have hl : lv_has ls 2 [(0, .int (nI x)), (1, .int (nI y))] := hl
  refine lv_iload_n hx hb dJ7_checkLength_df160_0 rfl (lv_at hl 1 rfl) ?_
  refine lv_iload_n hx hb dJ7_checkLength_df160_1 rfl (lv_at hl 0 rfl) ?_
  refine lv_icmp_ge (tgt := 37) hx hb dJ7_checkLength_df160_2 (by decide) (fun c1 => ?_) (fun c1 => ?_)
  · rw [nleP (a := x) (b := y) (by omega) (by omega)] at c1
    rw [← hQ]
    exact end_v hX hB hA3 rfl ⟨rfl, rfl⟩ (Nat.le_of_ble_eq_true rfl) (Nat.le_of_ble_eq_true rfl) dJ7_checkLength_df160_37
  · rw [nleP (a := x) (b := y) (by omega) (by omega)] at c1
    exact False.elim (by omega)
set_option maxHeartbeats 4000000 in
set_option maxRecDepth 100000 in
theorem k_J7_copyOfRangeByte_39247 (κ : Kt) (l : Launch) (w : va_W) (k_b b_b n_b : Nat) (f_b : Nat → Int32) (xx : Int32) (x : Nat) (xy : Int32) (y : Nat) (h_b : w[k_b]? = some (bA κ b_b n_b f_b)) (hnb : n_b ≤ 1000) (hft : sb_Fit f_b) (hxx : xx = nI x) (hxy : xy = nI y) (hx0 : x = 0) (hy6 : y ≤ n_b) : CM κ l yJ7_copyOfRangeByte_39247 cJ7_copyOfRangeByte_39247 5 (some (.array .byte)) 1 60 1 1000 [.ref b_b, .int xx, .int xy] (w) (fun o w' => ∃ (q1 : Nat) (F : Nat → Int32), o = some (.ref q1) ∧ (sb_Fit F) ∧ w' = bA κ q1 (y - x) F :: w) := by
  subst hxx
  subst hxy
  refine CM_begin (plainFor_of_name pn_RJ7) (Nat.le_of_ble_eq_true rfl) ?_
  intro p e s m args below meth c A Q hX hnm hA3 hQ hB ls hl
  have hx := hX.1.1
  have hb := hX.1.2.1
  have hl : lv_has ls 5 [(0, .ref b_b), (1, .int (nI x)), (2, .int (nI y))] := hl
  refine lv_iload_n hx hb dJ7_copyOfRangeByte_39247_0 rfl (lv_at hl 1 rfl) ?_
  refine lv_iload_n hx hb dJ7_copyOfRangeByte_39247_1 rfl (lv_at hl 2 rfl) ?_
  refine call_S (n := 2) (As := [.int (nI x), .int (nI y)]) (rest := []) hX hB (k_J7_checkLength_df160 κ l (w) (nI x) x (nI y) y rfl rfl (by omega) (by omega)) yk_J7_checkLength_df160 wm_4_179 wm_4_180 wm_1_22 wm_4_181 ⟨Nat.le_of_ble_eq_true rfl, Nat.le_of_ble_eq_true rfl⟩ ⟨Nat.le_of_ble_eq_true rfl, Nat.le_of_ble_eq_true rfl⟩ rfl hl.1 rfl (Nat.le_of_ble_eq_true rfl) dJ7_copyOfRangeByte_39247_2 (fun o w' H locs hp hB => ?_)
  obtain ⟨rfl, hw9⟩ := hp
  replace hB : Bd κ A s (w) H locs := by rw [hw9] at hB; exact hB
  refine W.eq (g2 := F0 m 5 ls []) rfl ?_
  refine lv_iload_n hx hb dJ7_copyOfRangeByte_39247_5 rfl (lv_at hl 2 rfl) ?_
  refine lv_iload_n hx hb dJ7_copyOfRangeByte_39247_6 rfl (lv_at hl 1 rfl) ?_
  refine lv_isub hx hb dJ7_copyOfRangeByte_39247_7 ?_
  refine eqi (y := nI (y - x)) (nI_sub (a := y) (b := x) (by omega)) ?_
  refine lv_istore_n (lv' := [(3, .int (nI (y - x))), (0, .ref b_b), (1, .int (nI x)), (2, .int (nI y))]) hx hb dJ7_copyOfRangeByte_39247_8 rfl hl (by decide) rfl (fun ls hl => ?_)
  refine lv_iload_n hx hb dJ7_copyOfRangeByte_39247_9 rfl (lv_at hl 0 rfl) ?_
  refine newA (t0 := 3) (ty := .byte) (N := y - x) (mx := 1000) (a0 := ((y - x), .inl (fun _ => 0))) hX hB rfl rfl (fun h => h) wm_2_236 (fun _ => rfl) (nI_pos (n := y - x) (by omega)) (nI_clamp (n := y - x) (by omega)) (by omega) (Nat.le_of_ble_eq_true rfl) (Nat.le_of_ble_eq_true rfl) (Nat.le_of_ble_eq_true rfl) dJ7_copyOfRangeByte_39247_10 (fun q1 H hB => ?_)
  refine lv_astore (lv' := [(4, .ref q1), (3, .int (nI (y - x))), (0, .ref b_b), (1, .int (nI x)), (2, .int (nI y))]) hx hb dJ7_copyOfRangeByte_39247_12 hl (by decide) rfl (fun ls hl => ?_)
  refine lv_aload_n hx hb dJ7_copyOfRangeByte_39247_14 rfl (lv_at hl 2 rfl) ?_
  refine lv_iload_n hx hb dJ7_copyOfRangeByte_39247_15 rfl (lv_at hl 3 rfl) ?_
  refine lv_aload hx hb dJ7_copyOfRangeByte_39247_16 (lv_at hl 0 rfl) ?_
  refine lv_iconst (v := 0) hx hb dJ7_copyOfRangeByte_39247_18 (by decide) ?_
  refine lv_aload_n hx hb dJ7_copyOfRangeByte_39247_19 rfl (lv_at hl 2 rfl) ?_
  refine alenB (k0 := k_b + 1) (v := nI (n_b)) hX hB h_b rfl dJ7_copyOfRangeByte_39247_20 ?_
  refine lv_iload_n hx hb dJ7_copyOfRangeByte_39247_21 rfl (lv_at hl 3 rfl) ?_
  refine lv_isub hx hb dJ7_copyOfRangeByte_39247_22 ?_
  refine eqi (y := nI (n_b - x)) (nI_sub (a := n_b) (b := x) (by omega)) ?_
  refine lv_iload_n hx hb dJ7_copyOfRangeByte_39247_23 rfl (lv_at hl 1 rfl) ?_
  refine va_mmin hx hb (by rw [hX.1.2.2.1]; exact hl.1.symm) hX.1.2.2.2.1 (hX.1.2.2.2.2 _ wm_4_55) (hX.1.2.2.2.2 _ wm_1_217) (hX.1.2.2.2.2 _ wm_1_14) (hX.1.2.2.2.2 _ wm_1_218) (Nat.le_of_ble_eq_true rfl) (Nat.le_of_ble_eq_true rfl) (Nat.le_of_ble_eq_true rfl) (Nat.le_of_ble_eq_true rfl) dJ7_copyOfRangeByte_39247_24 ?_
  refine lv_topi (fun t2 et2 => ?_)
  refine eqi (y := nI (min (n_b - x) (y - x))) (et2.trans (nmin (by omega) (by omega))) ?_
  refine copyB (k0 := k_b + 1) (k1 := 0) (sp := x) (dp := 0) (n := min (n_b - x) (y - x)) hX hB hl.1 wm_4_56 wn_4_58 wm_4_57 wm_1_23 h_b rfl (by omega) (by omega) (by omega) (by omega) hft (Nat.le_of_ble_eq_true rfl) (Nat.le_of_ble_eq_true rfl) (w1 := bA κ q1 (y - x) (va_cpy f_b (fun _ => 0) x 0 (min (n_b - x) (y - x))) :: w) rfl dJ7_copyOfRangeByte_39247_27 (fun H locs hB => ?_)
  refine lv_aload hx hb dJ7_copyOfRangeByte_39247_30 (lv_at hl 0 rfl) ?_
  rw [← hQ]
  exact end_aA hX hB hA3 rfl (Or.inr ⟨_, rfl⟩) ⟨q1, (va_cpy f_b (fun _ => 0) x 0 (min (n_b - x) (y - x))), rfl, (sb_fitC hft sb_fit0), rfl⟩ (Nat.le_of_ble_eq_true rfl) (Nat.le_of_ble_eq_true rfl) dJ7_copyOfRangeByte_39247_32
set_option maxHeartbeats 4000000 in
set_option maxRecDepth 100000 in
theorem k_J7_copyOfRange_39247 (κ : Kt) (l : Launch) (w : va_W) (k_b b_b n_b : Nat) (f_b : Nat → Int32) (xx : Int32) (x : Nat) (xy : Int32) (y : Nat) (h_b : w[k_b]? = some (bA κ b_b n_b f_b)) (hnb : n_b ≤ 1000) (hft : sb_Fit f_b) (hxx : xx = nI x) (hxy : xy = nI y) (hx0 : x = 0) (hy6 : y ≤ n_b) : CM κ l yJ7_copyOfRange_39247 cJ7_copyOfRange_39247 3 (some (.array .byte)) 2 84 1 1000 [.ref b_b, .int xx, .int xy] (w) (fun o w' => ∃ (q1 : Nat) (n1 : Nat) (F : Nat → Int32), o = some (.ref q1) ∧ (sb_Fit F) ∧ w' = bA κ q1 n1 F :: w) := by
  subst hxx
  subst hxy
  refine CM_begin (plainFor_of_name pn_RJ7) (Nat.le_of_ble_eq_true rfl) ?_
  intro p e s m args below meth c A Q hX hnm hA3 hQ hB ls hl
  have hx := hX.1.1
  have hb := hX.1.2.1
  have hl : lv_has ls 3 [(0, .ref b_b), (1, .int (nI x)), (2, .int (nI y))] := hl
  refine lv_iload_n hx hb dJ7_copyOfRange_39247_0 rfl (lv_at hl 1 rfl) ?_
  refine lv_if_ne (tgt := 10) hx hb dJ7_copyOfRange_39247_1 (by decide) (fun c1 => ?_) (fun c1 => ?_)
  · replace c1 : ¬ nI x = nI 0 := c1
    rw [neqP (by omega) (by omega)] at c1
    refine lv_aload_n hx hb dJ7_copyOfRange_39247_10 rfl (lv_at hl 0 rfl) ?_
    refine lv_iload_n hx hb dJ7_copyOfRange_39247_11 rfl (lv_at hl 1 rfl) ?_
    refine lv_iload_n hx hb dJ7_copyOfRange_39247_12 rfl (lv_at hl 2 rfl) ?_
    refine call_S (n := 3) (As := [.ref b_b, .int (nI x), .int (nI y)]) (rest := []) hX hB (k_J7_copyOfRangeByte_39247 κ l (w) k_b b_b n_b f_b (nI x) x (nI y) y h_b (by omega) hft rfl rfl (by omega) (by omega)) yk_J7_copyOfRangeByte_39247 wm_4_176 wm_4_177 wm_1_22 wm_4_178 ⟨Nat.le_of_ble_eq_true rfl, Nat.le_of_ble_eq_true rfl⟩ ⟨Nat.le_of_ble_eq_true rfl, Nat.le_of_ble_eq_true rfl⟩ rfl hl.1 rfl (Nat.le_of_ble_eq_true rfl) dJ7_copyOfRange_39247_13 (fun o w' H locs hp hB => ?_)
    obtain ⟨q2, F3, rfl, hf4, hw9⟩ := hp
    replace hB : Bd κ A s (bA κ q2 (y - x) F3 :: w) H locs := by rw [hw9] at hB; exact hB
    refine W.eq (g2 := F0 m 16 ls [.ref q2]) rfl ?_
    rw [← hQ]
    exact end_aA hX hB hA3 rfl (Or.inr ⟨_, rfl⟩) ⟨q2, (y - x), F3, rfl, hf4, rfl⟩ (Nat.le_of_ble_eq_true rfl) (Nat.le_of_ble_eq_true rfl) dJ7_copyOfRange_39247_16
  · replace c1 : nI x = nI 0 := c1
    rw [neqP (by omega) (by omega)] at c1
    refine lv_iload_n hx hb dJ7_copyOfRange_39247_4 rfl (lv_at hl 2 rfl) ?_
    refine lv_aload_n hx hb dJ7_copyOfRange_39247_5 rfl (lv_at hl 0 rfl) ?_
    refine alenB (k0 := k_b) (v := nI (n_b)) hX hB h_b rfl dJ7_copyOfRange_39247_6 ?_
    refine lv_icmp_eq (tgt := 17) hx hb dJ7_copyOfRange_39247_7 (by decide) (fun c5 => ?_) (fun c5 => ?_)
    · rw [neqP (a := y) (b := n_b) (by omega) (by omega)] at c5
      refine lv_aload_n hx hb dJ7_copyOfRange_39247_17 rfl (lv_at hl 0 rfl) ?_
      refine cloneB (k0 := k_b) (mx := 1000) hX hB hl.1 wm_4_48 wm_4_49 wn_4_50 wm_4_51 wm_4_52 wn_4_53 h_b hft (by omega) (Nat.le_of_ble_eq_true rfl) (Nat.le_of_ble_eq_true rfl) (Nat.le_of_ble_eq_true rfl) (Nat.le_of_ble_eq_true rfl) dJ7_copyOfRange_39247_18 (fun q6 H hB => ?_)
      refine castB (k0 := 0) hX hB wm_4_54 rfl dJ7_copyOfRange_39247_21 ?_
      rw [← hQ]
      exact end_aA hX hB hA3 rfl (Or.inr ⟨_, rfl⟩) ⟨q6, n_b, f_b, rfl, hft, rfl⟩ (Nat.le_of_ble_eq_true rfl) (Nat.le_of_ble_eq_true rfl) dJ7_copyOfRange_39247_24
    · rw [neqP (a := y) (b := n_b) (by omega) (by omega)] at c5
      refine lv_aload_n hx hb dJ7_copyOfRange_39247_10 rfl (lv_at hl 0 rfl) ?_
      refine lv_iload_n hx hb dJ7_copyOfRange_39247_11 rfl (lv_at hl 1 rfl) ?_
      refine lv_iload_n hx hb dJ7_copyOfRange_39247_12 rfl (lv_at hl 2 rfl) ?_
      refine call_S (n := 3) (As := [.ref b_b, .int (nI x), .int (nI y)]) (rest := []) hX hB (k_J7_copyOfRangeByte_39247 κ l (w) k_b b_b n_b f_b (nI x) x (nI y) y h_b (by omega) hft rfl rfl (by omega) (by omega)) yk_J7_copyOfRangeByte_39247 wm_4_176 wm_4_177 wm_1_22 wm_4_178 ⟨Nat.le_of_ble_eq_true rfl, Nat.le_of_ble_eq_true rfl⟩ ⟨Nat.le_of_ble_eq_true rfl, Nat.le_of_ble_eq_true rfl⟩ rfl hl.1 rfl (Nat.le_of_ble_eq_true rfl) dJ7_copyOfRange_39247_13 (fun o w' H locs hp hB => ?_)
      obtain ⟨q7, F8, rfl, hf9, hw9⟩ := hp
      replace hB : Bd κ A s (bA κ q7 (y - x) F8 :: w) H locs := by rw [hw9] at hB; exact hB
      refine W.eq (g2 := F0 m 16 ls [.ref q7]) rfl ?_
      rw [← hQ]
      exact end_aA hX hB hA3 rfl (Or.inr ⟨_, rfl⟩) ⟨q7, (y - x), F8, rfl, hf9, rfl⟩ (Nat.le_of_ble_eq_true rfl) (Nat.le_of_ble_eq_true rfl) dJ7_copyOfRange_39247_16
set_option maxHeartbeats 4000000 in
set_option maxRecDepth 100000 in
theorem k_J0_init_db425 (κ : Kt) (l : Launch) (w : va_W) (s_0 k1 k2 g_s b_s n_s c_s : Nat) (ml : Int32) (f_s : Nat → Int32) (h1 : w[k1]? = some (g_s, .inr (1, [.ref b_s, .int 0, .int ml, .int (nI c_s)]))) (h2 : w[k2]? = some (bA κ b_s n_s f_s)) (hcn : c_s ≤ n_s) (hnb : n_s ≤ 1000) (hft : sb_Fit f_s) : CM κ l yJ0_init_db425 cJ0_init_db425 5 (none) 3 106 1 1000 [.ref s_0, .ref g_s, .null] ((s_0, .inr (0, [.null, .int 0, .int 0, .int 0])) :: w) (fun o w' => o = none ∧ w' = w) := by
  refine CM_begin (plainFor_of_name pn_RJ0) (Nat.le_of_ble_eq_true rfl) ?_
  intro p e s m args below meth c A Q hX hnm hA3 hQ hB ls hl
  have hx := hX.1.1
  have hb := hX.1.2.1
  have hl : lv_has ls 5 [(0, .ref s_0), (1, .ref g_s), (2, .null)] := hl
  refine lv_aload_n hx hb dJ0_init_db425_0 rfl (lv_at hl 0 rfl) ?_
  refine W.objInit hx hb hX.1.2.2.2.1 (hX.1.2.2.2.2 _ wm_4_158) (hX.1.2.2.2.2 _ wm_1_36) (hX.1.2.2.2.2 _ wm_1_37) rfl (by rw [hX.1.2.2.1]; exact hl.1) rfl dJ0_init_db425_1 (Nat.le_of_ble_eq_true rfl) (Nat.le_of_ble_eq_true rfl) ?_
  refine W.eq (g2 := F0 m 4 ls []) rfl ?_
  refine lv_aload_n hx hb dJ0_init_db425_4 rfl (lv_at hl 1 rfl) ?_
  refine call_U (n := 0) (k0 := k1 + 1) (As := []) (rest := []) hX hB (k_J5_getValue_6d5f1 κ l ((s_0, .inr (0, [.null, .int 0, .int 0, .int 0])) :: w) (k1 + 1) g_s b_s c_s ml h1) yk_J5_getValue_6d5f1 wm_4_159 wm_4_161 wm_4_160 (Or.inl wm_4_162) wm_1_17 wm_4_163 ⟨Nat.le_of_ble_eq_true rfl, Nat.le_of_ble_eq_true rfl⟩ ⟨Nat.le_of_ble_eq_true rfl, Nat.le_of_ble_eq_true rfl⟩ h1 rfl rfl rfl hl.1 rfl (Nat.le_of_ble_eq_true rfl) dJ0_init_db425_5 (fun o w' H locs hp hB => ?_)
  obtain ⟨rfl, hw9⟩ := hp
  replace hB : Bd κ A s ((s_0, .inr (0, [.null, .int 0, .int 0, .int 0])) :: w) H locs := by rw [hw9] at hB; exact hB
  refine W.eq (g2 := F0 m 8 ls [.ref b_s]) rfl ?_
  refine lv_astore_n (lv' := [(3, .ref b_s), (0, .ref s_0), (1, .ref g_s), (2, .null)]) hx hb dJ0_init_db425_8 rfl hl (by decide) rfl (fun ls hl => ?_)
  refine lv_aload_n hx hb dJ0_init_db425_9 rfl (lv_at hl 2 rfl) ?_
  refine call_O (x := yJ5_length_8abf5) (C := "java/lang/StringBuilder") (n := 0) (k0 := k1 + 1) (As := []) (rest := []) hX hB (k_J4_length_8abf5 κ l ((s_0, .inr (0, [.null, .int 0, .int 0, .int 0])) :: w) (k1 + 1) g_s b_s c_s ml h1) ⟨by decide, by decide, by decide +kernel⟩ rfl wm_4_164 wm_4_166 wm_4_165 wm_4_171 wm_4_167 wm_4_168 wm_1_18 wm_4_169 ⟨Nat.le_of_ble_eq_true rfl, Nat.le_of_ble_eq_true rfl⟩ ⟨Nat.le_of_ble_eq_true rfl, Nat.le_of_ble_eq_true rfl⟩ h1 rfl rfl rfl hl.1 rfl (Nat.le_of_ble_eq_true rfl) dJ0_init_db425_10 (fun o w' H locs hp hB => ?_)
  obtain ⟨rfl, hw9⟩ := hp
  replace hB : Bd κ A s ((s_0, .inr (0, [.null, .int 0, .int 0, .int 0])) :: w) H locs := by rw [hw9] at hB; exact hB
  refine W.eq (g2 := F0 m 13 ls [.int (nI c_s)]) rfl ?_
  refine lv_istore (lv' := [(4, .int (nI c_s)), (3, .ref b_s), (0, .ref s_0), (1, .ref g_s), (2, .null)]) hx hb dJ0_init_db425_13 hl (by decide) rfl (fun ls hl => ?_)
  refine lv_aload_n hx hb dJ0_init_db425_15 rfl (lv_at hl 3 rfl) ?_
  refine call_U (n := 0) (k0 := k1 + 1) (As := []) (rest := []) hX hB (k_J5_isLatin1_aae02 κ l ((s_0, .inr (0, [.null, .int 0, .int 0, .int 0])) :: w) (k1 + 1) g_s b_s c_s ml h1) yk_J5_isLatin1_aae02 wm_4_172 wm_4_61 wm_4_60 (Or.inl wm_4_62) wm_1_17 wm_4_63 ⟨Nat.le_of_ble_eq_true rfl, Nat.le_of_ble_eq_true rfl⟩ ⟨Nat.le_of_ble_eq_true rfl, Nat.le_of_ble_eq_true rfl⟩ h1 rfl rfl rfl hl.1 rfl (Nat.le_of_ble_eq_true rfl) dJ0_init_db425_16 (fun o w' H locs hp hB => ?_)
  obtain ⟨rfl, hw9⟩ := hp
  replace hB : Bd κ A s ((s_0, .inr (0, [.null, .int 0, .int 0, .int 0])) :: w) H locs := by rw [hw9] at hB; exact hB
  refine W.eq (g2 := F0 m 19 ls [.int 1]) rfl ?_
  refine lv_if_eq (tgt := 41) hx hb dJ0_init_db425_19 (by decide) (fun c1 => False.elim (by revert c1; decide)) (fun _ => ?_)
  refine lv_aload_n hx hb dJ0_init_db425_22 rfl (lv_at hl 2 rfl) ?_
  refine lv_iconst (v := 0) hx hb dJ0_init_db425_23 (by decide) ?_
  refine pfF (ty := .byte) (k0 := 0) hX hnm hB rfl rfl inJ0 tyJ0_ok nmJ0 1 (by decide) wm_5_1 rfl rfl rfl rfl rfl rfl (Nat.le_of_ble_eq_true rfl) (w1 := (s_0, .inr (0, [.null, .int 0, .int 0, .int 0])) :: w) rfl dJ0_init_db425_24 (fun H locs hB => ?_)
  refine lv_aload_n hx hb dJ0_init_db425_27 rfl (lv_at hl 2 rfl) ?_
  refine lv_aload_n hx hb dJ0_init_db425_28 rfl (lv_at hl 1 rfl) ?_
  refine lv_iconst (v := 0) hx hb dJ0_init_db425_29 (by decide) ?_
  refine lv_iload hx hb dJ0_init_db425_30 (lv_at hl 0 rfl) ?_
  refine call_S (n := 3) (As := [.ref b_s, .int 0, .int (nI c_s)]) (rest := [.ref s_0]) hX hB (k_J7_copyOfRange_39247 κ l ((s_0, .inr (0, [.null, .int 0, .int 0, .int 0])) :: w) (k2 + 1) b_s n_s f_s 0 0 (nI c_s) c_s h2 (by omega) hft rfl rfl (by omega) (by omega)) yk_J7_copyOfRange_39247 wm_4_173 wm_4_174 wm_1_22 wm_4_175 ⟨Nat.le_of_ble_eq_true rfl, Nat.le_of_ble_eq_true rfl⟩ ⟨Nat.le_of_ble_eq_true rfl, Nat.le_of_ble_eq_true rfl⟩ rfl hl.1 rfl (Nat.le_of_ble_eq_true rfl) dJ0_init_db425_32 (fun o w' H locs hp hB => ?_)
  obtain ⟨q2, n3, F4, rfl, hf5, hw9⟩ := hp
  replace hB : Bd κ A s (bA κ q2 n3 F4 :: (s_0, .inr (0, [.null, .int 0, .int 0, .int 0])) :: w) H locs := by rw [hw9] at hB; exact hB
  refine W.eq (g2 := F0 m 35 ls [.ref q2, .ref s_0]) rfl ?_
  refine pfF (ty := .array .byte) (k0 := 1) hX hnm hB rfl rfl inJ0 tyJ0_ok nmJ0 0 (by decide) wm_5_0 rfl rfl rfl rfl rfl rfl (Nat.le_of_ble_eq_true rfl) (w1 := bA κ q2 n3 F4 :: (s_0, .inr (0, [.ref q2, .int 0, .int 0, .int 0])) :: w) rfl dJ0_init_db425_35 (fun H locs hB => ?_)
  refine lv_goto (tgt := 97) hx hb dJ0_init_db425_38 (by decide) ?_
  replace hB : Bd κ A s (bA κ q2 n3 F4 :: w) H locs := Bd_del 1 hB
  replace hB : Bd κ A s (w) H locs := Bd_del 0 hB
  rw [← hQ]
  exact end_v hX hB hA3 rfl ⟨rfl, rfl⟩ (Nat.le_of_ble_eq_true rfl) (Nat.le_of_ble_eq_true rfl) dJ0_init_db425_97
set_option maxHeartbeats 4000000 in
set_option maxRecDepth 100000 in
theorem k_J0_init_81219 (κ : Kt) (l : Launch) (w : va_W) (s_0 k1 k2 g_s b_s n_s c_s : Nat) (ml : Int32) (f_s : Nat → Int32) (h1 : w[k1]? = some (g_s, .inr (1, [.ref b_s, .int 0, .int ml, .int (nI c_s)]))) (h2 : w[k2]? = some (bA κ b_s n_s f_s)) (hcn : c_s ≤ n_s) (hnb : n_s ≤ 1000) (hft : sb_Fit f_s) : CM κ l yJ0_init_81219 cJ0_init_81219 2 (none) 4 130 1 1000 [.ref s_0, .ref g_s] ((s_0, .inr (0, [.null, .int 0, .int 0, .int 0])) :: w) (fun o w' => o = none ∧ w' = w) := by
  refine CM_begin (plainFor_of_name pn_RJ0) (Nat.le_of_ble_eq_true rfl) ?_
  intro p e s m args below meth c A Q hX hnm hA3 hQ hB ls hl
  have hx := hX.1.1
  have hb := hX.1.2.1
  have hl : lv_has ls 2 [(0, .ref s_0), (1, .ref g_s)] := hl
  refine lv_aload_n hx hb dJ0_init_81219_0 rfl (lv_at hl 0 rfl) ?_
  refine lv_aload_n hx hb dJ0_init_81219_1 rfl (lv_at hl 1 rfl) ?_
  refine lv_null hx hb dJ0_init_81219_2 ?_
  refine call_I (n := 2) (As := [.ref g_s, .null]) (rest := []) hX hB (k_J0_init_db425 κ l (w) s_0 k1 k2 g_s b_s n_s c_s ml f_s h1 h2 (by omega) (by omega) hft) yk_J0_init_db425 rfl wm_4_155 wm_4_156 wm_1_19 wm_4_157 ⟨Nat.le_of_ble_eq_true rfl, Nat.le_of_ble_eq_true rfl⟩ ⟨Nat.le_of_ble_eq_true rfl, Nat.le_of_ble_eq_true rfl⟩ rfl hl.1 rfl (Nat.le_of_ble_eq_true rfl) dJ0_init_81219_3 (fun o w' H locs hp hB => ?_)
  obtain ⟨rfl, hw9⟩ := hp
  replace hB : Bd κ A s (w) H locs := by rw [hw9] at hB; exact hB
  refine W.eq (g2 := F0 m 6 ls []) rfl ?_
  rw [← hQ]
  exact end_v hX hB hA3 rfl ⟨rfl, rfl⟩ (Nat.le_of_ble_eq_true rfl) (Nat.le_of_ble_eq_true rfl) dJ0_init_81219_6
set_option maxHeartbeats 4000000 in
set_option maxRecDepth 100000 in
theorem k_J4_toString_0e30d (κ : Kt) (l : Launch) (w : va_W) (s_0 b_s n_s c_s : Nat) (ml : Int32) (f_s : Nat → Int32) (hcn : c_s ≤ n_s) (hnb : n_s ≤ 1000) (hft : sb_Fit f_s) : CM κ l yJ4_toString_0e30d cJ4_toString_0e30d 1 (some (.object "java/lang/String")) 5 151 2 1004 [.ref s_0] (bA κ b_s n_s f_s :: (s_0, .inr (1, [.ref b_s, .int 0, .int ml, .int (nI c_s)])) :: w) (fun o w' => ∃ (q1 : Nat), o = some (.ref q1) ∧ w' = bA κ b_s n_s f_s :: (s_0, .inr (1, [.ref b_s, .int 0, .int ml, .int (nI c_s)])) :: w) := by
  refine CM_begin (plainFor_of_name pn_RJ4) (Nat.le_of_ble_eq_true rfl) ?_
  intro p e s m args below meth c A Q hX hnm hA3 hQ hB ls hl
  have hx := hX.1.1
  have hb := hX.1.2.1
  have hl : lv_has ls 1 [(0, .ref s_0)] := hl
  refine newO (fs := [.null, .int 0, .int 0, .int 0]) hX hB (ci := 0) rfl inJ0 tyJ0_ok wm_4_150 wm_4_151 wm_1_19 df0 (Nat.le_of_ble_eq_true rfl) (Nat.le_of_ble_eq_true rfl) dJ4_toString_0e30d_0 (fun q1 H hB => ?_)
  refine lv_dup hx hb dJ4_toString_0e30d_3 rfl ?_
  refine lv_aload_n hx hb dJ4_toString_0e30d_4 rfl (lv_at hl 0 rfl) ?_
  refine call_I (n := 1) (As := [.ref s_0]) (rest := [.ref q1]) hX hB (k_J0_init_81219 κ l (bA κ b_s n_s f_s :: (s_0, .inr (1, [.ref b_s, .int 0, .int ml, .int (nI c_s)])) :: w) q1 1 0 s_0 b_s n_s c_s ml f_s rfl rfl (by omega) (by omega) hft) yk_J0_init_81219 rfl wm_4_152 wm_4_153 wm_1_19 wm_4_154 ⟨Nat.le_of_ble_eq_true rfl, Nat.le_of_ble_eq_true rfl⟩ ⟨Nat.le_of_ble_eq_true rfl, Nat.le_of_ble_eq_true rfl⟩ rfl hl.1 rfl (Nat.le_of_ble_eq_true rfl) dJ4_toString_0e30d_5 (fun o w' H locs hp hB => ?_)
  obtain ⟨rfl, hw9⟩ := hp
  replace hB : Bd κ A s (bA κ b_s n_s f_s :: (s_0, .inr (1, [.ref b_s, .int 0, .int ml, .int (nI c_s)])) :: w) H locs := by rw [hw9] at hB; exact hB
  refine W.eq (g2 := F0 m 8 ls [.ref q1]) rfl ?_
  rw [← hQ]
  exact end_a hX hB hA3 rfl (Or.inr ⟨_, rfl⟩) ⟨q1, rfl, rfl⟩ (Nat.le_of_ble_eq_true rfl) (Nat.le_of_ble_eq_true rfl) dJ4_toString_0e30d_8
set_option maxHeartbeats 4000000 in
set_option maxRecDepth 100000 in
theorem k_J5_init_d00df (κ : Kt) (l : Launch) (w : va_W) (s_0 : Nat) (xn0 : Int32) (n0 : Nat) (hxn0 : xn0 = nI n0) (hn0 : n0 ≤ 1000) : CM κ l yJ5_init_d00df cJ5_init_d00df 2 (none) 1 20 1 1000 [.ref s_0, .int xn0] ((s_0, .inr (1, [.null, .int 0, .int 0, .int 0])) :: w) (fun o w' => ∃ (b_n : Nat), o = none ∧ w' = bA κ b_n n0 (fun _ => 0) :: (s_0, .inr (1, [.ref b_n, .int 0, .int 0, .int 0])) :: w) := by
  subst hxn0
  refine CM_begin (plainFor_of_name pn_RJ5) (Nat.le_of_ble_eq_true rfl) ?_
  intro p e s m args below meth c A Q hX hnm hA3 hQ hB ls hl
  have hx := hX.1.1
  have hb := hX.1.2.1
  have hl : lv_has ls 2 [(0, .ref s_0), (1, .int (nI n0))] := hl
  refine lv_aload_n hx hb dJ5_init_d00df_0 rfl (lv_at hl 0 rfl) ?_
  refine W.objInit hx hb hX.1.2.2.2.1 (hX.1.2.2.2.2 _ wm_3_238) (hX.1.2.2.2.2 _ wm_1_36) (hX.1.2.2.2.2 _ wm_1_37) rfl (by rw [hX.1.2.2.1]; exact hl.1) rfl dJ5_init_d00df_1 (Nat.le_of_ble_eq_true rfl) (Nat.le_of_ble_eq_true rfl) ?_
  refine W.eq (g2 := F0 m 4 ls []) rfl ?_
  refine gsv hX hB hX.2.1.2.2.1.1.2.2.1 wm_3_239 dJ5_init_d00df_4 ?_
  refine lv_if_eq (tgt := 25) hx hb dJ5_init_d00df_7 (by decide) (fun c1 => False.elim (by revert c1; decide)) (fun _ => ?_)
  refine lv_aload_n hx hb dJ5_init_d00df_10 rfl (lv_at hl 0 rfl) ?_
  refine lv_iload_n hx hb dJ5_init_d00df_11 rfl (lv_at hl 1 rfl) ?_
  refine newA (t0 := 3) (ty := .byte) (N := n0) (mx := 1000) (a0 := (n0, .inl (fun _ => 0))) hX hB rfl rfl (fun h => h) wm_2_236 (fun _ => rfl) (nI_pos (n := n0) (by omega)) (nI_clamp (n := n0) (by omega)) (by omega) (Nat.le_of_ble_eq_true rfl) (Nat.le_of_ble_eq_true rfl) (Nat.le_of_ble_eq_true rfl) dJ5_init_d00df_12 (fun q2 H hB => ?_)
  refine pfU (ty := .array .byte) (k0 := 1) hX hB rfl rfl inJ4 tyJ4_ok nmJ4 0 (by decide) wm_4_8 rfl rfl rfl rfl rfl (Nat.le_of_ble_eq_true rfl) (w1 := bA κ q2 n0 (fun _ => 0) :: (s_0, .inr (1, [.ref q2, .int 0, .int 0, .int 0])) :: w) rfl dJ5_init_d00df_14 (fun H locs hB => ?_)
  refine lv_aload_n hx hb dJ5_init_d00df_17 rfl (lv_at hl 0 rfl) ?_
  refine lv_iconst (v := 0) hx hb dJ5_init_d00df_18 (by decide) ?_
  refine pfU (ty := .byte) (k0 := 1) hX hB rfl rfl inJ4 tyJ4_ok nmJ4 1 (by decide) wm_4_9 rfl rfl rfl rfl rfl (Nat.le_of_ble_eq_true rfl) (w1 := bA κ q2 n0 (fun _ => 0) :: (s_0, .inr (1, [.ref q2, .int 0, .int 0, .int 0])) :: w) rfl dJ5_init_d00df_19 (fun H locs hB => ?_)
  refine lv_goto (tgt := 38) hx hb dJ5_init_d00df_22 (by decide) ?_
  rw [← hQ]
  exact end_v hX hB hA3 rfl ⟨q2, rfl, rfl⟩ (Nat.le_of_ble_eq_true rfl) (Nat.le_of_ble_eq_true rfl) dJ5_init_d00df_38
set_option maxHeartbeats 4000000 in
set_option maxRecDepth 100000 in
theorem k_J4_init_da8c8 (κ : Kt) (l : Launch) (w : va_W) (s_0 : Nat)  : CM κ l yJ4_init_da8c8 cJ4_init_da8c8 1 (none) 2 41 1 1000 [.ref s_0] ((s_0, .inr (1, [.null, .int 0, .int 0, .int 0])) :: w) (fun o w' => ∃ (b_n : Nat), o = none ∧ w' = bA κ b_n 16 (fun _ => 0) :: (s_0, .inr (1, [.ref b_n, .int 0, .int 0, .int 0])) :: w) := by
  refine CM_begin (plainFor_of_name pn_RJ4) (Nat.le_of_ble_eq_true rfl) ?_
  intro p e s m args below meth c A Q hX hnm hA3 hQ hB ls hl
  have hx := hX.1.1
  have hb := hX.1.2.1
  have hl : lv_has ls 1 [(0, .ref s_0)] := hl
  refine lv_aload_n hx hb dJ4_init_da8c8_0 rfl (lv_at hl 0 rfl) ?_
  refine lv_bipush (v := 16) hx hb dJ4_init_da8c8_1 (by decide) ?_
  refine call_I (n := 1) (As := [.int 16]) (rest := []) hX hB (k_J5_init_d00df κ l (w) s_0 16 16 rfl (by omega)) yk_J5_init_d00df rfl wm_3_235 wm_3_236 wm_1_17 wm_3_237 ⟨Nat.le_of_ble_eq_true rfl, Nat.le_of_ble_eq_true rfl⟩ ⟨Nat.le_of_ble_eq_true rfl, Nat.le_of_ble_eq_true rfl⟩ rfl hl.1 rfl (Nat.le_of_ble_eq_true rfl) dJ4_init_da8c8_3 (fun o w' H locs hp hB => ?_)
  obtain ⟨b1, rfl, hw9⟩ := hp
  replace hB : Bd κ A s (bA κ b1 16 (fun _ => 0) :: (s_0, .inr (1, [.ref b1, .int 0, .int 0, .int 0])) :: w) H locs := by rw [hw9] at hB; exact hB
  refine W.eq (g2 := F0 m 6 ls []) rfl ?_
  rw [← hQ]
  exact end_v hX hB hA3 rfl ⟨b1, rfl, rfl⟩ (Nat.le_of_ble_eq_true rfl) (Nat.le_of_ble_eq_true rfl) dJ4_init_da8c8_6
end
section
-- 85.jtxt
/-! ===== the texts of the reference, appended ===== -/
def sL (i : Nat) : Nat := ([0, 1, 1] : List Nat).getD i 0
def sB (i : Nat) : Nat → Int32 := fun j => (([[], [32], [47]] : List (List Int32)).getD i []).getD j 0
theorem sL_le {i : Nat} (h : i < 3) : sL i ≤ 1 := (by decide : ∀ i, i < 3 → sL i ≤ 1) i h
theorem sB_fit {i : Nat} (h : i < 3) : sb_Fit (sB i) := by
  intro j
  have h3 : i = 0 ∨ i = 1 ∨ i = 2 := by omega
  rcases h3 with rfl | rfl | rfl <;> (cases j <;> rfl)
section JRL
variable {p : Program} {l : Launch} {e : Env} {R : Room} {s : State} {m : MethodId} {args : Array Value} {below : List Frame} {meth : Method} {c : Code} {H : Heap} {locs : List Loc} {cells slots : Nat} {Q : State → Prop}
variable {κ : Kt} {cc : ByteArray} {nL : Nat} {own : String} {ret : Option FieldType} {A : Nat → Prop} {w : va_W}
variable {pc : Nat} {ls : Array Slot} {rest : List Value} {i : Nat}
theorem litS (hX : Cx κ p m c cc nL s args own meth ret A) : vk_S 3 [0, 1, 1] [[], [32], [47]] (adK κ) (adV κ) A s s.heap := hX.2.1.2.2.1.2.1.2.2.2.narrow hX.2.2.1
theorem litV {index : Nat} (hX : Cx κ p m c cc nL s args own meth ret A) (hB : Bd κ A s w H locs) (hi : i < 3) (hl : Cond.fieldLink own index "java/lang/String" "value" "[B" ∈ wAll) (hdg : decode cc pc = .ok (.getfield index, 3))
    (kk : W p l e R s m args below meth c H locs cells slots Q (F0 m (pc + 3) ls (.ref (adV κ i) :: rest))) : W p l e R s m args below meth c H locs cells slots Q (F0 m pc ls (.ref (adK κ i) :: rest)) :=
  vk_getf hX.1.1 hX.1.2.1 ((litS hX).1 i hi).2.2.1 hB.2.2 hX.1.2.2.2.1 (hX.1.2.2.2.2 _ hl) (fun _ h => h) hdg kk
theorem litC {index : Nat} (hX : Cx κ p m c cc nL s args own meth ret A) (hB : Bd κ A s w H locs) (hi : i < 3) (hl : Cond.fieldLink own index "java/lang/String" "coder" "B" ∈ wAll) (hdg : decode cc pc = .ok (.getfield index, 3))
    (kk : W p l e R s m args below meth c H locs cells slots Q (F0 m (pc + 3) ls (.int 0 :: rest))) : W p l e R s m args below meth c H locs cells slots Q (F0 m pc ls (.ref (adK κ i) :: rest)) :=
  vk_getf hX.1.1 hX.1.2.1 ((litS hX).1 i hi).2.1 hB.2.2 hX.1.2.2.2.1 (hX.1.2.2.2.2 _ hl) (fun _ h => h) hdg kk
theorem litN (hX : Cx κ p m c cc nL s args own meth ret A) (hB : Bd κ A s w H locs) (hi : i < 3) (hdg : decode cc pc = .ok (.arraylength, 1))
    (kk : W p l e R s m args below meth c H locs cells slots Q (F0 m (pc + 1) ls (.int (nI (sL i)) :: rest))) : W p l e R s m args below meth c H locs cells slots Q (F0 m pc ls (.ref (adV κ i) :: rest)) :=
  va_tlen hX.1.1 hX.1.2.1 ((litS hX).1 i hi).2.2.2 hB.2.2 rfl hdg kk
theorem ldcT {index : Nat} {tx : String} (hX : Cx κ p m c cc nL s args own meth ret A) (hZ : vk_R own index tx (adK κ i) s) (hdg : decode cc pc = .ok (.ldc index, 2))
    (kk : W p l e R s m args below meth c H locs cells slots Q (F0 m (pc + 2) ls (.ref (adK κ i) :: rest))) : W p l e R s m args below meth c H locs cells slots Q (F0 m pc ls rest) :=
  va_ldcS hX.1.1 hX.1.2.1 hX.1.2.2.2.1 hZ hdg kk
theorem copyT {k1 b n1 index dp : Nat} {g : Nat → Int32} (hX : Cx κ p m c cc nL s args own meth ret A) (hB : Bd κ A s w H locs) (hi : i < 3) (hml : ls.size = nL) (m1 : Cond.methodLink own index arraycopyName ∈ wAll) (m2 : Cond.native arraycopyName ∈ wNest) (m3 : Cond.static arraycopyName ∈ wAll) (m4 : Cond.initialized "java/lang/System" ∈ wAll) (h1 : w[k1]? = some (bA κ b n1 g)) (hn1 : n1 < 2 ^ 31) (h5 : dp + sL i ≤ n1) (hfr : 1 ≤ R.frames) (hlo : (rest.map fun v => v.category).sum + (nativeFrameWords "java/lang/System" "arraycopy" 5 + 11) ≤ R.locals) {w1 : va_W} (hw : w.set k1 (bA κ b n1 (va_cpy (sB i) g 0 dp (sL i))) = w1) (hdg : decode cc pc = .ok (.invokestatic index, 3))
    (kk : ∀ (H1 : Heap) (locs1 : List Loc), Bd κ A s w1 H1 locs1 → W p l e R s m args below meth c H1 locs1 cells slots Q (F0 m (pc + 3) ls rest)) : W p l e R s m args below meth c H locs cells slots Q (F0 m pc ls (.int (nI (sL i)) :: .int (nI dp) :: .ref b :: .int 0 :: .ref (adV κ i) :: rest)) := by
  subst hw
  have hv := hX.1.2.2.2.2
  have hs := sL_le hi
  have e2 : (nI dp).toNatClampNeg = dp := nI_clamp (by omega)
  have e3 : (nI (sL i)).toNatClampNeg = sL i := nI_clamp (by omega)
  have e1 : (0 : Int32).toNatClampNeg = 0 := rfl
  refine vk_copyt (tys := tysK κ) (f := sB i) hX.1.1 hX.1.2.1 (by rw [hX.1.2.2.1]; exact hml.symm) hX.1.2.2.2.1 (hv _ m1) (va_Nw.use rfl (hX.2.1.2.1.use m2)) (hv _ m3) (hv _ m4) hX.2.1.1 hB.1 hB.2.1 hB.2.2 ((litS hX).1 i hi).2.2.2 k1 3 h1 rfl (by decide) (nI_pos (by omega)) (nI_pos (by omega)) (by rw [e1, e3]; exact Nat.le_of_eq (Nat.zero_add _)) (by rw [e2, e3]; exact h5) (fun j _ => sB_fit hi _) hfr hlo hdg (fun H1 locs1 a1 a2 a3 => kk H1 locs1 ?_)
  rw [e1, e2, e3] at a1 a2
  exact ⟨a1, a2, a3⟩
theorem call_L {post : Option Value → va_W → Prop} {y : MethodName} {bytes : ByteArray} {maxL fr lo mc ms n index : Nat} {rt : Option FieldType} {As st0 : List Value} (hX : Cx κ p m c cc nL s args own meth ret A) (hB : Bd κ A s w H locs) (hi : i < 3)
    (hM : CM κ l y bytes maxL rt fr lo mc ms (.ref (adK κ i) :: As) w post) (hy : y.cls = "java/lang/String" ∧ Yk y n) (m1 : Cond.methodLink own index y ∈ wAll) (m2 : Cond.instanceMethod y ∈ wAll) (m3 : Cond.selects "java/lang/String" y y ∈ wAll) (m4 : Cond.initialized "java/lang/String" ∈ wAll) (m5 : Cond.code y bytes maxL rt ∈ wAll)
    (hR : fr + 1 ≤ R.frames ∧ 8 + (maxL + 11) + lo ≤ R.locals) (hf : cells + mc ≤ R.cells ∧ slots + ms ≤ R.slots)
    (hn : As.length = n) (hl : ls.size = nL) (hst : st0 = As.reverse ++ .ref (adK κ i) :: rest) (hcat : (rest.map fun v => v.category).sum ≤ 8) (hdg : decode cc pc = .ok (.invokevirtual index, 3))
    (kk : ∀ (r : Option Value) (w' : va_W) (H1 : Heap) (locs1 : List Loc), post r w' → Bd κ A s w' H1 locs1 → W p l e R s m args below meth c H1 locs1 (cells + mc) (slots + ms) Q (F0 m (pc + 3) ls (r.toList ++ rest))) : W p l e R s m args below meth c H locs cells slots Q (F0 m pc ls st0) := by
  refine CM_after hX hB (va_runV (As := As) (rest := rest) (nL := nL) (own := own) (C := "java/lang/String") (b := adK κ i) hX.1 (hM H.size) (cwV n hX.1.2.2.2.2 (gAll1 m1 (gAll1 m2 (gAll1 m3 (gAll1 m4 (gAll m5))))) rfl rfl rfl ⟨hy.1, hy.2⟩ hR) ⟨Pm_blind, ?_, Pm_at hX hB⟩ rfl hn hl hst (lv_room hcat) hdg hf) kk
  obtain ⟨cell, z1, z2, z3⟩ := vk_recv (litS hX) hi hB.2.2
  exact ⟨cell, z1, z2, z3⟩
end JRL

set_option maxHeartbeats 4000000 in
set_option maxRecDepth 100000 in
theorem k_J0_coder_7d493 (κ : Kt) (l : Launch) (w : va_W) (i0 : Nat) (hi3 : i0 < 3) : CM κ l yJ0_coder_7d493 cJ0_coder_7d493 1 (some .byte) 0 0 0 0 [.ref (adK κ i0)] (w) (fun o w' => o = some (.int 0) ∧ w' = w) := by
  refine CM_begin (plainFor_of_name pn_RJ0) (Nat.le_of_ble_eq_true rfl) ?_
  intro p e s m args below meth c A Q hX hnm hA3 hQ hB ls hl
  have hx := hX.1.1
  have hb := hX.1.2.1
  have hl : lv_has ls 1 [(0, .ref (adK κ i0))] := hl
  refine gsv hX hB hX.2.1.2.2.1.1.2.2.1 wm_4_209 dJ0_coder_7d493_0 ?_
  refine lv_if_eq (tgt := 13) hx hb dJ0_coder_7d493_3 (by decide) (fun c1 => False.elim (by revert c1; decide)) (fun _ => ?_)
  refine lv_aload_n hx hb dJ0_coder_7d493_6 rfl (lv_at hl 0 rfl) ?_
  refine litC (i := i0) hX hB (by omega) wm_5_1 dJ0_coder_7d493_7 ?_
  refine lv_goto (tgt := 14) hx hb dJ0_coder_7d493_10 (by decide) ?_
  rw [← hQ]
  exact end_i hX hB hA3 rfl rfl ⟨rfl, rfl⟩ (Nat.le_of_ble_eq_true rfl) (Nat.le_of_ble_eq_true rfl) dJ0_coder_7d493_14
set_option maxHeartbeats 4000000 in
set_option maxRecDepth 100000 in
theorem k_J0_length_8abf5 (κ : Kt) (l : Launch) (w : va_W) (i0 : Nat) (hi3 : i0 < 3) : CM κ l yJ0_length_8abf5 cJ0_length_8abf5 1 (some .int) 1 20 0 0 [.ref (adK κ i0)] (w) (fun o w' => o = some (.int (nI (sL i0))) ∧ w' = w) := by
  refine CM_begin (plainFor_of_name pn_RJ0) (Nat.le_of_ble_eq_true rfl) ?_
  intro p e s m args below meth c A Q hX hnm hA3 hQ hB ls hl
  have hx := hX.1.1
  have hb := hX.1.2.1
  have hl : lv_has ls 1 [(0, .ref (adK κ i0))] := hl
  refine lv_aload_n hx hb dJ0_length_8abf5_0 rfl (lv_at hl 0 rfl) ?_
  refine litV (i := i0) hX hB (by omega) wm_5_0 dJ0_length_8abf5_1 ?_
  refine litN (i := i0) hX hB (by omega) dJ0_length_8abf5_4 ?_
  refine lv_aload_n hx hb dJ0_length_8abf5_5 rfl (lv_at hl 0 rfl) ?_
  refine call_L (i := i0) (n := 0) (As := []) (rest := [.int (nI (sL i0))]) hX hB (by omega) (k_J0_coder_7d493 κ l (w) i0 (by omega)) ⟨rfl, yk_J0_coder_7d493⟩ wm_4_205 wm_4_206 wm_4_207 wm_1_19 wm_4_208 ⟨Nat.le_of_ble_eq_true rfl, Nat.le_of_ble_eq_true rfl⟩ ⟨Nat.le_of_ble_eq_true rfl, Nat.le_of_ble_eq_true rfl⟩ rfl hl.1 rfl (Nat.le_of_ble_eq_true rfl) dJ0_length_8abf5_6 (fun o w' H locs hp hB => ?_)
  obtain ⟨rfl, hw9⟩ := hp
  replace hB : Bd κ A s (w) H locs := by rw [hw9] at hB; exact hB
  refine W.eq (g2 := F0 m 9 ls [.int 0, .int (nI (sL i0))]) rfl ?_
  refine lv_ishr hx hb dJ0_length_8abf5_9 ?_
  refine eqi (y := nI (sL i0)) (shr0z _) ?_
  rw [← hQ]
  exact end_i hX hB hA3 rfl rfl ⟨rfl, rfl⟩ (Nat.le_of_ble_eq_true rfl) (Nat.le_of_ble_eq_true rfl) dJ0_length_8abf5_10
set_option maxHeartbeats 4000000 in
set_option maxRecDepth 100000 in
theorem k_J0_getBytes_840e7 (κ : Kt) (l : Launch) (w : va_W) (i0 : Nat) (k_b b_b n_b : Nat) (f_b : Nat → Int32) (xdp : Int32) (dp : Nat) (h_b : w[k_b]? = some (bA κ b_b n_b f_b)) (hnb : n_b ≤ 1000) (hft : sb_Fit f_b) (hxdp : xdp = nI dp) (hi3 : i0 < 3) (hdp : dp + sL i0 ≤ n_b) : CM κ l yJ0_getBytes_840e7 cJ0_getBytes_840e7 4 (none) 1 60 0 0 [.ref (adK κ i0), .ref b_b, .int xdp, .int 0] (w) (fun o w' => ∃ (F : Nat → Int32), o = none ∧ (sb_Fit F) ∧ w' = w.set k_b (bA κ b_b n_b F)) := by
  subst hxdp
  refine CM_begin (plainFor_of_name pn_RJ0) (Nat.le_of_ble_eq_true rfl) ?_
  intro p e s m args below meth c A Q hX hnm hA3 hQ hB ls hl
  have hx := hX.1.1
  have hb := hX.1.2.1
  have hl : lv_has ls 4 [(0, .ref (adK κ i0)), (1, .ref b_b), (2, .int (nI dp)), (3, .int 0)] := hl
  have hB : Bd κ A s (w.set k_b (bA κ b_b n_b f_b)) s.heap [] := by rw [wset0 h_b]; exact hB
  have hsl := sL_le hi3
  refine lv_aload_n hx hb dJ0_getBytes_840e7_0 rfl (lv_at hl 0 rfl) ?_
  refine call_L (i := i0) (n := 0) (As := []) (rest := []) hX hB (by omega) (k_J0_coder_7d493 κ l ((w.set k_b (bA κ b_b n_b f_b))) i0 (by omega)) ⟨rfl, yk_J0_coder_7d493⟩ wm_4_205 wm_4_206 wm_4_207 wm_1_19 wm_4_208 ⟨Nat.le_of_ble_eq_true rfl, Nat.le_of_ble_eq_true rfl⟩ ⟨Nat.le_of_ble_eq_true rfl, Nat.le_of_ble_eq_true rfl⟩ rfl hl.1 rfl (Nat.le_of_ble_eq_true rfl) dJ0_getBytes_840e7_1 (fun o w' H locs hp hB => ?_)
  obtain ⟨rfl, hw9⟩ := hp
  replace hB : Bd κ A s ((w.set k_b (bA κ b_b n_b f_b))) H locs := by rw [hw9] at hB; exact hB
  refine W.eq (g2 := F0 m 4 ls [.int 0]) rfl ?_
  refine lv_iload_n hx hb dJ0_getBytes_840e7_4 rfl (lv_at hl 3 rfl) ?_
  refine lv_icmp_ne (tgt := 28) hx hb dJ0_getBytes_840e7_5 (by decide) (fun c1 => False.elim (by revert c1; decide)) (fun _ => ?_)
  refine lv_aload_n hx hb dJ0_getBytes_840e7_8 rfl (lv_at hl 0 rfl) ?_
  refine litV (i := i0) hX hB (by omega) wm_5_0 dJ0_getBytes_840e7_9 ?_
  refine lv_iconst (v := 0) hx hb dJ0_getBytes_840e7_12 (by decide) ?_
  refine lv_aload_n hx hb dJ0_getBytes_840e7_13 rfl (lv_at hl 1 rfl) ?_
  refine lv_iload_n hx hb dJ0_getBytes_840e7_14 rfl (lv_at hl 2 rfl) ?_
  refine lv_iload_n hx hb dJ0_getBytes_840e7_15 rfl (lv_at hl 3 rfl) ?_
  refine lv_ishl hx hb dJ0_getBytes_840e7_16 ?_
  refine eqi (y := nI dp) (shl0 _) ?_
  refine lv_aload_n hx hb dJ0_getBytes_840e7_17 rfl (lv_at hl 0 rfl) ?_
  refine litV (i := i0) hX hB (by omega) wm_5_0 dJ0_getBytes_840e7_18 ?_
  refine litN (i := i0) hX hB (by omega) dJ0_getBytes_840e7_21 ?_
  refine copyT (i := i0) (k1 := k_b) (dp := dp) hX hB (by omega) hl.1 wm_4_223 wn_4_58 wm_4_57 wm_1_23 (wset1 h_b) (by omega) (by omega) (Nat.le_of_ble_eq_true rfl) (Nat.le_of_ble_eq_true rfl) (w1 := (w.set k_b (bA κ b_b n_b (va_cpy (sB i0) f_b 0 dp (sL i0))))) (List.set_set _) dJ0_getBytes_840e7_22 (fun H locs hB => ?_)
  refine lv_goto (tgt := 43) hx hb dJ0_getBytes_840e7_25 (by decide) ?_
  rw [← hQ]
  exact end_v hX hB hA3 rfl ⟨(va_cpy (sB i0) f_b 0 dp (sL i0)), rfl, (sb_fitC (sB_fit (i := i0) (by omega)) hft), rfl⟩ (Nat.le_of_ble_eq_true rfl) (Nat.le_of_ble_eq_true rfl) dJ0_getBytes_840e7_43
set_option maxHeartbeats 4000000 in
set_option maxRecDepth 100000 in
theorem k_J5_inflateIfNeededFor_a7421 (κ : Kt) (l : Launch) (w : va_W) (i0 : Nat) (s_0 b_s n_s c_s : Nat) (ml : Int32) (f_s : Nat → Int32) (hcn : c_s ≤ n_s) (hnb : n_s ≤ 1000) (hft : sb_Fit f_s) (hi3 : i0 < 3) : CM κ l yJ5_inflateIfNeededFor_a7421 cJ5_inflateIfNeededFor_a7421 2 (none) 1 20 0 0 [.ref s_0, .ref (adK κ i0)] (bA κ b_s n_s f_s :: (s_0, .inr (1, [.ref b_s, .int 0, .int ml, .int (nI c_s)])) :: w) (fun o w' => o = none ∧ w' = bA κ b_s n_s f_s :: (s_0, .inr (1, [.ref b_s, .int 0, .int ml, .int (nI c_s)])) :: w) := by
  refine CM_begin (plainFor_of_name pn_RJ5) (Nat.le_of_ble_eq_true rfl) ?_
  intro p e s m args below meth c A Q hX hnm hA3 hQ hB ls hl
  have hx := hX.1.1
  have hb := hX.1.2.1
  have hl : lv_has ls 2 [(0, .ref s_0), (1, .ref (adK κ i0))] := hl
  refine gsv hX hB hX.2.1.2.2.1.1.2.2.1 wm_3_239 dJ5_inflateIfNeededFor_a7421_0 ?_
  refine lv_if_eq (tgt := 21) hx hb dJ5_inflateIfNeededFor_a7421_3 (by decide) (fun c1 => False.elim (by revert c1; decide)) (fun _ => ?_)
  refine lv_aload_n hx hb dJ5_inflateIfNeededFor_a7421_6 rfl (lv_at hl 0 rfl) ?_
  refine gfU (k0 := 1) hX hB rfl rfl inJ4 1 (by decide) wm_4_9 rfl rfl dJ5_inflateIfNeededFor_a7421_7 ?_
  refine lv_aload_n hx hb dJ5_inflateIfNeededFor_a7421_10 rfl (lv_at hl 1 rfl) ?_
  refine call_L (i := i0) (n := 0) (As := []) (rest := [.int 0]) hX hB (by omega) (k_J0_coder_7d493 κ l (bA κ b_s n_s f_s :: (s_0, .inr (1, [.ref b_s, .int 0, .int ml, .int (nI c_s)])) :: w) i0 (by omega)) ⟨rfl, yk_J0_coder_7d493⟩ wm_4_218 wm_4_206 wm_4_207 wm_1_19 wm_4_208 ⟨Nat.le_of_ble_eq_true rfl, Nat.le_of_ble_eq_true rfl⟩ ⟨Nat.le_of_ble_eq_true rfl, Nat.le_of_ble_eq_true rfl⟩ rfl hl.1 rfl (Nat.le_of_ble_eq_true rfl) dJ5_inflateIfNeededFor_a7421_11 (fun o w' H locs hp hB => ?_)
  obtain ⟨rfl, hw9⟩ := hp
  replace hB : Bd κ A s (bA κ b_s n_s f_s :: (s_0, .inr (1, [.ref b_s, .int 0, .int ml, .int (nI c_s)])) :: w) H locs := by rw [hw9] at hB; exact hB
  refine W.eq (g2 := F0 m 14 ls [.int 0, .int 0]) rfl ?_
  refine lv_icmp_eq (tgt := 21) hx hb dJ5_inflateIfNeededFor_a7421_14 (by decide) (fun _ => ?_) (fun c2 => False.elim (by revert c2; decide))
  rw [← hQ]
  exact end_v hX hB hA3 rfl ⟨rfl, rfl⟩ (Nat.le_of_ble_eq_true rfl) (Nat.le_of_ble_eq_true rfl) dJ5_inflateIfNeededFor_a7421_21
set_option maxHeartbeats 4000000 in
set_option maxRecDepth 100000 in
theorem k_J5_putStringAt_47b60 (κ : Kt) (l : Launch) (w : va_W) (i0 : Nat) (s_0 b_s n_s c_s : Nat) (ml : Int32) (f_s : Nat → Int32) (xx : Int32) (x : Nat) (hcn : c_s ≤ n_s) (hnb : n_s ≤ 1000) (hft : sb_Fit f_s) (hxx : xx = nI x) (hi3 : i0 < 3) (hx5 : x + sL i0 ≤ n_s) : CM κ l yJ5_putStringAt_47b60 cJ5_putStringAt_47b60 3 (none) 2 83 0 0 [.ref s_0, .int xx, .ref (adK κ i0)] (bA κ b_s n_s f_s :: (s_0, .inr (1, [.ref b_s, .int 0, .int ml, .int (nI c_s)])) :: w) (fun o w' => ∃ (F : Nat → Int32), o = none ∧ (sb_Fit F) ∧ w' = bA κ b_s n_s F :: (s_0, .inr (1, [.ref b_s, .int 0, .int ml, .int (nI c_s)])) :: w) := by
  subst hxx
  refine CM_begin (plainFor_of_name pn_RJ5) (Nat.le_of_ble_eq_true rfl) ?_
  intro p e s m args below meth c A Q hX hnm hA3 hQ hB ls hl
  have hx := hX.1.1
  have hb := hX.1.2.1
  have hl : lv_has ls 3 [(0, .ref s_0), (1, .int (nI x)), (2, .ref (adK κ i0))] := hl
  refine lv_aload_n hx hb dJ5_putStringAt_47b60_0 rfl (lv_at hl 0 rfl) ?_
  refine lv_aload_n hx hb dJ5_putStringAt_47b60_1 rfl (lv_at hl 2 rfl) ?_
  refine call_U (n := 1) (k0 := 1) (As := [.ref (adK κ i0)]) (rest := []) hX hB (k_J5_inflateIfNeededFor_a7421 κ l (w) i0 s_0 b_s n_s c_s ml f_s (by omega) (by omega) hft (by omega)) yk_J5_inflateIfNeededFor_a7421 wm_4_214 wm_7_193 wm_4_216 (Or.inr wn_4_215) wm_1_17 wm_4_217 ⟨Nat.le_of_ble_eq_true rfl, Nat.le_of_ble_eq_true rfl⟩ ⟨Nat.le_of_ble_eq_true rfl, Nat.le_of_ble_eq_true rfl⟩ rfl rfl rfl rfl hl.1 rfl (Nat.le_of_ble_eq_true rfl) dJ5_putStringAt_47b60_2 (fun o w' H locs hp hB => ?_)
  obtain ⟨rfl, hw9⟩ := hp
  replace hB : Bd κ A s (bA κ b_s n_s f_s :: (s_0, .inr (1, [.ref b_s, .int 0, .int ml, .int (nI c_s)])) :: w) H locs := by rw [hw9] at hB; exact hB
  refine W.eq (g2 := F0 m 5 ls []) rfl ?_
  refine lv_aload_n hx hb dJ5_putStringAt_47b60_5 rfl (lv_at hl 2 rfl) ?_
  refine lv_aload_n hx hb dJ5_putStringAt_47b60_6 rfl (lv_at hl 0 rfl) ?_
  refine gfU (k0 := 1) hX hB rfl rfl inJ4 0 (by decide) wm_4_8 rfl rfl dJ5_putStringAt_47b60_7 ?_
  refine lv_iload_n hx hb dJ5_putStringAt_47b60_10 rfl (lv_at hl 1 rfl) ?_
  refine lv_aload_n hx hb dJ5_putStringAt_47b60_11 rfl (lv_at hl 0 rfl) ?_
  refine gfU (k0 := 1) hX hB rfl rfl inJ4 1 (by decide) wm_4_9 rfl rfl dJ5_putStringAt_47b60_12 ?_
  refine call_L (i := i0) (n := 3) (As := [.ref b_s, .int (nI x), .int 0]) (rest := []) hX hB (by omega) (k_J0_getBytes_840e7 κ l (bA κ b_s n_s f_s :: (s_0, .inr (1, [.ref b_s, .int 0, .int ml, .int (nI c_s)])) :: w) i0 0 b_s n_s f_s (nI x) x rfl (by omega) hft rfl (by omega) (by omega)) ⟨rfl, yk_J0_getBytes_840e7⟩ wm_4_219 wm_4_220 wm_4_221 wm_1_19 wm_4_222 ⟨Nat.le_of_ble_eq_true rfl, Nat.le_of_ble_eq_true rfl⟩ ⟨Nat.le_of_ble_eq_true rfl, Nat.le_of_ble_eq_true rfl⟩ rfl hl.1 rfl (Nat.le_of_ble_eq_true rfl) dJ5_putStringAt_47b60_15 (fun o w' H locs hp hB => ?_)
  obtain ⟨F1, rfl, hf2, hw9⟩ := hp
  replace hB : Bd κ A s (bA κ b_s n_s F1 :: (s_0, .inr (1, [.ref b_s, .int 0, .int ml, .int (nI c_s)])) :: w) H locs := by rw [hw9] at hB; exact hB
  refine W.eq (g2 := F0 m 18 ls []) rfl ?_
  rw [← hQ]
  exact end_v hX hB hA3 rfl ⟨F1, rfl, hf2, rfl⟩ (Nat.le_of_ble_eq_true rfl) (Nat.le_of_ble_eq_true rfl) dJ5_putStringAt_47b60_18
set_option maxHeartbeats 4000000 in
set_option maxRecDepth 100000 in
theorem k_J5_append_cf1ce (κ : Kt) (l : Launch) (w : va_W) (i0 : Nat) (s_0 b_s n_s c_s : Nat) (ml : Int32) (f_s : Nat → Int32) (hcn : c_s ≤ n_s) (hnb : n_s ≤ 1000) (hft : sb_Fit f_s) (hi3 : i0 < 3) (hc3 : c_s ≤ 300) (hn2 : n_s ≤ 2 * c_s + 16) : CM κ l yJ5_append_cf1ce cJ5_append_cf1ce 3 (some (.object "java/lang/AbstractStringBuilder")) 4 105 1 820 [.ref s_0, .ref (adK κ i0)] (bA κ b_s n_s f_s :: (s_0, .inr (1, [.ref b_s, .int 0, .int ml, .int (nI c_s)])) :: w) (fun o w' => ∃ (q1 : Nat) (n1 : Nat) (F : Nat → Int32) (c1 : Nat), o = some (.ref s_0) ∧ (c1 = c_s + sL i0 ∧ c1 ≤ n1 ∧ n1 ≤ 1000 ∧ n1 ≤ 2 * c1 + 16) ∧ (sb_Fit F) ∧ w' = bA κ q1 n1 F :: (s_0, .inr (1, [.ref q1, .int 0, .int ml, .int (nI c1)])) :: w) := by
  refine CM_begin (plainFor_of_name pn_RJ5) (Nat.le_of_ble_eq_true rfl) ?_
  intro p e s m args below meth c A Q hX hnm hA3 hQ hB ls hl
  have hx := hX.1.1
  have hb := hX.1.2.1
  have hl : lv_has ls 3 [(0, .ref s_0), (1, .ref (adK κ i0))] := hl
  have hsl := sL_le hi3
  refine lv_aload_n hx hb dJ5_append_cf1ce_0 rfl (lv_at hl 1 rfl) ?_
  refine lv_ifnonnull (tgt := 9) hx hb dJ5_append_cf1ce_1 (by decide) ?_
  refine lv_aload_n hx hb dJ5_append_cf1ce_9 rfl (lv_at hl 1 rfl) ?_
  refine call_L (i := i0) (n := 0) (As := []) (rest := []) hX hB (by omega) (k_J0_length_8abf5 κ l (bA κ b_s n_s f_s :: (s_0, .inr (1, [.ref b_s, .int 0, .int ml, .int (nI c_s)])) :: w) i0 (by omega)) ⟨rfl, yk_J0_length_8abf5⟩ wm_4_201 wm_4_202 wm_4_203 wm_1_19 wm_4_204 ⟨Nat.le_of_ble_eq_true rfl, Nat.le_of_ble_eq_true rfl⟩ ⟨Nat.le_of_ble_eq_true rfl, Nat.le_of_ble_eq_true rfl⟩ rfl hl.1 rfl (Nat.le_of_ble_eq_true rfl) dJ5_append_cf1ce_10 (fun o w' H locs hp hB => ?_)
  obtain ⟨rfl, hw9⟩ := hp
  replace hB : Bd κ A s (bA κ b_s n_s f_s :: (s_0, .inr (1, [.ref b_s, .int 0, .int ml, .int (nI c_s)])) :: w) H locs := by rw [hw9] at hB; exact hB
  refine W.eq (g2 := F0 m 13 ls [.int (nI (sL i0))]) rfl ?_
  refine lv_istore_n (lv' := [(2, .int (nI (sL i0))), (0, .ref s_0), (1, .ref (adK κ i0))]) hx hb dJ5_append_cf1ce_13 rfl hl (by decide) rfl (fun ls hl => ?_)
  refine lv_aload_n hx hb dJ5_append_cf1ce_14 rfl (lv_at hl 1 rfl) ?_
  refine lv_aload_n hx hb dJ5_append_cf1ce_15 rfl (lv_at hl 1 rfl) ?_
  refine gfU (k0 := 1) hX hB rfl rfl inJ4 3 (by decide) wm_4_11 rfl rfl dJ5_append_cf1ce_16 ?_
  refine lv_iload_n hx hb dJ5_append_cf1ce_19 rfl (lv_at hl 0 rfl) ?_
  refine lv_iadd hx hb dJ5_append_cf1ce_20 ?_
  refine eqi (y := nI (c_s + (sL i0))) (nI_add c_s (sL i0)) ?_
  refine call_U (n := 1) (k0 := 1) (As := [.int (nI (c_s + (sL i0)))]) (rest := []) hX hB (k_J5_ensureCapacityInternal_d00df κ l (w) s_0 b_s n_s c_s ml f_s (nI (c_s + (sL i0))) (c_s + (sL i0)) (by omega) (by omega) hft rfl (by omega)) yk_J5_ensureCapacityInternal_d00df wm_4_28 wm_7_186 wm_4_30 (Or.inr wn_4_29) wm_1_17 wm_4_31 ⟨Nat.le_of_ble_eq_true rfl, Nat.le_of_ble_eq_true rfl⟩ ⟨Nat.le_of_ble_eq_true rfl, Nat.le_of_ble_eq_true rfl⟩ rfl rfl rfl rfl hl.1 rfl (Nat.le_of_ble_eq_true rfl) dJ5_append_cf1ce_21 (fun o w' H locs hp hB => ?_)
  obtain ⟨q1, n2, F3, rfl, hf4, hf5, hw9⟩ := hp
  replace hB : Bd κ A s (bA κ q1 n2 F3 :: (s_0, .inr (1, [.ref q1, .int 0, .int ml, .int (nI c_s)])) :: w) H locs := by rw [hw9] at hB; exact hB
  refine W.eq (g2 := F0 m 24 ls []) rfl ?_
  refine lv_aload_n hx hb dJ5_append_cf1ce_24 rfl (lv_at hl 1 rfl) ?_
  refine lv_aload_n hx hb dJ5_append_cf1ce_25 rfl (lv_at hl 1 rfl) ?_
  refine gfU (k0 := 1) hX hB rfl rfl inJ4 3 (by decide) wm_4_11 rfl rfl dJ5_append_cf1ce_26 ?_
  refine lv_aload_n hx hb dJ5_append_cf1ce_29 rfl (lv_at hl 2 rfl) ?_
  refine call_U (n := 2) (k0 := 1) (As := [.int (nI c_s), .ref (adK κ i0)]) (rest := []) hX hB (k_J5_putStringAt_47b60 κ l (w) i0 s_0 q1 n2 c_s ml F3 (nI c_s) c_s (by omega) (by omega) hf5 rfl (by omega) (by omega)) yk_J5_putStringAt_47b60 wm_4_210 wm_7_192 wm_4_212 (Or.inr wn_4_211) wm_1_17 wm_4_213 ⟨Nat.le_of_ble_eq_true rfl, Nat.le_of_ble_eq_true rfl⟩ ⟨Nat.le_of_ble_eq_true rfl, Nat.le_of_ble_eq_true rfl⟩ rfl rfl rfl rfl hl.1 rfl (Nat.le_of_ble_eq_true rfl) dJ5_append_cf1ce_30 (fun o w' H locs hp hB => ?_)
  obtain ⟨F6, rfl, hf7, hw9⟩ := hp
  replace hB : Bd κ A s (bA κ q1 n2 F6 :: (s_0, .inr (1, [.ref q1, .int 0, .int ml, .int (nI c_s)])) :: w) H locs := by rw [hw9] at hB; exact hB
  refine W.eq (g2 := F0 m 33 ls []) rfl ?_
  refine lv_aload_n hx hb dJ5_append_cf1ce_33 rfl (lv_at hl 1 rfl) ?_
  refine lv_dup hx hb dJ5_append_cf1ce_34 rfl ?_
  refine gfU (k0 := 1) hX hB rfl rfl inJ4 3 (by decide) wm_4_11 rfl rfl dJ5_append_cf1ce_35 ?_
  refine lv_iload_n hx hb dJ5_append_cf1ce_38 rfl (lv_at hl 0 rfl) ?_
  refine lv_iadd hx hb dJ5_append_cf1ce_39 ?_
  refine eqi (y := nI (c_s + (sL i0))) (nI_add c_s (sL i0)) ?_
  refine pfU (ty := .int) (k0 := 1) hX hB rfl rfl inJ4 tyJ4_ok nmJ4 3 (by decide) wm_4_11 rfl rfl rfl rfl rfl (Nat.le_of_ble_eq_true rfl) (w1 := bA κ q1 n2 F6 :: (s_0, .inr (1, [.ref q1, .int 0, .int ml, .int (nI (c_s + (sL i0)))])) :: w) rfl dJ5_append_cf1ce_40 (fun H locs hB => ?_)
  refine lv_aload_n hx hb dJ5_append_cf1ce_43 rfl (lv_at hl 1 rfl) ?_
  rw [← hQ]
  exact end_a hX hB hA3 rfl (Or.inr ⟨_, rfl⟩) ⟨q1, n2, F6, (c_s + (sL i0)), rfl, (by omega), hf7, rfl⟩ (Nat.le_of_ble_eq_true rfl) (Nat.le_of_ble_eq_true rfl) dJ5_append_cf1ce_44
set_option maxHeartbeats 4000000 in
set_option maxRecDepth 100000 in
theorem k_J4_append_15ec4 (κ : Kt) (l : Launch) (w : va_W) (i0 : Nat) (s_0 b_s n_s c_s : Nat) (ml : Int32) (f_s : Nat → Int32) (hcn : c_s ≤ n_s) (hnb : n_s ≤ 1000) (hft : sb_Fit f_s) (hi3 : i0 < 3) (hc3 : c_s ≤ 300) (hn2 : n_s ≤ 2 * c_s + 16) : CM κ l yJ4_append_15ec4 cJ4_append_15ec4 2 (some (.object "java/lang/StringBuilder")) 5 127 1 820 [.ref s_0, .ref (adK κ i0)] (bA κ b_s n_s f_s :: (s_0, .inr (1, [.ref b_s, .int 0, .int ml, .int (nI c_s)])) :: w) (fun o w' => ∃ (q1 : Nat) (n1 : Nat) (F : Nat → Int32) (c1 : Nat), o = some (.ref s_0) ∧ (c1 = c_s + sL i0 ∧ c1 ≤ n1 ∧ n1 ≤ 1000 ∧ n1 ≤ 2 * c1 + 16) ∧ (sb_Fit F) ∧ w' = bA κ q1 n1 F :: (s_0, .inr (1, [.ref q1, .int 0, .int ml, .int (nI c1)])) :: w) := by
  refine CM_begin (plainFor_of_name pn_RJ4) (Nat.le_of_ble_eq_true rfl) ?_
  intro p e s m args below meth c A Q hX hnm hA3 hQ hB ls hl
  have hx := hX.1.1
  have hb := hX.1.2.1
  have hl : lv_has ls 2 [(0, .ref s_0), (1, .ref (adK κ i0))] := hl
  have hsl := sL_le hi3
  refine lv_aload_n hx hb dJ4_append_15ec4_0 rfl (lv_at hl 0 rfl) ?_
  refine lv_aload_n hx hb dJ4_append_15ec4_1 rfl (lv_at hl 1 rfl) ?_
  refine call_SU (n := 1) (k0 := 1) (As := [.ref (adK κ i0)]) (rest := []) hX hB (k_J5_append_cf1ce κ l (w) i0 s_0 b_s n_s c_s ml f_s (by omega) (by omega) hft (by omega) (by omega) (by omega)) ⟨by decide, by decide +kernel⟩ wm_4_191 wm_7_190 wm_4_20 wm_4_192 wm_1_17 wm_4_193 ⟨Nat.le_of_ble_eq_true rfl, Nat.le_of_ble_eq_true rfl⟩ ⟨Nat.le_of_ble_eq_true rfl, Nat.le_of_ble_eq_true rfl⟩ rfl rfl rfl rfl hl.1 rfl (Nat.le_of_ble_eq_true rfl) dJ4_append_15ec4_2 (fun o w' H locs hp hB => ?_)
  obtain ⟨q1, n2, F3, c4, rfl, hf5, hf6, hw9⟩ := hp
  replace hB : Bd κ A s (bA κ q1 n2 F3 :: (s_0, .inr (1, [.ref q1, .int 0, .int ml, .int (nI c4)])) :: w) H locs := by rw [hw9] at hB; exact hB
  refine W.eq (g2 := F0 m 5 ls [.ref s_0]) rfl ?_
  refine lv_pop hx hb dJ4_append_15ec4_5 rfl ?_
  refine lv_aload_n hx hb dJ4_append_15ec4_6 rfl (lv_at hl 0 rfl) ?_
  rw [← hQ]
  exact end_a hX hB hA3 rfl (Or.inr ⟨_, rfl⟩) ⟨q1, n2, F3, c4, rfl, (by omega), hf6, rfl⟩ (Nat.le_of_ble_eq_true rfl) (Nat.le_of_ble_eq_true rfl) dJ4_append_15ec4_7
end
section
-- 86.ctext
theorem Bd_comm {κ : Kt} {A : Nat → Prop} {s : State} {w1 w2 : va_W} {H : Heap} {locs : List Loc} (hB : Bd κ A s (w1 ++ w2) H locs) : Bd κ A s (w2 ++ w1) H locs := by
  refine Bd_pick (fun k => if k < w2.length then w1.length + k else if k < w2.length + w1.length then k - w2.length else k) (fun i j h => ?_) (fun k q h => ?_) hB
  · repeat' split at h
    all_goals omega
  · by_cases hk : k < w2.length
    · rw [List.getElem?_append_left hk] at h
      rw [if_pos hk, List.getElem?_append_right (Nat.le_add_right _ _), Nat.add_sub_cancel_left]
      exact h
    · rw [List.getElem?_append_right (by omega)] at h
      have h1 := (List.getElem?_eq_some_iff.mp h).1
      rw [if_neg hk, if_pos (by omega), List.getElem?_append_left h1]
      exact h
theorem app_at {w Wr : va_W} {k : Nat} {x : Nat × va_E} (h : w[k]? = some x) : (w ++ Wr)[k]? = some x := by
  rw [List.getElem?_append_left (List.getElem?_eq_some_iff.mp h).1]; exact h
theorem cwGn {κ : Kt} {a : Nat → Nat} {r q : Nat → Int32} {f : Nat → Nat → Int64} {i RR CC : Nat} (hi : i < 15) (hR : r (2 * i) = nI RR) (hC : r (2 * i + 1) = nI CC) : (cw κ a r q f)[6 + 2 * i]? = some (a (6 + 2 * i), .inr (4, [.ref (a (7 + 2 * i)), .int (nI RR), .int (nI CC)])) := by
  rw [← hR, ← hC]; exact cwG hi
theorem nI_le15 {x : Int32} {n : Nat} (hn : n < 100) (h0 : 1 ≤ x) (h1 : x ≤ nI n) : ∃ R, x = nI R ∧ 1 ≤ R ∧ R ≤ n := by
  have z : ¬ x < 0 := fun z => absurd (Int32.lt_of_le_of_lt h0 z) (by decide)
  obtain ⟨j, hj, rfl⟩ := nI_of z
  have h0 : nI 1 ≤ nI j := h0
  rw [nI_leI (by omega) hj] at h0
  rw [nI_leI hj (by omega)] at h1
  exact ⟨j, rfl, h0, h1⟩
theorem okr_R {r : Nat → Int32} (h : okr r) {i : Nat} (hi : i < 15) : ∃ R, r (2 * i) = nI R ∧ 1 ≤ R ∧ R ≤ 4 := nI_le15 (by omega) (h i hi).1.1 (h i hi).1.2
theorem okr_C {r : Nat → Int32} (h : okr r) {i : Nat} (hi : i < 15) : ∃ R, r (2 * i + 1) = nI R ∧ 1 ≤ R ∧ R ≤ 5 := nI_le15 (by omega) (h i hi).2.1 (h i hi).2.2

set_option maxHeartbeats 4000000 in
set_option maxRecDepth 100000 in
theorem k_X5_text (κ : Kt) (l : Launch) (hst : l.stackTraces = false) (a : Nat → Nat) (r q : Nat → Int32) (f : Nat → Nat → Int64) (p0 : Int32) (hok : okr r) : CX κ l yX5_text cX5_text 6 (some (.object "java/lang/String")) 7 171 49 38094 [.ref (a 0), .int p0] (cw κ a r q f) (fun o w' => ∃ q1 : Nat, ∃ (r' q' : Nat → Int32) (f' : Nat → Nat → Int64), o = some (.ref q1) ∧ (okr r → okr r') ∧ q' 4 = q 4 ∧ Ks r q f r' q' f' ∧ w' = cw κ a r' q' f') (fun E w' => E ∈ (["java/lang/IndexOutOfBoundsException"] : List String) ∧ ∃ (r' q' : Nat → Int32) (f' : Nat → Nat → Int64), (okr r → okr r') ∧ q' 4 = q 4 ∧ Ks r q f r' q' f' ∧ w' = cw κ a r' q' f') := by
  refine CX_begin (by decide) (Nat.le_of_ble_eq_true rfl) ?_
  intro p e s m args below meth c A Q hX hne hA3 hQ hB ls hl
  have hx := hX.1.1
  have hb := hX.1.2.1
  have hl : lv_has ls 6 [(0, .ref (a 0)), (1, .int p0)] := hl
  refine lv_aload_n hx hb dX5_text_0 rfl (lv_at hl 0 rfl) ?_
  refine lv_iload_n hx hb dX5_text_1 rfl (lv_at hl 1 rfl) ?_
  refine CX_after2 hX hB (run_XV (n := 1) (k0 := 0) (As := [.int p0]) (rest := []) hX hB (o_X5_needTable κ l hst a r q f p0) ⟨rfl, yk_X5_needTable⟩ wm_2_165 wm_2_167 wp_17 wm_1_1 wm_2_168 ⟨Nat.le_of_ble_eq_true rfl, Nat.le_of_ble_eq_true rfl⟩ ⟨Nat.le_of_ble_eq_true rfl, Nat.le_of_ble_eq_true rfl⟩ cw0 rfl rfl rfl hl.1 rfl (Nat.le_of_ble_eq_true rfl) dX5_text_2) (fun E ce q9 w' H locs hp hB hce hcv hcl => ?_) (fun o w' H locs hp hB => ?_)
  · obtain ⟨hE3, rfl⟩ := hp
    rw [← hQ]
    exact thrown_on hX hne hB hA3 hce hcv hcl ⟨((by decide : ∀ x ∈ (["java/lang/IndexOutOfBoundsException"] : List String), x ∈ (["java/lang/IndexOutOfBoundsException"] : List String)) _ hE3), r, q, f, (fun h => h), rfl, Ks_rf, rfl⟩ (Nat.le_of_ble_eq_true rfl) (Nat.le_of_ble_eq_true rfl)
  obtain ⟨i1, hi2, rfl, hw9⟩ := hp
  replace hB : Bd κ A s (cw κ a r q f) H locs := by rw [hw9] at hB; exact hB
  obtain ⟨RR, hRR, hRR1, hRR4⟩ := okr_R ((fun h => h) hok) (i := i1) (by omega)
  obtain ⟨CC, hCC, hCC1, hCC5⟩ := okr_C ((fun h => h) hok) (i := i1) (by omega)
  refine W.eq (g2 := F0 m 5 ls [.ref (a (6 + 2 * i1))]) rfl ?_
  refine lv_astore_n (lv' := [(2, .ref (a (6 + 2 * i1))), (0, .ref (a 0)), (1, .int p0)]) hx hb dX5_text_5 rfl hl (by decide) rfl (fun ls hl => ?_)
  refine newO (fs := [.null, .int 0, .int 0, .int 0]) hX hB (ci := 1) rfl inJ4 tyJ4_ok wm_3_230 wm_3_231 wm_1_18 df1 (Nat.le_of_ble_eq_true rfl) (Nat.le_of_ble_eq_true rfl) dX5_text_6 (fun q4 H hB => ?_)
  refine lv_dup hx hb dX5_text_9 rfl ?_
  refine call_I (n := 0) (As := []) (rest := [.ref q4]) hX hB (k_J4_init_da8c8 κ l (cw κ a r q f) q4 ) yk_J4_init_da8c8 rfl wm_3_232 wm_3_233 wm_1_18 wm_3_234 ⟨Nat.le_of_ble_eq_true rfl, Nat.le_of_ble_eq_true rfl⟩ ⟨Nat.le_of_ble_eq_true rfl, Nat.le_of_ble_eq_true rfl⟩ rfl hl.1 rfl (Nat.le_of_ble_eq_true rfl) dX5_text_10 (fun o w' H locs hp hB => ?_)
  obtain ⟨b5, rfl, hw9⟩ := hp
  replace hB : Bd κ A s (bA κ b5 16 (fun _ => 0) :: (q4, .inr (1, [.ref b5, .int 0, .int 0, .int (nI 0)])) :: cw κ a r q f) H locs := by rw [hw9] at hB; exact hB
  refine W.eq (g2 := F0 m 13 ls [.ref q4]) rfl ?_
  refine lv_astore_n (lv' := [(3, .ref q4), (2, .ref (a (6 + 2 * i1))), (0, .ref (a 0)), (1, .int p0)]) hx hb dX5_text_13 rfl hl (by decide) rfl (fun ls hl => ?_)
  refine lv_iconst (v := 0) hx hb dX5_text_14 (by decide) ?_
  refine lv_istore (lv' := [(4, .int 0), (3, .ref q4), (2, .ref (a (6 + 2 * i1))), (0, .ref (a 0)), (1, .int p0)]) hx hb dX5_text_15 hl (by decide) rfl (fun ls hl => ?_)
  have lp17 : ∀ (nn : Nat) (y4_17 : Nat) (Pb_17 : Nat) (Pc_17 : Nat) (Pn_17 : Nat) (bs_17 : Nat → Int32) (H : Heap) (locs : List Loc), (y4_17 ≤ RR) → (Pc_17 ≤ Pn_17 ∧ Pn_17 ≤ 1000 ∧ Pn_17 ≤ 2 * Pc_17 + 16 ∧ Pc_17 ≤ y4_17 * 61) → (sb_Fit bs_17) → RR + 1 - y4_17 < nn → Bd κ A s (bA κ Pb_17 Pn_17 bs_17 :: (q4, .inr (1, [.ref Pb_17, .int 0, .int 0, .int (nI Pc_17)])) :: cw κ a r q f) H locs → ∀ ls : Array Slot, lv_has ls 6 [(4, .int (nI y4_17)), (3, .ref q4), (2, .ref (a (6 + 2 * i1))), (0, .ref (a 0)), (1, .int p0)] → W p l e (Rm 7 171 49 38094) s m args below meth c H locs (3 + y4_17 * 11) (1010 + y4_17 * 9020) Q (F0 m 17 ls []) := by
    intro nn
    induction nn with
    | zero => intro y4_17 Pb_17 Pc_17 Pn_17 bs_17 H locs hn4_17 hsb17 hfb17 hμ; exact absurd hμ (Nat.not_lt_zero _)
    | succ nn ih17 =>
      intro y4_17 Pb_17 Pc_17 Pn_17 bs_17 H locs hn4_17 hsb17 hfb17 hμ17 hB ls hl
      refine lv_iload hx hb dX5_text_17 (lv_at hl 0 rfl) ?_
      refine lv_aload_n hx hb dX5_text_19 rfl (lv_at hl 2 rfl) ?_
      refine gfN (k0 := 6 + 2 * i1 + 2) hX hB (cwGn (a := a) (r := r) (q := q) (f := f) (i := i1) (by omega) hRR hCC) rfl in3 1 (by decide) wn_1_51 rfl rfl dX5_text_20 ?_
      refine lv_icmp_ge (tgt := 88) hx hb dX5_text_23 (by decide) (fun c441 => ?_) (fun c441 => ?_)
      · rw [nleP (a := RR) (b := y4_17) (by omega) (by omega)] at c441
        refine W.widen (k := 47) (n := 37090) (by omega) (by omega) ?_
        refine lv_aload_n hx hb dX5_text_88 rfl (lv_at hl 1 rfl) ?_
        refine call_V (n := 0) (k0 := 1) (As := []) (rest := []) hX hB (k_J4_toString_0e30d κ l (cw κ a r q f) q4 Pb_17 Pn_17 Pc_17 0 bs_17 (by omega) (by omega) hfb17) ⟨rfl, yk_J4_toString_0e30d⟩ wm_4_146 wm_4_147 wm_4_148 wm_1_18 wm_4_149 ⟨Nat.le_of_ble_eq_true rfl, Nat.le_of_ble_eq_true rfl⟩ ⟨Nat.le_of_ble_eq_true rfl, Nat.le_of_ble_eq_true rfl⟩ rfl rfl rfl rfl hl.1 rfl (Nat.le_of_ble_eq_true rfl) dX5_text_89 (fun o w' H locs hp hB => ?_)
        obtain ⟨q442, rfl, hw9⟩ := hp
        replace hB : Bd κ A s (bA κ Pb_17 Pn_17 bs_17 :: (q4, .inr (1, [.ref Pb_17, .int 0, .int 0, .int (nI Pc_17)])) :: cw κ a r q f) H locs := by rw [hw9] at hB; exact hB
        refine W.eq (g2 := F0 m 92 ls [.ref q442]) rfl ?_
        replace hB : Bd κ A s (cw κ a r q f) H locs := Bd_tail (Bd_tail hB)
        rw [← hQ]
        exact vx_ret ( end_a hX hB hA3 rfl (Or.inr ⟨_, rfl⟩) ⟨q442, r, q, f, rfl, (fun h => h), rfl, Ks_rf, rfl⟩ (Nat.le_of_ble_eq_true rfl) (Nat.le_of_ble_eq_true rfl) dX5_text_92)
      · rw [nleP (a := RR) (b := y4_17) (by omega) (by omega)] at c441
        refine lv_iload hx hb dX5_text_26 (lv_at hl 0 rfl) ?_
        refine lv_if_le (tgt := 38) hx hb dX5_text_28 (by decide) (fun c443 => ?_) (fun c443 => ?_)
        · replace c443 : nI y4_17 ≤ nI 0 := c443
          rw [nleP (by omega) (by omega)] at c443
          refine lv_iconst (v := 0) hx hb dX5_text_38 (by decide) ?_
          refine lv_istore (lv' := [(5, .int 0), (4, .int (nI y4_17)), (3, .ref q4), (2, .ref (a (6 + 2 * i1))), (0, .ref (a 0)), (1, .int p0)]) hx hb dX5_text_39 hl (by decide) rfl (fun ls hl => ?_)
          have lp41 : ∀ (nn : Nat) (y5_41 : Nat) (Pb_41 : Nat) (Pc_41 : Nat) (Pn_41 : Nat) (bs_41 : Nat → Int32) (H : Heap) (locs : List Loc), (y5_41 ≤ CC) → (Pc_41 ≤ Pn_41 ∧ Pn_41 ≤ 1000 ∧ Pn_41 ≤ 2 * Pc_41 + 16 ∧ Pc_41 ≤ y4_17 * 61 + 1 + y5_41 * 12) → (sb_Fit bs_41) → CC + 1 - y5_41 < nn → Bd κ A s (bA κ Pb_41 Pn_41 bs_41 :: (q4, .inr (1, [.ref Pb_41, .int 0, .int 0, .int (nI Pc_41)])) :: cw κ a r q f) H locs → ∀ ls : Array Slot, lv_has ls 6 [(5, .int (nI y5_41)), (4, .int (nI y4_17)), (3, .ref q4), (2, .ref (a (6 + 2 * i1))), (0, .ref (a 0)), (1, .int p0)] → W p l e (Rm 7 171 49 38094) s m args below meth c H locs (3 + y4_17 * 11 + y5_41 * 2) (1010 + y4_17 * 9020 + y5_41 * 1640) Q (F0 m 41 ls []) := by
            intro nn
            induction nn with
            | zero => intro y5_41 Pb_41 Pc_41 Pn_41 bs_41 H locs hn5_41 hsb41 hfb41 hμ; exact absurd hμ (Nat.not_lt_zero _)
            | succ nn ih41 =>
              intro y5_41 Pb_41 Pc_41 Pn_41 bs_41 H locs hn5_41 hsb41 hfb41 hμ41 hB ls hl
              refine lv_iload hx hb dX5_text_41 (lv_at hl 0 rfl) ?_
              refine lv_aload_n hx hb dX5_text_43 rfl (lv_at hl 3 rfl) ?_
              refine gfN (k0 := 6 + 2 * i1 + 2) hX hB (cwGn (a := a) (r := r) (q := q) (f := f) (i := i1) (by omega) hRR hCC) rfl in3 2 (by decide) wn_1_57 rfl rfl dX5_text_44 ?_
              refine lv_icmp_ge (tgt := 82) hx hb dX5_text_47 (by decide) (fun c474 => ?_) (fun c474 => ?_)
              · rw [nleP (a := CC) (b := y5_41) (by omega) (by omega)] at c474
                refine W.widen (k := 13 + y4_17 * 11) (n := 9210 + y4_17 * 9020) (by omega) (by omega) ?_
                refine lv_iinc (v := nI (y4_17 + 1)) (lv' := [(4, .int (nI (y4_17 + 1))), (5, .int (nI y5_41)), (3, .ref q4), (2, .ref (a (6 + 2 * i1))), (0, .ref (a 0)), (1, .int p0)]) hx hb dX5_text_82 hl (k := 1) rfl (nI_add y4_17 1) (by decide) rfl (fun ls hl => ?_)
                refine lv_goto (tgt := 17) hx hb dX5_text_85 (by decide) ?_
                refine W.widen (k := 3 + (y4_17 + 1) * 11) (n := 1010 + (y4_17 + 1) * 9020) (by omega) (by omega) ?_
                exact ih17 (y4_17 + 1) Pb_41 Pc_41 Pn_41 bs_41 _ _ (by omega) (⟨by omega, by omega, by omega, by omega⟩) hfb41 (by omega) hB _ (lv_sub hl [0, 2, 3, 4, 5] rfl)
              · rw [nleP (a := CC) (b := y5_41) (by omega) (by omega)] at c474
                refine lv_iload hx hb dX5_text_50 (lv_at hl 0 rfl) ?_
                refine lv_if_le (tgt := 62) hx hb dX5_text_52 (by decide) (fun c475 => ?_) (fun c475 => ?_)
                · replace c475 : nI y5_41 ≤ nI 0 := c475
                  rw [nleP (by omega) (by omega)] at c475
                  refine lv_aload_n hx hb dX5_text_62 rfl (lv_at hl 2 rfl) ?_
                  refine lv_aload_n hx hb dX5_text_63 rfl (lv_at hl 3 rfl) ?_
                  refine lv_iload hx hb dX5_text_64 (lv_at hl 1 rfl) ?_
                  refine lv_iload hx hb dX5_text_66 (lv_at hl 0 rfl) ?_
                  replace hB : Bd κ A s (cw κ a r q f ++ [bA κ Pb_41 Pn_41 bs_41, (q4, .inr (1, [.ref Pb_41, .int 0, .int 0, .int (nI Pc_41)]))]) H locs := Bd_comm (w1 := [bA κ Pb_41 Pn_41 bs_41, (q4, .inr (1, [.ref Pb_41, .int 0, .int 0, .int (nI Pc_41)]))]) (w2 := cw κ a r q f) hB
                  refine call_V (n := 2) (k0 := (6 + 2 * i1)) (As := [.int (nI y4_17), .int (nI y5_41)]) (rest := [.ref q4]) hX hB (CM_frame [bA κ Pb_41 Pn_41 bs_41, (q4, .inr (1, [.ref Pb_41, .int 0, .int 0, .int (nI Pc_41)]))] (o_X3_get κ l a r q f i1 (nI y4_17) (nI y5_41) (by omega))) ⟨rfl, yk_X3_get⟩ wm_2_123 wm_1_187 wm_1_188 wm_1_2 wm_1_189 ⟨Nat.le_of_ble_eq_true rfl, Nat.le_of_ble_eq_true rfl⟩ ⟨by dsimp only [Rm]; omega, by dsimp only [Rm]; omega⟩ (app_at (cwG (κ := κ) (a := a) (r := r) (q := q) (f := f) (i := i1) (by omega))) rfl rfl rfl hl.1 rfl (Nat.le_of_ble_eq_true rfl) dX5_text_68 (fun o w' H locs hp hB => ?_)
                  obtain ⟨_, ⟨x476, rfl, rfl⟩, hw9⟩ := hp
                  replace hB : Bd κ A s (bA κ Pb_41 Pn_41 bs_41 :: (q4, .inr (1, [.ref Pb_41, .int 0, .int 0, .int (nI Pc_41)])) :: cw κ a r q f) H locs := by rw [hw9] at hB; exact Bd_comm (w1 := cw κ a r q f) (w2 := [bA κ Pb_41 Pn_41 bs_41, (q4, .inr (1, [.ref Pb_41, .int 0, .int 0, .int (nI Pc_41)]))]) hB
                  refine W.eq (g2 := F0 m 71 ls [.long x476, .ref q4]) rfl ?_
                  refine lv_l2i hx hb dX5_text_71 rfl ?_
                  refine call_V (n := 1) (k0 := 1) (As := [.int ((x476).toInt32)]) (rest := []) hX hB (k_J4_append_bf812 κ l (cw κ a r q f) q4 Pb_41 Pn_41 Pc_41 0 bs_41 ((x476).toInt32) (by omega) (by omega) hfb41 (by omega) (by omega)) ⟨rfl, yk_J4_append_bf812⟩ wm_4_112 wm_4_113 wm_4_114 wm_1_18 wm_4_115 ⟨Nat.le_of_ble_eq_true rfl, Nat.le_of_ble_eq_true rfl⟩ ⟨by dsimp only [Rm]; omega, by dsimp only [Rm]; omega⟩ rfl rfl rfl rfl hl.1 rfl (Nat.le_of_ble_eq_true rfl) dX5_text_72 (fun o w' H locs hp hB => ?_)
                  obtain ⟨q477, n478, F479, c480, rfl, hf481, hf482, hw9⟩ := hp
                  replace hB : Bd κ A s (bA κ q477 n478 F479 :: (q4, .inr (1, [.ref q477, .int 0, .int 0, .int (nI c480)])) :: cw κ a r q f) H locs := by rw [hw9] at hB; exact hB
                  refine W.eq (g2 := F0 m 75 ls [.ref q4]) rfl ?_
                  refine lv_pop hx hb dX5_text_75 rfl ?_
                  refine lv_iinc (v := nI (y5_41 + 1)) (lv' := [(5, .int (nI (y5_41 + 1))), (4, .int (nI y4_17)), (3, .ref q4), (2, .ref (a (6 + 2 * i1))), (0, .ref (a 0)), (1, .int p0)]) hx hb dX5_text_76 hl (k := 0) rfl (nI_add y5_41 1) (by decide) rfl (fun ls hl => ?_)
                  refine lv_goto (tgt := 41) hx hb dX5_text_79 (by decide) ?_
                  refine W.widen (k := 3 + y4_17 * 11 + (y5_41 + 1) * 2) (n := 1010 + y4_17 * 9020 + (y5_41 + 1) * 1640) (by omega) (by omega) ?_
                  exact ih41 (y5_41 + 1) q477 c480 n478 F479 _ _ (by omega) (⟨by omega, by omega, by omega, by omega⟩) hf482 (by omega) hB _ hl
                · replace c475 : ¬ nI y5_41 ≤ nI 0 := c475
                  rw [nleP (by omega) (by omega)] at c475
                  refine lv_aload_n hx hb dX5_text_55 rfl (lv_at hl 2 rfl) ?_
                  refine lv_bipush (v := 32) hx hb dX5_text_56 (by decide) ?_
                  refine call_V (n := 1) (k0 := 1) (As := [.int 32]) (rest := []) hX hB (k_J4_append_cf468 κ l (cw κ a r q f) q4 Pb_41 Pn_41 Pc_41 0 bs_41 32 32 (by omega) (by omega) hfb41 rfl (by omega) (by omega) (by omega)) ⟨rfl, yk_J4_append_cf468⟩ wm_4_21 wm_4_22 wm_4_23 wm_1_18 wm_4_24 ⟨Nat.le_of_ble_eq_true rfl, Nat.le_of_ble_eq_true rfl⟩ ⟨by dsimp only [Rm]; omega, by dsimp only [Rm]; omega⟩ rfl rfl rfl rfl hl.1 rfl (Nat.le_of_ble_eq_true rfl) dX5_text_58 (fun o w' H locs hp hB => ?_)
                  obtain ⟨q483, n484, F485, rfl, hf486, hf487, hw9⟩ := hp
                  replace hB : Bd κ A s (bA κ q483 n484 F485 :: (q4, .inr (1, [.ref q483, .int 0, .int 0, .int (nI (Pc_41 + 1))])) :: cw κ a r q f) H locs := by rw [hw9] at hB; exact hB
                  refine W.eq (g2 := F0 m 61 ls [.ref q4]) rfl ?_
                  refine lv_pop hx hb dX5_text_61 rfl ?_
                  refine lv_aload_n hx hb dX5_text_62 rfl (lv_at hl 2 rfl) ?_
                  refine lv_aload_n hx hb dX5_text_63 rfl (lv_at hl 3 rfl) ?_
                  refine lv_iload hx hb dX5_text_64 (lv_at hl 1 rfl) ?_
                  refine lv_iload hx hb dX5_text_66 (lv_at hl 0 rfl) ?_
                  replace hB : Bd κ A s (cw κ a r q f ++ [bA κ q483 n484 F485, (q4, .inr (1, [.ref q483, .int 0, .int 0, .int (nI (Pc_41 + 1))]))]) H locs := Bd_comm (w1 := [bA κ q483 n484 F485, (q4, .inr (1, [.ref q483, .int 0, .int 0, .int (nI (Pc_41 + 1))]))]) (w2 := cw κ a r q f) hB
                  refine call_V (n := 2) (k0 := (6 + 2 * i1)) (As := [.int (nI y4_17), .int (nI y5_41)]) (rest := [.ref q4]) hX hB (CM_frame [bA κ q483 n484 F485, (q4, .inr (1, [.ref q483, .int 0, .int 0, .int (nI (Pc_41 + 1))]))] (o_X3_get κ l a r q f i1 (nI y4_17) (nI y5_41) (by omega))) ⟨rfl, yk_X3_get⟩ wm_2_123 wm_1_187 wm_1_188 wm_1_2 wm_1_189 ⟨Nat.le_of_ble_eq_true rfl, Nat.le_of_ble_eq_true rfl⟩ ⟨by dsimp only [Rm]; omega, by dsimp only [Rm]; omega⟩ (app_at (cwG (κ := κ) (a := a) (r := r) (q := q) (f := f) (i := i1) (by omega))) rfl rfl rfl hl.1 rfl (Nat.le_of_ble_eq_true rfl) dX5_text_68 (fun o w' H locs hp hB => ?_)
                  obtain ⟨_, ⟨x488, rfl, rfl⟩, hw9⟩ := hp
                  replace hB : Bd κ A s (bA κ q483 n484 F485 :: (q4, .inr (1, [.ref q483, .int 0, .int 0, .int (nI (Pc_41 + 1))])) :: cw κ a r q f) H locs := by rw [hw9] at hB; exact Bd_comm (w1 := cw κ a r q f) (w2 := [bA κ q483 n484 F485, (q4, .inr (1, [.ref q483, .int 0, .int 0, .int (nI (Pc_41 + 1))]))]) hB
                  refine W.eq (g2 := F0 m 71 ls [.long x488, .ref q4]) rfl ?_
                  refine lv_l2i hx hb dX5_text_71 rfl ?_
                  refine call_V (n := 1) (k0 := 1) (As := [.int ((x488).toInt32)]) (rest := []) hX hB (k_J4_append_bf812 κ l (cw κ a r q f) q4 q483 n484 (Pc_41 + 1) 0 F485 ((x488).toInt32) (by omega) (by omega) hf487 (by omega) (by omega)) ⟨rfl, yk_J4_append_bf812⟩ wm_4_112 wm_4_113 wm_4_114 wm_1_18 wm_4_115 ⟨Nat.le_of_ble_eq_true rfl, Nat.le_of_ble_eq_true rfl⟩ ⟨by dsimp only [Rm]; omega, by dsimp only [Rm]; omega⟩ rfl rfl rfl rfl hl.1 rfl (Nat.le_of_ble_eq_true rfl) dX5_text_72 (fun o w' H locs hp hB => ?_)
                  obtain ⟨q489, n490, F491, c492, rfl, hf493, hf494, hw9⟩ := hp
                  replace hB : Bd κ A s (bA κ q489 n490 F491 :: (q4, .inr (1, [.ref q489, .int 0, .int 0, .int (nI c492)])) :: cw κ a r q f) H locs := by rw [hw9] at hB; exact hB
                  refine W.eq (g2 := F0 m 75 ls [.ref q4]) rfl ?_
                  refine lv_pop hx hb dX5_text_75 rfl ?_
                  refine lv_iinc (v := nI (y5_41 + 1)) (lv' := [(5, .int (nI (y5_41 + 1))), (4, .int (nI y4_17)), (3, .ref q4), (2, .ref (a (6 + 2 * i1))), (0, .ref (a 0)), (1, .int p0)]) hx hb dX5_text_76 hl (k := 0) rfl (nI_add y5_41 1) (by decide) rfl (fun ls hl => ?_)
                  refine lv_goto (tgt := 41) hx hb dX5_text_79 (by decide) ?_
                  refine W.widen (k := 3 + y4_17 * 11 + (y5_41 + 1) * 2) (n := 1010 + y4_17 * 9020 + (y5_41 + 1) * 1640) (by omega) (by omega) ?_
                  exact ih41 (y5_41 + 1) q489 c492 n490 F491 _ _ (by omega) (⟨by omega, by omega, by omega, by omega⟩) hf494 (by omega) hB _ hl
          refine W.widen (k := 3 + y4_17 * 11 + 0 * 2) (n := 1010 + y4_17 * 9020 + 0 * 1640) (by omega) (by omega) ?_
          exact lp41 _ 0 Pb_17 Pc_17 Pn_17 bs_17 _ _ (by omega) (⟨by omega, by omega, by omega, by omega⟩) hfb17 (Nat.lt_succ_self _) hB _ hl
        · replace c443 : ¬ nI y4_17 ≤ nI 0 := c443
          rw [nleP (by omega) (by omega)] at c443
          refine lv_aload_n hx hb dX5_text_31 rfl (lv_at hl 1 rfl) ?_
          refine lv_bipush (v := 47) hx hb dX5_text_32 (by decide) ?_
          refine call_V (n := 1) (k0 := 1) (As := [.int 47]) (rest := []) hX hB (k_J4_append_cf468 κ l (cw κ a r q f) q4 Pb_17 Pn_17 Pc_17 0 bs_17 47 47 (by omega) (by omega) hfb17 rfl (by omega) (by omega) (by omega)) ⟨rfl, yk_J4_append_cf468⟩ wm_4_21 wm_4_22 wm_4_23 wm_1_18 wm_4_24 ⟨Nat.le_of_ble_eq_true rfl, Nat.le_of_ble_eq_true rfl⟩ ⟨by dsimp only [Rm]; omega, by dsimp only [Rm]; omega⟩ rfl rfl rfl rfl hl.1 rfl (Nat.le_of_ble_eq_true rfl) dX5_text_34 (fun o w' H locs hp hB => ?_)
          obtain ⟨q495, n496, F497, rfl, hf498, hf499, hw9⟩ := hp
          replace hB : Bd κ A s (bA κ q495 n496 F497 :: (q4, .inr (1, [.ref q495, .int 0, .int 0, .int (nI (Pc_17 + 1))])) :: cw κ a r q f) H locs := by rw [hw9] at hB; exact hB
          refine W.eq (g2 := F0 m 37 ls [.ref q4]) rfl ?_
          refine lv_pop hx hb dX5_text_37 rfl ?_
          refine lv_iconst (v := 0) hx hb dX5_text_38 (by decide) ?_
          refine lv_istore (lv' := [(5, .int 0), (4, .int (nI y4_17)), (3, .ref q4), (2, .ref (a (6 + 2 * i1))), (0, .ref (a 0)), (1, .int p0)]) hx hb dX5_text_39 hl (by decide) rfl (fun ls hl => ?_)
          have lp41 : ∀ (nn : Nat) (y5_41 : Nat) (Pb_41 : Nat) (Pc_41 : Nat) (Pn_41 : Nat) (bs_41 : Nat → Int32) (H : Heap) (locs : List Loc), (y5_41 ≤ CC) → (Pc_41 ≤ Pn_41 ∧ Pn_41 ≤ 1000 ∧ Pn_41 ≤ 2 * Pc_41 + 16 ∧ Pc_41 ≤ y4_17 * 61 + 1 + y5_41 * 12) → (sb_Fit bs_41) → CC + 1 - y5_41 < nn → Bd κ A s (bA κ Pb_41 Pn_41 bs_41 :: (q4, .inr (1, [.ref Pb_41, .int 0, .int 0, .int (nI Pc_41)])) :: cw κ a r q f) H locs → ∀ ls : Array Slot, lv_has ls 6 [(5, .int (nI y5_41)), (4, .int (nI y4_17)), (3, .ref q4), (2, .ref (a (6 + 2 * i1))), (0, .ref (a 0)), (1, .int p0)] → W p l e (Rm 7 171 49 38094) s m args below meth c H locs (4 + y4_17 * 11 + y5_41 * 2) (1830 + y4_17 * 9020 + y5_41 * 1640) Q (F0 m 41 ls []) := by
            intro nn
            induction nn with
            | zero => intro y5_41 Pb_41 Pc_41 Pn_41 bs_41 H locs hn5_41 hsb41 hfb41 hμ; exact absurd hμ (Nat.not_lt_zero _)
            | succ nn ih41 =>
              intro y5_41 Pb_41 Pc_41 Pn_41 bs_41 H locs hn5_41 hsb41 hfb41 hμ41 hB ls hl
              refine lv_iload hx hb dX5_text_41 (lv_at hl 0 rfl) ?_
              refine lv_aload_n hx hb dX5_text_43 rfl (lv_at hl 3 rfl) ?_
              refine gfN (k0 := 6 + 2 * i1 + 2) hX hB (cwGn (a := a) (r := r) (q := q) (f := f) (i := i1) (by omega) hRR hCC) rfl in3 2 (by decide) wn_1_57 rfl rfl dX5_text_44 ?_
              refine lv_icmp_ge (tgt := 82) hx hb dX5_text_47 (by decide) (fun c530 => ?_) (fun c530 => ?_)
              · rw [nleP (a := CC) (b := y5_41) (by omega) (by omega)] at c530
                refine W.widen (k := 14 + y4_17 * 11) (n := 10030 + y4_17 * 9020) (by omega) (by omega) ?_
                refine lv_iinc (v := nI (y4_17 + 1)) (lv' := [(4, .int (nI (y4_17 + 1))), (5, .int (nI y5_41)), (3, .ref q4), (2, .ref (a (6 + 2 * i1))), (0, .ref (a 0)), (1, .int p0)]) hx hb dX5_text_82 hl (k := 1) rfl (nI_add y4_17 1) (by decide) rfl (fun ls hl => ?_)
                refine lv_goto (tgt := 17) hx hb dX5_text_85 (by decide) ?_
                refine W.widen (k := 3 + (y4_17 + 1) * 11) (n := 1010 + (y4_17 + 1) * 9020) (by omega) (by omega) ?_
                exact ih17 (y4_17 + 1) Pb_41 Pc_41 Pn_41 bs_41 _ _ (by omega) (⟨by omega, by omega, by omega, by omega⟩) hfb41 (by omega) hB _ (lv_sub hl [0, 2, 3, 4, 5] rfl)
              · rw [nleP (a := CC) (b := y5_41) (by omega) (by omega)] at c530
                refine lv_iload hx hb dX5_text_50 (lv_at hl 0 rfl) ?_
                refine lv_if_le (tgt := 62) hx hb dX5_text_52 (by decide) (fun c531 => ?_) (fun c531 => ?_)
                · replace c531 : nI y5_41 ≤ nI 0 := c531
                  rw [nleP (by omega) (by omega)] at c531
                  refine lv_aload_n hx hb dX5_text_62 rfl (lv_at hl 2 rfl) ?_
                  refine lv_aload_n hx hb dX5_text_63 rfl (lv_at hl 3 rfl) ?_
                  refine lv_iload hx hb dX5_text_64 (lv_at hl 1 rfl) ?_
                  refine lv_iload hx hb dX5_text_66 (lv_at hl 0 rfl) ?_
                  replace hB : Bd κ A s (cw κ a r q f ++ [bA κ Pb_41 Pn_41 bs_41, (q4, .inr (1, [.ref Pb_41, .int 0, .int 0, .int (nI Pc_41)]))]) H locs := Bd_comm (w1 := [bA κ Pb_41 Pn_41 bs_41, (q4, .inr (1, [.ref Pb_41, .int 0, .int 0, .int (nI Pc_41)]))]) (w2 := cw κ a r q f) hB
                  refine call_V (n := 2) (k0 := (6 + 2 * i1)) (As := [.int (nI y4_17), .int (nI y5_41)]) (rest := [.ref q4]) hX hB (CM_frame [bA κ Pb_41 Pn_41 bs_41, (q4, .inr (1, [.ref Pb_41, .int 0, .int 0, .int (nI Pc_41)]))] (o_X3_get κ l a r q f i1 (nI y4_17) (nI y5_41) (by omega))) ⟨rfl, yk_X3_get⟩ wm_2_123 wm_1_187 wm_1_188 wm_1_2 wm_1_189 ⟨Nat.le_of_ble_eq_true rfl, Nat.le_of_ble_eq_true rfl⟩ ⟨by dsimp only [Rm]; omega, by dsimp only [Rm]; omega⟩ (app_at (cwG (κ := κ) (a := a) (r := r) (q := q) (f := f) (i := i1) (by omega))) rfl rfl rfl hl.1 rfl (Nat.le_of_ble_eq_true rfl) dX5_text_68 (fun o w' H locs hp hB => ?_)
                  obtain ⟨_, ⟨x532, rfl, rfl⟩, hw9⟩ := hp
                  replace hB : Bd κ A s (bA κ Pb_41 Pn_41 bs_41 :: (q4, .inr (1, [.ref Pb_41, .int 0, .int 0, .int (nI Pc_41)])) :: cw κ a r q f) H locs := by rw [hw9] at hB; exact Bd_comm (w1 := cw κ a r q f) (w2 := [bA κ Pb_41 Pn_41 bs_41, (q4, .inr (1, [.ref Pb_41, .int 0, .int 0, .int (nI Pc_41)]))]) hB
                  refine W.eq (g2 := F0 m 71 ls [.long x532, .ref q4]) rfl ?_
                  refine lv_l2i hx hb dX5_text_71 rfl ?_
                  refine call_V (n := 1) (k0 := 1) (As := [.int ((x532).toInt32)]) (rest := []) hX hB (k_J4_append_bf812 κ l (cw κ a r q f) q4 Pb_41 Pn_41 Pc_41 0 bs_41 ((x532).toInt32) (by omega) (by omega) hfb41 (by omega) (by omega)) ⟨rfl, yk_J4_append_bf812⟩ wm_4_112 wm_4_113 wm_4_114 wm_1_18 wm_4_115 ⟨Nat.le_of_ble_eq_true rfl, Nat.le_of_ble_eq_true rfl⟩ ⟨by dsimp only [Rm]; omega, by dsimp only [Rm]; omega⟩ rfl rfl rfl rfl hl.1 rfl (Nat.le_of_ble_eq_true rfl) dX5_text_72 (fun o w' H locs hp hB => ?_)
                  obtain ⟨q533, n534, F535, c536, rfl, hf537, hf538, hw9⟩ := hp
                  replace hB : Bd κ A s (bA κ q533 n534 F535 :: (q4, .inr (1, [.ref q533, .int 0, .int 0, .int (nI c536)])) :: cw κ a r q f) H locs := by rw [hw9] at hB; exact hB
                  refine W.eq (g2 := F0 m 75 ls [.ref q4]) rfl ?_
                  refine lv_pop hx hb dX5_text_75 rfl ?_
                  refine lv_iinc (v := nI (y5_41 + 1)) (lv' := [(5, .int (nI (y5_41 + 1))), (4, .int (nI y4_17)), (3, .ref q4), (2, .ref (a (6 + 2 * i1))), (0, .ref (a 0)), (1, .int p0)]) hx hb dX5_text_76 hl (k := 0) rfl (nI_add y5_41 1) (by decide) rfl (fun ls hl => ?_)
                  refine lv_goto (tgt := 41) hx hb dX5_text_79 (by decide) ?_
                  refine W.widen (k := 4 + y4_17 * 11 + (y5_41 + 1) * 2) (n := 1830 + y4_17 * 9020 + (y5_41 + 1) * 1640) (by omega) (by omega) ?_
                  exact ih41 (y5_41 + 1) q533 c536 n534 F535 _ _ (by omega) (⟨by omega, by omega, by omega, by omega⟩) hf538 (by omega) hB _ hl
                · replace c531 : ¬ nI y5_41 ≤ nI 0 := c531
                  rw [nleP (by omega) (by omega)] at c531
                  refine lv_aload_n hx hb dX5_text_55 rfl (lv_at hl 2 rfl) ?_
                  refine lv_bipush (v := 32) hx hb dX5_text_56 (by decide) ?_
                  refine call_V (n := 1) (k0 := 1) (As := [.int 32]) (rest := []) hX hB (k_J4_append_cf468 κ l (cw κ a r q f) q4 Pb_41 Pn_41 Pc_41 0 bs_41 32 32 (by omega) (by omega) hfb41 rfl (by omega) (by omega) (by omega)) ⟨rfl, yk_J4_append_cf468⟩ wm_4_21 wm_4_22 wm_4_23 wm_1_18 wm_4_24 ⟨Nat.le_of_ble_eq_true rfl, Nat.le_of_ble_eq_true rfl⟩ ⟨by dsimp only [Rm]; omega, by dsimp only [Rm]; omega⟩ rfl rfl rfl rfl hl.1 rfl (Nat.le_of_ble_eq_true rfl) dX5_text_58 (fun o w' H locs hp hB => ?_)
                  obtain ⟨q539, n540, F541, rfl, hf542, hf543, hw9⟩ := hp
                  replace hB : Bd κ A s (bA κ q539 n540 F541 :: (q4, .inr (1, [.ref q539, .int 0, .int 0, .int (nI (Pc_41 + 1))])) :: cw κ a r q f) H locs := by rw [hw9] at hB; exact hB
                  refine W.eq (g2 := F0 m 61 ls [.ref q4]) rfl ?_
                  refine lv_pop hx hb dX5_text_61 rfl ?_
                  refine lv_aload_n hx hb dX5_text_62 rfl (lv_at hl 2 rfl) ?_
                  refine lv_aload_n hx hb dX5_text_63 rfl (lv_at hl 3 rfl) ?_
                  refine lv_iload hx hb dX5_text_64 (lv_at hl 1 rfl) ?_
                  refine lv_iload hx hb dX5_text_66 (lv_at hl 0 rfl) ?_
                  replace hB : Bd κ A s (cw κ a r q f ++ [bA κ q539 n540 F541, (q4, .inr (1, [.ref q539, .int 0, .int 0, .int (nI (Pc_41 + 1))]))]) H locs := Bd_comm (w1 := [bA κ q539 n540 F541, (q4, .inr (1, [.ref q539, .int 0, .int 0, .int (nI (Pc_41 + 1))]))]) (w2 := cw κ a r q f) hB
                  refine call_V (n := 2) (k0 := (6 + 2 * i1)) (As := [.int (nI y4_17), .int (nI y5_41)]) (rest := [.ref q4]) hX hB (CM_frame [bA κ q539 n540 F541, (q4, .inr (1, [.ref q539, .int 0, .int 0, .int (nI (Pc_41 + 1))]))] (o_X3_get κ l a r q f i1 (nI y4_17) (nI y5_41) (by omega))) ⟨rfl, yk_X3_get⟩ wm_2_123 wm_1_187 wm_1_188 wm_1_2 wm_1_189 ⟨Nat.le_of_ble_eq_true rfl, Nat.le_of_ble_eq_true rfl⟩ ⟨by dsimp only [Rm]; omega, by dsimp only [Rm]; omega⟩ (app_at (cwG (κ := κ) (a := a) (r := r) (q := q) (f := f) (i := i1) (by omega))) rfl rfl rfl hl.1 rfl (Nat.le_of_ble_eq_true rfl) dX5_text_68 (fun o w' H locs hp hB => ?_)
                  obtain ⟨_, ⟨x544, rfl, rfl⟩, hw9⟩ := hp
                  replace hB : Bd κ A s (bA κ q539 n540 F541 :: (q4, .inr (1, [.ref q539, .int 0, .int 0, .int (nI (Pc_41 + 1))])) :: cw κ a r q f) H locs := by rw [hw9] at hB; exact Bd_comm (w1 := cw κ a r q f) (w2 := [bA κ q539 n540 F541, (q4, .inr (1, [.ref q539, .int 0, .int 0, .int (nI (Pc_41 + 1))]))]) hB
                  refine W.eq (g2 := F0 m 71 ls [.long x544, .ref q4]) rfl ?_
                  refine lv_l2i hx hb dX5_text_71 rfl ?_
                  refine call_V (n := 1) (k0 := 1) (As := [.int ((x544).toInt32)]) (rest := []) hX hB (k_J4_append_bf812 κ l (cw κ a r q f) q4 q539 n540 (Pc_41 + 1) 0 F541 ((x544).toInt32) (by omega) (by omega) hf543 (by omega) (by omega)) ⟨rfl, yk_J4_append_bf812⟩ wm_4_112 wm_4_113 wm_4_114 wm_1_18 wm_4_115 ⟨Nat.le_of_ble_eq_true rfl, Nat.le_of_ble_eq_true rfl⟩ ⟨by dsimp only [Rm]; omega, by dsimp only [Rm]; omega⟩ rfl rfl rfl rfl hl.1 rfl (Nat.le_of_ble_eq_true rfl) dX5_text_72 (fun o w' H locs hp hB => ?_)
                  obtain ⟨q545, n546, F547, c548, rfl, hf549, hf550, hw9⟩ := hp
                  replace hB : Bd κ A s (bA κ q545 n546 F547 :: (q4, .inr (1, [.ref q545, .int 0, .int 0, .int (nI c548)])) :: cw κ a r q f) H locs := by rw [hw9] at hB; exact hB
                  refine W.eq (g2 := F0 m 75 ls [.ref q4]) rfl ?_
                  refine lv_pop hx hb dX5_text_75 rfl ?_
                  refine lv_iinc (v := nI (y5_41 + 1)) (lv' := [(5, .int (nI (y5_41 + 1))), (4, .int (nI y4_17)), (3, .ref q4), (2, .ref (a (6 + 2 * i1))), (0, .ref (a 0)), (1, .int p0)]) hx hb dX5_text_76 hl (k := 0) rfl (nI_add y5_41 1) (by decide) rfl (fun ls hl => ?_)
                  refine lv_goto (tgt := 41) hx hb dX5_text_79 (by decide) ?_
                  refine W.widen (k := 4 + y4_17 * 11 + (y5_41 + 1) * 2) (n := 1830 + y4_17 * 9020 + (y5_41 + 1) * 1640) (by omega) (by omega) ?_
                  exact ih41 (y5_41 + 1) q545 c548 n546 F547 _ _ (by omega) (⟨by omega, by omega, by omega, by omega⟩) hf550 (by omega) hB _ hl
          refine W.widen (k := 4 + y4_17 * 11 + 0 * 2) (n := 1830 + y4_17 * 9020 + 0 * 1640) (by omega) (by omega) ?_
          exact lp41 _ 0 q495 (Pc_17 + 1) n496 F497 _ _ (by omega) (⟨by omega, by omega, by omega, by omega⟩) hf499 (Nat.lt_succ_self _) hB _ hl
  refine W.widen (k := 3 + 0 * 11) (n := 1010 + 0 * 9020) (by omega) (by omega) ?_
  exact lp17 _ 0 b5 0 16 (fun _ => 0) _ _ (by omega) (⟨by omega, by omega, by omega, by omega⟩) sb_fit0 (Nat.lt_succ_self _) hB _ hl
set_option maxHeartbeats 4000000 in
set_option maxRecDepth 100000 in
theorem k_X5_rest (κ : Kt) (l : Launch) (hst : l.stackTraces = false) (a : Nat → Nat) (r q : Nat → Int32) (f : Nat → Nat → Int64) (p0 : Int32) (p1 : Int32) (hok : okr r) : CX κ l yX5_rest cX5_rest 9 (some (.object "java/lang/String")) 7 186 17 10226 [.ref (a 0), .int p0, .int p1] (cw κ a r q f) (fun o w' => ∃ q1 : Nat, ∃ (r' q' : Nat → Int32) (f' : Nat → Nat → Int64), o = some (.ref q1) ∧ (okr r → okr r') ∧ q' 4 = q 4 ∧ Ks r q f r' q' f' ∧ w' = cw κ a r' q' f') (fun E w' => E ∈ (["java/lang/IndexOutOfBoundsException", "java/lang/IllegalStateException", "java/lang/IllegalArgumentException"] : List String) ∧ ∃ (r' q' : Nat → Int32) (f' : Nat → Nat → Int64), (okr r → okr r') ∧ q' 4 = q 4 ∧ Ks r q f r' q' f' ∧ w' = cw κ a r' q' f') := by
  refine CX_begin (by decide) (Nat.le_of_ble_eq_true rfl) ?_
  intro p e s m args below meth c A Q hX hne hA3 hQ hB ls hl
  have hx := hX.1.1
  have hb := hX.1.2.1
  have hl : lv_has ls 9 [(0, .ref (a 0)), (1, .int p0), (2, .int p1)] := hl
  refine lv_aload_n hx hb dX5_rest_0 rfl (lv_at hl 0 rfl) ?_
  refine lv_iload_n hx hb dX5_rest_1 rfl (lv_at hl 1 rfl) ?_
  refine CX_after2 hX hB (run_XV (n := 1) (k0 := 0) (As := [.int p0]) (rest := []) hX hB (o_X5_needTable κ l hst a r q f p0) ⟨rfl, yk_X5_needTable⟩ wm_2_165 wm_2_167 wp_17 wm_1_1 wm_2_168 ⟨Nat.le_of_ble_eq_true rfl, Nat.le_of_ble_eq_true rfl⟩ ⟨Nat.le_of_ble_eq_true rfl, Nat.le_of_ble_eq_true rfl⟩ cw0 rfl rfl rfl hl.1 rfl (Nat.le_of_ble_eq_true rfl) dX5_rest_2) (fun E ce q9 w' H locs hp hB hce hcv hcl => ?_) (fun o w' H locs hp hB => ?_)
  · obtain ⟨hE3, rfl⟩ := hp
    rw [← hQ]
    exact thrown_on hX hne hB hA3 hce hcv hcl ⟨((by decide : ∀ x ∈ (["java/lang/IndexOutOfBoundsException"] : List String), x ∈ (["java/lang/IndexOutOfBoundsException", "java/lang/IllegalStateException", "java/lang/IllegalArgumentException"] : List String)) _ hE3), r, q, f, (fun h => h), rfl, Ks_rf, rfl⟩ (Nat.le_of_ble_eq_true rfl) (Nat.le_of_ble_eq_true rfl)
  obtain ⟨i1, hi2, rfl, hw9⟩ := hp
  replace hB : Bd κ A s (cw κ a r q f) H locs := by rw [hw9] at hB; exact hB
  obtain ⟨RR, hRR, hRR1, hRR4⟩ := okr_R ((fun h => h) hok) (i := i1) (by omega)
  obtain ⟨CC, hCC, hCC1, hCC5⟩ := okr_C ((fun h => h) hok) (i := i1) (by omega)
  refine W.eq (g2 := F0 m 5 ls [.ref (a (6 + 2 * i1))]) rfl ?_
  refine lv_astore_n (lv' := [(3, .ref (a (6 + 2 * i1))), (0, .ref (a 0)), (1, .int p0), (2, .int p1)]) hx hb dX5_rest_5 rfl hl (by decide) rfl (fun ls hl => ?_)
  refine lv_aload_n hx hb dX5_rest_6 rfl (lv_at hl 1 rfl) ?_
  refine lv_aload_n hx hb dX5_rest_7 rfl (lv_at hl 0 rfl) ?_
  refine call_V (n := 1) (k0 := 0) (As := [.ref (a (6 + 2 * i1))]) (rest := []) hX hB (o_X5_leavesRests κ l a r q f i1 (by omega)) ⟨rfl, yk_X5_leavesRests⟩ wm_5_105 wm_5_107 wp_24 wm_1_1 wm_5_108 ⟨Nat.le_of_ble_eq_true rfl, Nat.le_of_ble_eq_true rfl⟩ ⟨Nat.le_of_ble_eq_true rfl, Nat.le_of_ble_eq_true rfl⟩ cw0 rfl rfl rfl hl.1 rfl (Nat.le_of_ble_eq_true rfl) dX5_rest_8 (fun o w' H locs hp hB => ?_)
  obtain ⟨x4, r5, q6, f7, rfl, bx4, ho8, hq9, hk10, hw9⟩ := hp
  replace hB : Bd κ A s (cw κ a r5 q6 f7) H locs := by rw [hw9] at hB; exact hB
  obtain ⟨RR, hRR, hRR1, hRR4⟩ := okr_R ((fun h => ho8 ((fun h => h) h)) hok) (i := i1) (by omega)
  obtain ⟨CC, hCC, hCC1, hCC5⟩ := okr_C ((fun h => ho8 ((fun h => h) h)) hok) (i := i1) (by omega)
  refine W.eq (g2 := F0 m 11 ls [.int x4]) rfl ?_
  refine CX_after2 hX hB (run_XS (n := 1) (As := [.int x4]) (rest := []) hX hB (o_X5_needState κ l hst a r5 q6 f7 x4) yk_X5_needState wm_5_26 wm_5_27 wm_1_1 wm_5_28 ⟨Nat.le_of_ble_eq_true rfl, Nat.le_of_ble_eq_true rfl⟩ ⟨Nat.le_of_ble_eq_true rfl, Nat.le_of_ble_eq_true rfl⟩ rfl hl.1 rfl (Nat.le_of_ble_eq_true rfl) dX5_rest_11) (fun E ce q9 w' H locs hp hB hce hcv hcl => ?_) (fun o w' H locs hp hB => ?_)
  · obtain ⟨hE11, rfl⟩ := hp
    rw [← hQ]
    exact thrown_on hX hne hB hA3 hce hcv hcl ⟨((by decide : ∀ x ∈ (["java/lang/IllegalStateException"] : List String), x ∈ (["java/lang/IndexOutOfBoundsException", "java/lang/IllegalStateException", "java/lang/IllegalArgumentException"] : List String)) _ hE11), r5, q6, f7, (fun h => ho8 ((fun h => h) h)), (hq9.trans rfl), (Ks_tr hk10 Ks_rf), rfl⟩ (Nat.le_of_ble_eq_true rfl) (Nat.le_of_ble_eq_true rfl)
  obtain ⟨rfl, hw9⟩ := hp
  replace hB : Bd κ A s (cw κ a r5 q6 f7) H locs := by rw [hw9] at hB; exact hB
  refine W.eq (g2 := F0 m 14 ls []) rfl ?_
  refine lv_iload_n hx hb dX5_rest_14 rfl (lv_at hl 3 rfl) ?_
  refine lv_i2l hx hb dX5_rest_15 rfl ?_
  refine lv_lstore (lv' := [(4, .long ((p1).toInt64)), (3, .ref (a (6 + 2 * i1))), (0, .ref (a 0)), (1, .int p0), (2, .int p1)]) hx hb dX5_rest_16 hl (by decide) rfl (fun ls hl => ?_)
  refine lv_aload_n hx hb dX5_rest_18 rfl (lv_at hl 1 rfl) ?_
  refine gfN (k0 := 6 + 2 * i1) hX hB (cwGn (a := a) (r := r5) (q := q6) (f := f7) (i := i1) (by omega) hRR hCC) rfl in3 2 (by decide) wn_1_57 rfl rfl dX5_rest_19 ?_
  refine lv_iconst (v := 1) hx hb dX5_rest_22 (by decide) ?_
  refine lv_isub hx hb dX5_rest_23 ?_
  refine eqi (y := nI (CC - 1)) (nI_sub (a := CC) (b := 1) (by omega)) ?_
  refine lv_istore (lv' := [(6, .int (nI (CC - 1))), (4, .long ((p1).toInt64)), (3, .ref (a (6 + 2 * i1))), (0, .ref (a 0)), (1, .int p0), (2, .int p1)]) hx hb dX5_rest_24 hl (by decide) rfl (fun ls hl => ?_)
  have lp26 : ∀ (nn : Nat) (y6_26 : Int32) (y4_26 : Int64) (f_26 : Nat → Nat → Int64) (H : Heap) (locs : List Loc), (Ks r q f r5 q6 f_26) → gapd y6_26 < nn → Bd κ A s (cw κ a r5 q6 f_26) H locs → ∀ ls : Array Slot, lv_has ls 9 [(6, .int y6_26), (4, .long y4_26), (3, .ref (a (6 + 2 * i1))), (0, .ref (a 0)), (1, .int p0), (2, .int p1)] → W p l e (Rm 7 186 17 10226) s m args below meth c H locs (2) (12) Q (F0 m 26 ls []) := by
    intro nn
    induction nn with
    | zero => intro y6_26 y4_26 f_26 H locs hks26 hμ; exact absurd hμ (Nat.not_lt_zero _)
    | succ nn ih26 =>
      intro y6_26 y4_26 f_26 H locs hks26 hμ26 hB ls hl
      refine lv_iload hx hb dX5_rest_26 (lv_at hl 0 rfl) ?_
      refine lv_if_lt (tgt := 75) hx hb dX5_rest_28 (by decide) (fun c148 => ?_) (fun c148 => ?_)
      · refine lv_iload_n hx hb dX5_rest_75 rfl (lv_at hl 5 rfl) ?_
        have jn91 : ∀ (z0_91 : Int32) (H : Heap) (locs : List Loc), (z0_91 = 0 ∨ z0_91 = 1) → Bd κ A s (cw κ a r5 q6 f_26) H locs → ∀ ls : Array Slot, lv_has ls 9 [(6, .int y6_26), (4, .long y4_26), (3, .ref (a (6 + 2 * i1))), (0, .ref (a 0)), (1, .int p0), (2, .int p1)] → W p l e (Rm 7 186 17 10226) s m args below meth c H locs (2) (12) Q (F0 m 91 ls [.int z0_91]) := by
          intro z0_91 H locs hz0_91 hB ls hl
          refine CX_after2 hX hB (run_XS (n := 1) (As := [.int z0_91]) (rest := []) hX hB (o_X5_needArgument κ l hst a r5 q6 f_26 z0_91) yk_X5_needArgument wm_3_0 wm_3_1 wm_1_1 wm_3_2 ⟨Nat.le_of_ble_eq_true rfl, Nat.le_of_ble_eq_true rfl⟩ ⟨Nat.le_of_ble_eq_true rfl, Nat.le_of_ble_eq_true rfl⟩ rfl hl.1 rfl (Nat.le_of_ble_eq_true rfl) dX5_rest_91) (fun E ce q9 w' H locs hp hB hce hcv hcl => ?_) (fun o w' H locs hp hB => ?_)
          · obtain ⟨hE151, rfl⟩ := hp
            rw [← hQ]
            exact thrown_on hX hne hB hA3 hce hcv hcl ⟨((by decide : ∀ x ∈ (["java/lang/IllegalArgumentException"] : List String), x ∈ (["java/lang/IndexOutOfBoundsException", "java/lang/IllegalStateException", "java/lang/IllegalArgumentException"] : List String)) _ hE151), r5, q6, f_26, (fun h => ho8 ((fun h => h) h)), (hq9.trans rfl), hks26, rfl⟩ (Nat.le_of_ble_eq_true rfl) (Nat.le_of_ble_eq_true rfl)
          obtain ⟨rfl, hw9⟩ := hp
          replace hB : Bd κ A s (cw κ a r5 q6 f_26) H locs := by rw [hw9] at hB; exact hB
          refine W.eq (g2 := F0 m 94 ls []) rfl ?_
          refine newO (fs := [.null, .int 0, .int 0, .int 0]) hX hB (ci := 1) rfl inJ4 tyJ4_ok wm_3_230 wm_3_231 wm_1_18 df1 (Nat.le_of_ble_eq_true rfl) (Nat.le_of_ble_eq_true rfl) dX5_rest_94 (fun q152 H hB => ?_)
          refine lv_dup hx hb dX5_rest_97 rfl ?_
          refine call_I (n := 0) (As := []) (rest := [.ref q152]) hX hB (k_J4_init_da8c8 κ l (cw κ a r5 q6 f_26) q152 ) yk_J4_init_da8c8 rfl wm_3_232 wm_3_233 wm_1_18 wm_3_234 ⟨Nat.le_of_ble_eq_true rfl, Nat.le_of_ble_eq_true rfl⟩ ⟨Nat.le_of_ble_eq_true rfl, Nat.le_of_ble_eq_true rfl⟩ rfl hl.1 rfl (Nat.le_of_ble_eq_true rfl) dX5_rest_98 (fun o w' H locs hp hB => ?_)
          obtain ⟨b153, rfl, hw9⟩ := hp
          replace hB : Bd κ A s (bA κ b153 16 (fun _ => 0) :: (q152, .inr (1, [.ref b153, .int 0, .int 0, .int (nI 0)])) :: cw κ a r5 q6 f_26) H locs := by rw [hw9] at hB; exact hB
          refine W.eq (g2 := F0 m 101 ls [.ref q152]) rfl ?_
          refine lv_astore (lv' := [(6, .ref q152), (4, .long y4_26), (3, .ref (a (6 + 2 * i1))), (0, .ref (a 0)), (1, .int p0), (2, .int p1)]) hx hb dX5_rest_101 hl (by decide) rfl (fun ls hl => ?_)
          refine lv_iconst (v := 0) hx hb dX5_rest_103 (by decide) ?_
          refine lv_istore (lv' := [(7, .int 0), (6, .ref q152), (4, .long y4_26), (3, .ref (a (6 + 2 * i1))), (0, .ref (a 0)), (1, .int p0), (2, .int p1)]) hx hb dX5_rest_104 hl (by decide) rfl (fun ls hl => ?_)
          have lp106 : ∀ (nn : Nat) (y7_106 : Nat) (Pb_106 : Nat) (Pc_106 : Nat) (Pn_106 : Nat) (bs_106 : Nat → Int32) (H : Heap) (locs : List Loc), (y7_106 ≤ CC) → (Pc_106 ≤ Pn_106 ∧ Pn_106 ≤ 1000 ∧ Pn_106 ≤ 2 * Pc_106 + 16 ∧ Pc_106 ≤ y7_106 * 12) → (sb_Fit bs_106) → CC + 1 - y7_106 < nn → Bd κ A s (bA κ Pb_106 Pn_106 bs_106 :: (q152, .inr (1, [.ref Pb_106, .int 0, .int 0, .int (nI Pc_106)])) :: cw κ a r5 q6 f_26) H locs → ∀ ls : Array Slot, lv_has ls 9 [(7, .int (nI y7_106)), (6, .ref q152), (4, .long y4_26), (3, .ref (a (6 + 2 * i1))), (0, .ref (a 0)), (1, .int p0), (2, .int p1)] → W p l e (Rm 7 186 17 10226) s m args below meth c H locs (5 + y7_106 * 2) (1022 + y7_106 * 1640) Q (F0 m 106 ls []) := by
            intro nn
            induction nn with
            | zero => intro y7_106 Pb_106 Pc_106 Pn_106 bs_106 H locs hn7_106 hsb106 hfb106 hμ; exact absurd hμ (Nat.not_lt_zero _)
            | succ nn ih106 =>
              intro y7_106 Pb_106 Pc_106 Pn_106 bs_106 H locs hn7_106 hsb106 hfb106 hμ106 hB ls hl
              refine lv_iload hx hb dX5_rest_106 (lv_at hl 0 rfl) ?_
              refine lv_aload_n hx hb dX5_rest_108 rfl (lv_at hl 3 rfl) ?_
              refine gfN (k0 := 6 + 2 * i1 + 2) hX hB (cwGn (a := a) (r := r5) (q := q6) (f := f_26) (i := i1) (by omega) hRR hCC) rfl in3 2 (by decide) wn_1_57 rfl rfl dX5_rest_109 ?_
              refine lv_icmp_ge (tgt := 147) hx hb dX5_rest_112 (by decide) (fun c237 => ?_) (fun c237 => ?_)
              · rw [nleP (a := CC) (b := y7_106) (by omega) (by omega)] at c237
                refine W.widen (k := 15) (n := 9222) (by omega) (by omega) ?_
                refine lv_aload hx hb dX5_rest_147 (lv_at hl 1 rfl) ?_
                refine call_V (n := 0) (k0 := 1) (As := []) (rest := []) hX hB (k_J4_toString_0e30d κ l (cw κ a r5 q6 f_26) q152 Pb_106 Pn_106 Pc_106 0 bs_106 (by omega) (by omega) hfb106) ⟨rfl, yk_J4_toString_0e30d⟩ wm_4_146 wm_4_147 wm_4_148 wm_1_18 wm_4_149 ⟨Nat.le_of_ble_eq_true rfl, Nat.le_of_ble_eq_true rfl⟩ ⟨Nat.le_of_ble_eq_true rfl, Nat.le_of_ble_eq_true rfl⟩ rfl rfl rfl rfl hl.1 rfl (Nat.le_of_ble_eq_true rfl) dX5_rest_149 (fun o w' H locs hp hB => ?_)
                obtain ⟨q238, rfl, hw9⟩ := hp
                replace hB : Bd κ A s (bA κ Pb_106 Pn_106 bs_106 :: (q152, .inr (1, [.ref Pb_106, .int 0, .int 0, .int (nI Pc_106)])) :: cw κ a r5 q6 f_26) H locs := by rw [hw9] at hB; exact hB
                refine W.eq (g2 := F0 m 152 ls [.ref q238]) rfl ?_
                replace hB : Bd κ A s (cw κ a r5 q6 f_26) H locs := Bd_tail (Bd_tail hB)
                rw [← hQ]
                exact vx_ret ( end_a hX hB hA3 rfl (Or.inr ⟨_, rfl⟩) ⟨q238, r5, q6, f_26, rfl, (fun h => ho8 ((fun h => h) h)), (hq9.trans rfl), hks26, rfl⟩ (Nat.le_of_ble_eq_true rfl) (Nat.le_of_ble_eq_true rfl) dX5_rest_152)
              · rw [nleP (a := CC) (b := y7_106) (by omega) (by omega)] at c237
                refine lv_iload hx hb dX5_rest_115 (lv_at hl 0 rfl) ?_
                refine lv_if_le (tgt := 128) hx hb dX5_rest_117 (by decide) (fun c239 => ?_) (fun c239 => ?_)
                · replace c239 : nI y7_106 ≤ nI 0 := c239
                  rw [nleP (by omega) (by omega)] at c239
                  refine lv_aload hx hb dX5_rest_128 (lv_at hl 1 rfl) ?_
                  refine lv_aload_n hx hb dX5_rest_130 rfl (lv_at hl 4 rfl) ?_
                  refine lv_iload hx hb dX5_rest_131 (lv_at hl 0 rfl) ?_
                  replace hB : Bd κ A s (cw κ a r5 q6 f_26 ++ [bA κ Pb_106 Pn_106 bs_106, (q152, .inr (1, [.ref Pb_106, .int 0, .int 0, .int (nI Pc_106)]))]) H locs := Bd_comm (w1 := [bA κ Pb_106 Pn_106 bs_106, (q152, .inr (1, [.ref Pb_106, .int 0, .int 0, .int (nI Pc_106)]))]) (w2 := cw κ a r5 q6 f_26) hB
                  refine call_V (n := 1) (k0 := 0) (As := [.int (nI y7_106)]) (rest := [.ref q152]) hX hB (CM_frame [bA κ Pb_106 Pn_106 bs_106, (q152, .inr (1, [.ref Pb_106, .int 0, .int 0, .int (nI Pc_106)]))] (o_X5_rowNumber κ l a r5 q6 f_26 (nI y7_106))) ⟨rfl, yk_X5_rowNumber⟩ wm_5_114 wm_5_116 wp_26 wm_1_1 wm_5_117 ⟨Nat.le_of_ble_eq_true rfl, Nat.le_of_ble_eq_true rfl⟩ ⟨by dsimp only [Rm]; omega, by dsimp only [Rm]; omega⟩ (app_at (cw0 (κ := κ) (a := a) (r := r5) (q := q6) (f := f_26))) rfl rfl rfl hl.1 rfl (Nat.le_of_ble_eq_true rfl) dX5_rest_133 (fun o w' H locs hp hB => ?_)
                  obtain ⟨_, ⟨x240, rfl, rfl⟩, hw9⟩ := hp
                  replace hB : Bd κ A s (bA κ Pb_106 Pn_106 bs_106 :: (q152, .inr (1, [.ref Pb_106, .int 0, .int 0, .int (nI Pc_106)])) :: cw κ a r5 q6 f_26) H locs := by rw [hw9] at hB; exact Bd_comm (w1 := cw κ a r5 q6 f_26) (w2 := [bA κ Pb_106 Pn_106 bs_106, (q152, .inr (1, [.ref Pb_106, .int 0, .int 0, .int (nI Pc_106)]))]) hB
                  refine W.eq (g2 := F0 m 136 ls [.long x240, .ref q152]) rfl ?_
                  refine lv_l2i hx hb dX5_rest_136 rfl ?_
                  refine call_V (n := 1) (k0 := 1) (As := [.int ((x240).toInt32)]) (rest := []) hX hB (k_J4_append_bf812 κ l (cw κ a r5 q6 f_26) q152 Pb_106 Pn_106 Pc_106 0 bs_106 ((x240).toInt32) (by omega) (by omega) hfb106 (by omega) (by omega)) ⟨rfl, yk_J4_append_bf812⟩ wm_4_112 wm_4_113 wm_4_114 wm_1_18 wm_4_115 ⟨Nat.le_of_ble_eq_true rfl, Nat.le_of_ble_eq_true rfl⟩ ⟨by dsimp only [Rm]; omega, by dsimp only [Rm]; omega⟩ rfl rfl rfl rfl hl.1 rfl (Nat.le_of_ble_eq_true rfl) dX5_rest_137 (fun o w' H locs hp hB => ?_)
                  obtain ⟨q241, n242, F243, c244, rfl, hf245, hf246, hw9⟩ := hp
                  replace hB : Bd κ A s (bA κ q241 n242 F243 :: (q152, .inr (1, [.ref q241, .int 0, .int 0, .int (nI c244)])) :: cw κ a r5 q6 f_26) H locs := by rw [hw9] at hB; exact hB
                  refine W.eq (g2 := F0 m 140 ls [.ref q152]) rfl ?_
                  refine lv_pop hx hb dX5_rest_140 rfl ?_
                  refine lv_iinc (v := nI (y7_106 + 1)) (lv' := [(7, .int (nI (y7_106 + 1))), (6, .ref q152), (4, .long y4_26), (3, .ref (a (6 + 2 * i1))), (0, .ref (a 0)), (1, .int p0), (2, .int p1)]) hx hb dX5_rest_141 hl (k := 0) rfl (nI_add y7_106 1) (by decide) rfl (fun ls hl => ?_)
                  refine lv_goto (tgt := 106) hx hb dX5_rest_144 (by decide) ?_
                  refine W.widen (k := 5 + (y7_106 + 1) * 2) (n := 1022 + (y7_106 + 1) * 1640) (by omega) (by omega) ?_
                  exact ih106 (y7_106 + 1) q241 c244 n242 F243 _ _ (by omega) (⟨by omega, by omega, by omega, by omega⟩) hf246 (by omega) hB _ hl
                · replace c239 : ¬ nI y7_106 ≤ nI 0 := c239
                  rw [nleP (by omega) (by omega)] at c239
                  refine lv_aload hx hb dX5_rest_120 (lv_at hl 1 rfl) ?_
                  refine lv_bipush (v := 32) hx hb dX5_rest_122 (by decide) ?_
                  refine call_V (n := 1) (k0 := 1) (As := [.int 32]) (rest := []) hX hB (k_J4_append_cf468 κ l (cw κ a r5 q6 f_26) q152 Pb_106 Pn_106 Pc_106 0 bs_106 32 32 (by omega) (by omega) hfb106 rfl (by omega) (by omega) (by omega)) ⟨rfl, yk_J4_append_cf468⟩ wm_4_21 wm_4_22 wm_4_23 wm_1_18 wm_4_24 ⟨Nat.le_of_ble_eq_true rfl, Nat.le_of_ble_eq_true rfl⟩ ⟨by dsimp only [Rm]; omega, by dsimp only [Rm]; omega⟩ rfl rfl rfl rfl hl.1 rfl (Nat.le_of_ble_eq_true rfl) dX5_rest_124 (fun o w' H locs hp hB => ?_)
                  obtain ⟨q247, n248, F249, rfl, hf250, hf251, hw9⟩ := hp
                  replace hB : Bd κ A s (bA κ q247 n248 F249 :: (q152, .inr (1, [.ref q247, .int 0, .int 0, .int (nI (Pc_106 + 1))])) :: cw κ a r5 q6 f_26) H locs := by rw [hw9] at hB; exact hB
                  refine W.eq (g2 := F0 m 127 ls [.ref q152]) rfl ?_
                  refine lv_pop hx hb dX5_rest_127 rfl ?_
                  refine lv_aload hx hb dX5_rest_128 (lv_at hl 1 rfl) ?_
                  refine lv_aload_n hx hb dX5_rest_130 rfl (lv_at hl 4 rfl) ?_
                  refine lv_iload hx hb dX5_rest_131 (lv_at hl 0 rfl) ?_
                  replace hB : Bd κ A s (cw κ a r5 q6 f_26 ++ [bA κ q247 n248 F249, (q152, .inr (1, [.ref q247, .int 0, .int 0, .int (nI (Pc_106 + 1))]))]) H locs := Bd_comm (w1 := [bA κ q247 n248 F249, (q152, .inr (1, [.ref q247, .int 0, .int 0, .int (nI (Pc_106 + 1))]))]) (w2 := cw κ a r5 q6 f_26) hB
                  refine call_V (n := 1) (k0 := 0) (As := [.int (nI y7_106)]) (rest := [.ref q152]) hX hB (CM_frame [bA κ q247 n248 F249, (q152, .inr (1, [.ref q247, .int 0, .int 0, .int (nI (Pc_106 + 1))]))] (o_X5_rowNumber κ l a r5 q6 f_26 (nI y7_106))) ⟨rfl, yk_X5_rowNumber⟩ wm_5_114 wm_5_116 wp_26 wm_1_1 wm_5_117 ⟨Nat.le_of_ble_eq_true rfl, Nat.le_of_ble_eq_true rfl⟩ ⟨by dsimp only [Rm]; omega, by dsimp only [Rm]; omega⟩ (app_at (cw0 (κ := κ) (a := a) (r := r5) (q := q6) (f := f_26))) rfl rfl rfl hl.1 rfl (Nat.le_of_ble_eq_true rfl) dX5_rest_133 (fun o w' H locs hp hB => ?_)
                  obtain ⟨_, ⟨x252, rfl, rfl⟩, hw9⟩ := hp
                  replace hB : Bd κ A s (bA κ q247 n248 F249 :: (q152, .inr (1, [.ref q247, .int 0, .int 0, .int (nI (Pc_106 + 1))])) :: cw κ a r5 q6 f_26) H locs := by rw [hw9] at hB; exact Bd_comm (w1 := cw κ a r5 q6 f_26) (w2 := [bA κ q247 n248 F249, (q152, .inr (1, [.ref q247, .int 0, .int 0, .int (nI (Pc_106 + 1))]))]) hB
                  refine W.eq (g2 := F0 m 136 ls [.long x252, .ref q152]) rfl ?_
                  refine lv_l2i hx hb dX5_rest_136 rfl ?_
                  refine call_V (n := 1) (k0 := 1) (As := [.int ((x252).toInt32)]) (rest := []) hX hB (k_J4_append_bf812 κ l (cw κ a r5 q6 f_26) q152 q247 n248 (Pc_106 + 1) 0 F249 ((x252).toInt32) (by omega) (by omega) hf251 (by omega) (by omega)) ⟨rfl, yk_J4_append_bf812⟩ wm_4_112 wm_4_113 wm_4_114 wm_1_18 wm_4_115 ⟨Nat.le_of_ble_eq_true rfl, Nat.le_of_ble_eq_true rfl⟩ ⟨by dsimp only [Rm]; omega, by dsimp only [Rm]; omega⟩ rfl rfl rfl rfl hl.1 rfl (Nat.le_of_ble_eq_true rfl) dX5_rest_137 (fun o w' H locs hp hB => ?_)
                  obtain ⟨q253, n254, F255, c256, rfl, hf257, hf258, hw9⟩ := hp
                  replace hB : Bd κ A s (bA κ q253 n254 F255 :: (q152, .inr (1, [.ref q253, .int 0, .int 0, .int (nI c256)])) :: cw κ a r5 q6 f_26) H locs := by rw [hw9] at hB; exact hB
                  refine W.eq (g2 := F0 m 140 ls [.ref q152]) rfl ?_
                  refine lv_pop hx hb dX5_rest_140 rfl ?_
                  refine lv_iinc (v := nI (y7_106 + 1)) (lv' := [(7, .int (nI (y7_106 + 1))), (6, .ref q152), (4, .long y4_26), (3, .ref (a (6 + 2 * i1))), (0, .ref (a 0)), (1, .int p0), (2, .int p1)]) hx hb dX5_rest_141 hl (k := 0) rfl (nI_add y7_106 1) (by decide) rfl (fun ls hl => ?_)
                  refine lv_goto (tgt := 106) hx hb dX5_rest_144 (by decide) ?_
                  refine W.widen (k := 5 + (y7_106 + 1) * 2) (n := 1022 + (y7_106 + 1) * 1640) (by omega) (by omega) ?_
                  exact ih106 (y7_106 + 1) q253 c256 n254 F255 _ _ (by omega) (⟨by omega, by omega, by omega, by omega⟩) hf258 (by omega) hB _ hl
          refine W.widen (k := 5 + 0 * 2) (n := 1022 + 0 * 1640) (by omega) (by omega) ?_
          exact lp106 _ 0 b153 0 16 (fun _ => 0) _ _ (by omega) (⟨by omega, by omega, by omega, by omega⟩) sb_fit0 (Nat.lt_succ_self _) hB _ hl
        refine lv_if_lt (tgt := 90) hx hb dX5_rest_76 (by decide) (fun c259 => ?_) (fun c259 => ?_)
        · refine lv_iconst (v := 0) hx hb dX5_rest_90 (by decide) ?_
          exact jn91 0 _ _ (Or.inl rfl) hB _ hl
        · refine lv_lload hx hb dX5_rest_79 (lv_at hl 1 rfl) ?_
          refine lv_lconst (v := 0) hx hb dX5_rest_81 (by decide) ?_
          refine W.lcmp hx hb dX5_rest_82 ?_
          refine lv_if_ne (tgt := 90) hx hb dX5_rest_83 (by decide) (fun c260 => ?_) (fun c260 => ?_)
          · refine lv_iconst (v := 0) hx hb dX5_rest_90 (by decide) ?_
            exact jn91 0 _ _ (Or.inl rfl) hB _ hl
          · refine lv_iconst (v := 1) hx hb dX5_rest_86 (by decide) ?_
            refine lv_goto (tgt := 91) hx hb dX5_rest_87 (by decide) ?_
            exact jn91 1 _ _ (Or.inr rfl) hB _ hl
      · refine lv_aload_n hx hb dX5_rest_31 rfl (lv_at hl 3 rfl) ?_
        refine gf (k0 := 0) hX hB (cw0 (a := a) (r := r5) (q := q6) (f := f_26)) rfl in5 3 (by decide) wm_1_140 rfl rfl dX5_rest_32 ?_
        refine gfN (k0 := 2) hX hB (cw2 (a := a) (r := r5) (q := q6) (f := f_26)) rfl in4 0 (by decide) wn_1_75 rfl rfl dX5_rest_35 ?_
        refine lv_iload hx hb dX5_rest_38 (lv_at hl 0 rfl) ?_
        refine lv_iload hx hb dX5_rest_40 (lv_at hl 0 rfl) ?_
        refine call_V (n := 2) (k0 := 18) (As := [.int y6_26, .int y6_26]) (rest := []) hX hB (o_X3_get κ l a r5 q6 f_26 6 y6_26 y6_26 (by decide)) ⟨rfl, yk_X3_get⟩ wm_2_123 wm_1_187 wm_1_188 wm_1_2 wm_1_189 ⟨Nat.le_of_ble_eq_true rfl, Nat.le_of_ble_eq_true rfl⟩ ⟨Nat.le_of_ble_eq_true rfl, Nat.le_of_ble_eq_true rfl⟩ (cwG (κ := κ) (a := a) (r := r5) (q := q6) (f := f_26) (i := 6) (by decide)) rfl rfl rfl hl.1 rfl (Nat.le_of_ble_eq_true rfl) dX5_rest_42 (fun o w' H locs hp hB => ?_)
        obtain ⟨x261, rfl, hw9⟩ := hp
        replace hB : Bd κ A s (cw κ a r5 q6 f_26) H locs := by rw [hw9] at hB; exact hB
        refine W.eq (g2 := F0 m 45 ls [.long x261]) rfl ?_
        refine lv_lstore (lv' := [(7, .long x261), (6, .int y6_26), (4, .long y4_26), (3, .ref (a (6 + 2 * i1))), (0, .ref (a 0)), (1, .int p0), (2, .int p1)]) hx hb dX5_rest_45 hl (by decide) rfl (fun ls hl => ?_)
        refine lv_aload_n hx hb dX5_rest_47 rfl (lv_at hl 4 rfl) ?_
        refine lv_iload hx hb dX5_rest_48 (lv_at hl 1 rfl) ?_
        refine lv_lload hx hb dX5_rest_50 (lv_at hl 2 rfl) ?_
        refine lv_lload hx hb dX5_rest_52 (lv_at hl 0 rfl) ?_
        refine call_S (n := 2) (As := [.long y4_26, .long x261]) (rest := [.int y6_26, .ref (a 0)]) hX hB (o_X5_remainder κ l (cw κ a r5 q6 f_26) y4_26 x261 ) yk_X5_remainder wm_3_61 wm_3_62 wm_1_1 wm_3_63 ⟨Nat.le_of_ble_eq_true rfl, Nat.le_of_ble_eq_true rfl⟩ ⟨Nat.le_of_ble_eq_true rfl, Nat.le_of_ble_eq_true rfl⟩ rfl hl.1 rfl (Nat.le_of_ble_eq_true rfl) dX5_rest_54 (fun o w' H locs hp hB => ?_)
        obtain ⟨x262, rfl, hw9⟩ := hp
        rw [hw9] at hB
        refine W.eq (g2 := F0 m 57 ls [.long x262, .int y6_26, .ref (a 0)]) rfl ?_
        refine call_V (n := 2) (k0 := 0) (As := [.int y6_26, .long x262]) (rest := []) hX hB (o_X5_setRowNumber κ l a r5 q6 f_26 y6_26 x262) ⟨rfl, yk_X5_setRowNumber⟩ wm_5_109 wm_5_111 wp_25 wm_1_1 wm_5_112 ⟨Nat.le_of_ble_eq_true rfl, Nat.le_of_ble_eq_true rfl⟩ ⟨Nat.le_of_ble_eq_true rfl, Nat.le_of_ble_eq_true rfl⟩ cw0 rfl rfl rfl hl.1 rfl (Nat.le_of_ble_eq_true rfl) dX5_rest_57 (fun o w' H locs hp hB => ?_)
        obtain ⟨f263, rfl, hk264, hw9⟩ := hp
        replace hB : Bd κ A s (cw κ a r5 q6 f263) H locs := by rw [hw9] at hB; exact hB
        refine W.eq (g2 := F0 m 60 ls []) rfl ?_
        refine lv_lload hx hb dX5_rest_60 (lv_at hl 2 rfl) ?_
        refine lv_lload hx hb dX5_rest_62 (lv_at hl 0 rfl) ?_
        refine call_S (n := 2) (As := [.long y4_26, .long x261]) (rest := []) hX hB (o_X5_divideDown κ l (cw κ a r5 q6 f263) y4_26 x261 ) yk_X5_divideDown wm_5_113 wm_2_17 wm_1_1 wm_2_18 ⟨Nat.le_of_ble_eq_true rfl, Nat.le_of_ble_eq_true rfl⟩ ⟨Nat.le_of_ble_eq_true rfl, Nat.le_of_ble_eq_true rfl⟩ rfl hl.1 rfl (Nat.le_of_ble_eq_true rfl) dX5_rest_64 (fun o w' H locs hp hB => ?_)
        obtain ⟨x265, rfl, hw9⟩ := hp
        rw [hw9] at hB
        refine W.eq (g2 := F0 m 67 ls [.long x265]) rfl ?_
        refine lv_lstore (lv' := [(4, .long x265), (7, .long x261), (6, .int y6_26), (3, .ref (a (6 + 2 * i1))), (0, .ref (a 0)), (1, .int p0), (2, .int p1)]) hx hb dX5_rest_67 hl (by decide) rfl (fun ls hl => ?_)
        refine lv_iinc (v := y6_26 + -1) (lv' := [(6, .int (y6_26 + -1)), (4, .long x265), (7, .long x261), (3, .ref (a (6 + 2 * i1))), (0, .ref (a 0)), (1, .int p0), (2, .int p1)]) hx hb dX5_rest_69 hl (k := 2) rfl rfl (by decide) rfl (fun ls hl => ?_)
        refine lv_goto (tgt := 26) hx hb dX5_rest_72 (by decide) ?_
        exact ih26 (y6_26 + -1) x265 f263 _ _ (Ks_tr hk264 hks26) (gapd_step c148 hμ26) hB _ (lv_sub hl [0, 1, 3, 4, 5, 6] rfl)
  exact lp26 _ (nI (CC - 1)) ((p1).toInt64) f7 _ _ (Ks_tr hk10 Ks_rf) (Nat.lt_succ_self _) hB _ hl
end
section
-- 87.ctors
section CTR
variable {p : Program} {l : Launch} {e : Env} {R : Room} {s : State} {m : MethodId} {args : Array Value} {below : List Frame} {meth : Method} {c : Code} {H : Heap} {locs : List Loc} {cells slots : Nat} {Q : State → Prop}
variable {κ : Kt} {cc : ByteArray} {nL : Nat} {own : String} {ret : Option FieldType} {A : Nat → Prop} {w : va_W} {pc : Nat} {ls : Array Slot} {rest : List Value}
/-- a new array of references -/
theorem newR {C : String} {cA : ClassId} {t0 N index : Nat} {n : Int32} (hX : Cx κ p m c cc nL s args own meth ret A) (hB : Bd κ A s w H locs) (ht : (tysK κ)[t0]? = some (cA, .object C)) (m1 : Cond.classLink own index C ∈ wAll) (hao : va_AO C s) (hn : ¬ n < 0) (hN : n.toNatClampNeg = N) (hbytes : N * 4 ≤ 536870912) (hcells : cells + 1 ≤ R.cells) (hslots : slots + N ≤ R.slots) (hdg : decode cc pc = .ok (.anewarray index, 3))
    (kk : ∀ (q : Nat) (H1 : Heap), Bd κ A s ((q, .inl (cA, N, .inr (.inr (.inr (.inr (fun _ => none)))))) :: w) H1 locs → W p l e R s m args below meth c H1 locs (cells + 1) (slots + N) Q (F0 m (pc + 3) ls (.ref q :: rest))) : W p l e R s m args below meth c H locs cells slots Q (F0 m pc ls (.int n :: rest)) := by
  have hv := hX.1.2.2.2.2
  obtain ⟨kA, comp, g1, g2, g3, g4⟩ := (hX.2.1.1.2 t0 _ ht).2
  refine va_newq hX.1.1 hX.1.2.1 hX.1.2.2.2.1 (hv _ m1) hao hX.2.1.1 hB.1 hB.2.1 hB.2.2 hX.2.2.2.1 hn hN hbytes hcells hslots hdg (fun q cB H1 hK1 h1 h2 h3 => ?_)
  obtain ⟨kB, compB, f1, f2, f3, f4⟩ := (hK1.2 5 _ rfl).2
  have e : cA = cB := Option.some.inj (g4.symm.trans f4)
  subst e
  exact kk q H1 (Bd_rot ⟨h1, h2, h3⟩)
theorem astG {k0 k1 b n v : Nat} {f : Nat → Option Nat} {vs : List Value} {i : Int32} (hX : Cx κ p m c cc nL s args own meth ret A) (hB : Bd κ A s w H locs) (he : w[k0]? = some (b, .inl (κ.2.1 1, n, .inr (.inr (.inr (.inr f)))))) (hv : w[k1]? = some (v, .inr (4, vs))) (hin : vp_in i n) {w1 : va_W} (hw : w.set k0 (b, .inl (κ.2.1 1, n, .inr (.inr (.inr (.inr (va_up f i.toNatClampNeg (some v))))))) = w1) (hdg : decode cc pc = .ok (.aastore, 1))
    (kk : ∀ (H1 : Heap) (locs1 : List Loc), Bd κ A s w1 H1 locs1 → W p l e R s m args below meth c H1 locs1 cells slots Q (F0 m (pc + 1) ls rest)) : W p l e R s m args below meth c H locs cells slots Q (F0 m pc ls (.ref v :: .int i :: .ref b :: rest)) := by
  subst hw
  exact va_astq (tys := tysK κ) (r := (RX3, TX3, 3)) hX.1.1 hX.1.2.1 hX.2.1.1 hB.1 hB.2.1 hB.2.2 k0 1 k1 4 he rfl hv rfl hin hdg (fun H1 locs1 h1 h2 h3 => kk H1 locs1 ⟨h1, h2, h3⟩)
/-- an array of references told by another function -/
theorem Bd_arr {k0 b n : Nat} {cA : ClassId} {f g : Nat → Option Nat} (he : w[k0]? = some (b, .inl (cA, n, .inr (.inr (.inr (.inr f)))))) (h : ∀ j, j < n → f j = g j) (hB : Bd κ A s w H locs) : Bd κ A s (w.set k0 (b, .inl (cA, n, .inr (.inr (.inr (.inr g)))))) H locs := by
  have e : vp_cell cA (n, .inr (.inr (.inr (.inr g)))) = vp_cell cA (n, .inr (.inr (.inr (.inr f)))) := by
    rw [vp_cell_q, vp_cell_q]
    unfold arrV
    congr 2
    funext j
    exact congrArg va_rf (h j.val j.isLt).symm
  refine ⟨hB.1.set hB.2.1 he ?_ (fun q _ => rfl), hB.2.1.set he, hB.2.2⟩
  show H[b]? = some (vp_cell _ _)
  rw [e]
  exact hB.1 k0 _ he
/-- the cells of a world in another order -/
theorem Bd_perm {u v w : va_W} {P : List Nat} {d : Nat × va_E} (hv : v = P.map (fun i => u.getD i d)) (hn : P.length = u.length) (hlt : ∀ i, i < P.length → P.getD i 0 < P.length) (hinj : ∀ i, i < P.length → ∀ j, j < P.length → P.getD i 0 = P.getD j 0 → i = j) (hB : Bd κ A s (u ++ w) H locs) : Bd κ A s (v ++ w) H locs := by
  subst hv
  refine Bd_pick (fun k => if k < P.length then P.getD k 0 else k) (fun i j h => ?_) (fun k q h => ?_) hB
  · have h : (if i < P.length then P.getD i 0 else i) = (if j < P.length then P.getD j 0 else j) := h
    by_cases hi : i < P.length
    · by_cases hj : j < P.length
      · rw [if_pos hi, if_pos hj] at h
        exact hinj i hi j hj h
      · rw [if_pos hi, if_neg hj] at h
        have := hlt i hi
        omega
    · by_cases hj : j < P.length
      · rw [if_neg hi, if_pos hj] at h
        have := hlt j hj
        omega
      · rw [if_neg hi, if_neg hj] at h
        exact h
  · show (u ++ w)[if k < P.length then P.getD k 0 else k]? = some q
    by_cases hk : k < P.length
    · have h1 := hlt k hk
      rw [if_pos hk]
      have hm : k < (P.map (fun i => u.getD i d)).length := by rw [List.length_map]; exact hk
      rw [List.getElem?_append_left hm, List.getElem?_map, List.getElem?_eq_getElem hk] at h
      have e1 : P.getD k 0 = P[k] := by rw [List.getD_eq_getElem?_getD, List.getElem?_eq_getElem hk]; rfl
      rw [e1] at h1 ⊢
      have h2 : P[k] < u.length := by omega
      rw [List.getElem?_append_left h2, List.getElem?_eq_getElem h2, ← h]
      show some _ = some (u.getD P[k] d)
      rw [List.getD_eq_getElem?_getD, List.getElem?_eq_getElem h2]
      rfl
    · rw [if_neg hk]
      rw [List.getElem?_append_right (by rw [List.length_map]; omega), List.length_map, hn] at h
      rw [List.getElem?_append_right (by omega)]
      exact h
end CTR
def va_ls (l : List Nat) : Nat → Nat := fun k => l.getD k 0
theorem df2 : ∀ j, j < 4 → defaultValue (tyX1 j) = vp_V [.null, .null, .null, .int 0] j := by
  intro j hj
  match j, hj with
  | 0, _ => rfl
  | 1, _ => rfl
  | 2, _ => rfl
  | 3, _ => rfl
theorem df3 : ∀ j, j < 4 → defaultValue (tyX2 j) = vp_V [.null, .null, .null, .null] j := by
  intro j hj
  match j, hj with
  | 0, _ => rfl
  | 1, _ => rfl
  | 2, _ => rfl
  | 3, _ => rfl
theorem df4 : ∀ j, j < 3 → defaultValue (tyX3 j) = vp_V [.null, .int 0, .int 0] j := by
  intro j hj
  match j, hj with
  | 0, _ => rfl
  | 1, _ => rfl
  | 2, _ => rfl
theorem df5 : ∀ j, j < 3 → defaultValue (tyX4 j) = vp_V [.null, .null, .int 0] j := by
  intro j hj
  match j, hj with
  | 0, _ => rfl
  | 1, _ => rfl
  | 2, _ => rfl
theorem mok_1 : mok (fun _ => 1) (fun _ _ => 0) := fun i hi => ⟨(by decide : (1 : Nat) ≤ 1 ∧ (1 : Nat) ≤ 4 ∧ (1 : Nat) ≤ 1 ∧ (1 : Nat) ≤ 4), fun k hk => sm_0⟩
theorem okr_1 : okr (fun _ => 1) := fun i hi => (by decide : ((1 : Int32) ≤ 1 ∧ (1 : Int32) ≤ 4) ∧ ((1 : Int32) ≤ 1 ∧ (1 : Int32) ≤ 5))

set_option maxHeartbeats 4000000 in
set_option maxRecDepth 100000 in
theorem k_X3_init (κ : Kt) (l : Launch) (w : va_W) (s_0 : Nat)  : CM κ l yX3_init cX3_init 1 (none) 1 20 1 20 [.ref s_0] ((s_0, .inr (4, [.null, .int 0, .int 0])) :: w) (fun o w' => ∃ (b1 : Nat), o = none ∧ w' = lA κ b1 20 (fun _ => 0) :: (s_0, .inr (4, [.ref b1, .int 1, .int 1])) :: w) := by
  refine CM_begin (plainFor_of_name pn_RX3) (Nat.le_of_ble_eq_true rfl) ?_
  intro p e s m args below meth c A Q hX hnm hA3 hQ hB ls hl
  have hx := hX.1.1
  have hb := hX.1.2.1
  have hl : lv_has ls 1 [(0, .ref s_0)] := hl
  refine lv_aload_n hx hb dX3_init_0 rfl (lv_at hl 0 rfl) ?_
  refine W.objInit hx hb hX.1.2.2.2.1 (hX.1.2.2.2.2 _ wm_1_44) (hX.1.2.2.2.2 _ wm_1_36) (hX.1.2.2.2.2 _ wm_1_37) rfl (by rw [hX.1.2.2.1]; exact hl.1) rfl dX3_init_1 (Nat.le_of_ble_eq_true rfl) (Nat.le_of_ble_eq_true rfl) ?_
  refine W.eq (g2 := F0 m 4 ls []) rfl ?_
  refine lv_aload_n hx hb dX3_init_4 rfl (lv_at hl 0 rfl) ?_
  refine lv_bipush (v := 20) hx hb dX3_init_5 (by decide) ?_
  refine newA (t0 := 0) (ty := .long) (N := 20) (mx := 20) (a0 := (20, .inr (.inl (fun _ => 0)))) hX hB rfl rfl (fun h => h) wm_1_65 (fun _ => rfl) (nI_pos (n := 20) (by omega)) (nI_clamp (n := 20) (by omega)) (by omega) (Nat.le_of_ble_eq_true rfl) (Nat.le_of_ble_eq_true rfl) (Nat.le_of_ble_eq_true rfl) dX3_init_7 (fun q1 H hB => ?_)
  refine pfF (ty := .array .long) (k0 := 1) hX hnm hB rfl rfl in3 tyX3_ok nmX3 0 (by decide) wm_1_45 rfl rfl rfl rfl rfl rfl (Nat.le_of_ble_eq_true rfl) (w1 := lA κ q1 20 (fun _ => 0) :: (s_0, .inr (4, [.ref q1, .int 0, .int 0])) :: w) rfl dX3_init_9 (fun H locs hB => ?_)
  refine lv_aload_n hx hb dX3_init_12 rfl (lv_at hl 0 rfl) ?_
  refine lv_iconst (v := 1) hx hb dX3_init_13 (by decide) ?_
  refine pf (ty := .int) (k0 := 1) hX hB rfl rfl in3 tyX3_ok nmX3 1 (by decide) wm_1_46 rfl rfl rfl rfl rfl (Nat.le_of_ble_eq_true rfl) (w1 := lA κ q1 20 (fun _ => 0) :: (s_0, .inr (4, [.ref q1, .int 1, .int 0])) :: w) rfl dX3_init_14 (fun H locs hB => ?_)
  refine lv_aload_n hx hb dX3_init_17 rfl (lv_at hl 0 rfl) ?_
  refine lv_iconst (v := 1) hx hb dX3_init_18 (by decide) ?_
  refine pf (ty := .int) (k0 := 1) hX hB rfl rfl in3 tyX3_ok nmX3 2 (by decide) wm_1_52 rfl rfl rfl rfl rfl (Nat.le_of_ble_eq_true rfl) (w1 := lA κ q1 20 (fun _ => 0) :: (s_0, .inr (4, [.ref q1, .int 1, .int 1])) :: w) rfl dX3_init_19 (fun H locs hB => ?_)
  rw [← hQ]
  exact end_v hX hB hA3 rfl ⟨q1, rfl, rfl⟩ (Nat.le_of_ble_eq_true rfl) (Nat.le_of_ble_eq_true rfl) dX3_init_22
set_option maxHeartbeats 4000000 in
set_option maxRecDepth 100000 in
theorem k_X4_init (κ : Kt) (l : Launch) (w : va_W) (s_0 : Nat)  : CM κ l yX4_init cX4_init 1 (none) 2 40 4 46 [.ref s_0] ((s_0, .inr (5, [.null, .null, .int 0])) :: w) (fun o w' => ∃ (g1 : Nat) (b1 : Nat) (g2 : Nat) (b2 : Nat), o = none ∧ w' = lA κ b2 20 (fun _ => 0) :: (g2, .inr (4, [.ref b2, .int 1, .int 1])) :: lA κ b1 20 (fun _ => 0) :: (g1, .inr (4, [.ref b1, .int 1, .int 1])) :: (s_0, .inr (5, [.ref g1, .ref g2, .int 0])) :: w) := by
  refine CM_begin (plainFor_of_name pn_RX4) (Nat.le_of_ble_eq_true rfl) ?_
  intro p e s m args below meth c A Q hX hnm hA3 hQ hB ls hl
  have hx := hX.1.1
  have hb := hX.1.2.1
  have hl : lv_has ls 1 [(0, .ref s_0)] := hl
  refine lv_aload_n hx hb dX4_init_0 rfl (lv_at hl 0 rfl) ?_
  refine W.objInit hx hb hX.1.2.2.2.1 (hX.1.2.2.2.2 _ wm_1_71) (hX.1.2.2.2.2 _ wm_1_36) (hX.1.2.2.2.2 _ wm_1_37) rfl (by rw [hX.1.2.2.1]; exact hl.1) rfl dX4_init_1 (Nat.le_of_ble_eq_true rfl) (Nat.le_of_ble_eq_true rfl) ?_
  refine W.eq (g2 := F0 m 4 ls []) rfl ?_
  refine lv_aload_n hx hb dX4_init_4 rfl (lv_at hl 0 rfl) ?_
  refine newO (fs := [.null, .int 0, .int 0]) hX hB (ci := 4) rfl in3 tyX3_ok wm_1_72 wm_1_40 wm_1_2 df4 (Nat.le_of_ble_eq_true rfl) (Nat.le_of_ble_eq_true rfl) dX4_init_5 (fun q1 H hB => ?_)
  refine lv_dup hx hb dX4_init_8 rfl ?_
  refine call_IN (n := 0) (As := []) (rest := [.ref q1, .ref s_0]) hX hB (k_X3_init κ l ((s_0, .inr (5, [.null, .null, .int 0])) :: w) q1 ) yk_X3_init rfl wn_1_73 wm_1_42 wm_1_2 wm_1_43 ⟨Nat.le_of_ble_eq_true rfl, Nat.le_of_ble_eq_true rfl⟩ ⟨Nat.le_of_ble_eq_true rfl, Nat.le_of_ble_eq_true rfl⟩ rfl hl.1 rfl (Nat.le_of_ble_eq_true rfl) dX4_init_9 (fun o w' H locs hp hB => ?_)
  obtain ⟨b2, rfl, hw9⟩ := hp
  replace hB : Bd κ A s (lA κ b2 20 (fun _ => 0) :: (q1, .inr (4, [.ref b2, .int 1, .int 1])) :: (s_0, .inr (5, [.null, .null, .int 0])) :: w) H locs := by rw [hw9] at hB; exact hB
  refine W.eq (g2 := F0 m 12 ls [.ref q1, .ref s_0]) rfl ?_
  refine pfF (ty := .object "Gridmender$Grid") (k0 := 2) hX hnm hB rfl rfl in4 tyX4_ok nmX4 0 (by decide) wm_1_74 rfl rfl rfl rfl rfl rfl (Nat.le_of_ble_eq_true rfl) (w1 := lA κ b2 20 (fun _ => 0) :: (q1, .inr (4, [.ref b2, .int 1, .int 1])) :: (s_0, .inr (5, [.ref q1, .null, .int 0])) :: w) rfl dX4_init_12 (fun H locs hB => ?_)
  refine lv_aload_n hx hb dX4_init_15 rfl (lv_at hl 0 rfl) ?_
  refine newO (fs := [.null, .int 0, .int 0]) hX hB (ci := 4) rfl in3 tyX3_ok wm_1_72 wm_1_40 wm_1_2 df4 (Nat.le_of_ble_eq_true rfl) (Nat.le_of_ble_eq_true rfl) dX4_init_16 (fun q3 H hB => ?_)
  refine lv_dup hx hb dX4_init_19 rfl ?_
  refine call_IN (n := 0) (As := []) (rest := [.ref q3, .ref s_0]) hX hB (k_X3_init κ l (lA κ b2 20 (fun _ => 0) :: (q1, .inr (4, [.ref b2, .int 1, .int 1])) :: (s_0, .inr (5, [.ref q1, .null, .int 0])) :: w) q3 ) yk_X3_init rfl wn_1_73 wm_1_42 wm_1_2 wm_1_43 ⟨Nat.le_of_ble_eq_true rfl, Nat.le_of_ble_eq_true rfl⟩ ⟨Nat.le_of_ble_eq_true rfl, Nat.le_of_ble_eq_true rfl⟩ rfl hl.1 rfl (Nat.le_of_ble_eq_true rfl) dX4_init_20 (fun o w' H locs hp hB => ?_)
  obtain ⟨b4, rfl, hw9⟩ := hp
  replace hB : Bd κ A s (lA κ b4 20 (fun _ => 0) :: (q3, .inr (4, [.ref b4, .int 1, .int 1])) :: lA κ b2 20 (fun _ => 0) :: (q1, .inr (4, [.ref b2, .int 1, .int 1])) :: (s_0, .inr (5, [.ref q1, .null, .int 0])) :: w) H locs := by rw [hw9] at hB; exact hB
  refine W.eq (g2 := F0 m 23 ls [.ref q3, .ref s_0]) rfl ?_
  refine pfF (ty := .object "Gridmender$Grid") (k0 := 4) hX hnm hB rfl rfl in4 tyX4_ok nmX4 1 (by decide) wm_1_76 rfl rfl rfl rfl rfl rfl (Nat.le_of_ble_eq_true rfl) (w1 := lA κ b4 20 (fun _ => 0) :: (q3, .inr (4, [.ref b4, .int 1, .int 1])) :: lA κ b2 20 (fun _ => 0) :: (q1, .inr (4, [.ref b2, .int 1, .int 1])) :: (s_0, .inr (5, [.ref q1, .ref q3, .int 0])) :: w) rfl dX4_init_23 (fun H locs hB => ?_)
  rw [← hQ]
  exact end_v hX hB hA3 rfl ⟨q1, b2, q3, b4, rfl, rfl⟩ (Nat.le_of_ble_eq_true rfl) (Nat.le_of_ble_eq_true rfl) dX4_init_26
set_option maxHeartbeats 4000000 in
set_option maxRecDepth 100000 in
theorem k_X1_init (κ : Kt) (l : Launch) (w : va_W) (s_0 : Nat)  : CM κ l yX1_init cX1_init 1 (none) 2 40 6 69 [.ref s_0] ((s_0, .inr (2, [.null, .null, .null, .int 0])) :: w) (fun o w' => ∃ (g1 : Nat) (b1 : Nat) (g2 : Nat) (b2 : Nat) (g3 : Nat) (b3 : Nat), o = none ∧ w' = lA κ b3 20 (fun _ => 0) :: (g3, .inr (4, [.ref b3, .int 1, .int 1])) :: lA κ b2 20 (fun _ => 0) :: (g2, .inr (4, [.ref b2, .int 1, .int 1])) :: lA κ b1 20 (fun _ => 0) :: (g1, .inr (4, [.ref b1, .int 1, .int 1])) :: (s_0, .inr (2, [.ref g1, .ref g2, .ref g3, .int 0])) :: w) := by
  refine CM_begin (plainFor_of_name pn_RX1) (Nat.le_of_ble_eq_true rfl) ?_
  intro p e s m args below meth c A Q hX hnm hA3 hQ hB ls hl
  have hx := hX.1.1
  have hb := hX.1.2.1
  have hl : lv_has ls 1 [(0, .ref s_0)] := hl
  refine lv_aload_n hx hb dX1_init_0 rfl (lv_at hl 0 rfl) ?_
  refine W.objInit hx hb hX.1.2.2.2.1 (hX.1.2.2.2.2 _ wm_1_92) (hX.1.2.2.2.2 _ wm_1_36) (hX.1.2.2.2.2 _ wm_1_37) rfl (by rw [hX.1.2.2.1]; exact hl.1) rfl dX1_init_1 (Nat.le_of_ble_eq_true rfl) (Nat.le_of_ble_eq_true rfl) ?_
  refine W.eq (g2 := F0 m 4 ls []) rfl ?_
  refine lv_aload_n hx hb dX1_init_4 rfl (lv_at hl 0 rfl) ?_
  refine newO (fs := [.null, .int 0, .int 0]) hX hB (ci := 4) rfl in3 tyX3_ok wm_1_93 wm_1_40 wm_1_2 df4 (Nat.le_of_ble_eq_true rfl) (Nat.le_of_ble_eq_true rfl) dX1_init_5 (fun q1 H hB => ?_)
  refine lv_dup hx hb dX1_init_8 rfl ?_
  refine call_IN (n := 0) (As := []) (rest := [.ref q1, .ref s_0]) hX hB (k_X3_init κ l ((s_0, .inr (2, [.null, .null, .null, .int 0])) :: w) q1 ) yk_X3_init rfl wn_1_94 wm_1_42 wm_1_2 wm_1_43 ⟨Nat.le_of_ble_eq_true rfl, Nat.le_of_ble_eq_true rfl⟩ ⟨Nat.le_of_ble_eq_true rfl, Nat.le_of_ble_eq_true rfl⟩ rfl hl.1 rfl (Nat.le_of_ble_eq_true rfl) dX1_init_9 (fun o w' H locs hp hB => ?_)
  obtain ⟨b2, rfl, hw9⟩ := hp
  replace hB : Bd κ A s (lA κ b2 20 (fun _ => 0) :: (q1, .inr (4, [.ref b2, .int 1, .int 1])) :: (s_0, .inr (2, [.null, .null, .null, .int 0])) :: w) H locs := by rw [hw9] at hB; exact hB
  refine W.eq (g2 := F0 m 12 ls [.ref q1, .ref s_0]) rfl ?_
  refine pfF (ty := .object "Gridmender$Grid") (k0 := 2) hX hnm hB rfl rfl in1 tyX1_ok nmX1 0 (by decide) wm_1_95 rfl rfl rfl rfl rfl rfl (Nat.le_of_ble_eq_true rfl) (w1 := lA κ b2 20 (fun _ => 0) :: (q1, .inr (4, [.ref b2, .int 1, .int 1])) :: (s_0, .inr (2, [.ref q1, .null, .null, .int 0])) :: w) rfl dX1_init_12 (fun H locs hB => ?_)
  refine lv_aload_n hx hb dX1_init_15 rfl (lv_at hl 0 rfl) ?_
  refine newO (fs := [.null, .int 0, .int 0]) hX hB (ci := 4) rfl in3 tyX3_ok wm_1_93 wm_1_40 wm_1_2 df4 (Nat.le_of_ble_eq_true rfl) (Nat.le_of_ble_eq_true rfl) dX1_init_16 (fun q3 H hB => ?_)
  refine lv_dup hx hb dX1_init_19 rfl ?_
  refine call_IN (n := 0) (As := []) (rest := [.ref q3, .ref s_0]) hX hB (k_X3_init κ l (lA κ b2 20 (fun _ => 0) :: (q1, .inr (4, [.ref b2, .int 1, .int 1])) :: (s_0, .inr (2, [.ref q1, .null, .null, .int 0])) :: w) q3 ) yk_X3_init rfl wn_1_94 wm_1_42 wm_1_2 wm_1_43 ⟨Nat.le_of_ble_eq_true rfl, Nat.le_of_ble_eq_true rfl⟩ ⟨Nat.le_of_ble_eq_true rfl, Nat.le_of_ble_eq_true rfl⟩ rfl hl.1 rfl (Nat.le_of_ble_eq_true rfl) dX1_init_20 (fun o w' H locs hp hB => ?_)
  obtain ⟨b4, rfl, hw9⟩ := hp
  replace hB : Bd κ A s (lA κ b4 20 (fun _ => 0) :: (q3, .inr (4, [.ref b4, .int 1, .int 1])) :: lA κ b2 20 (fun _ => 0) :: (q1, .inr (4, [.ref b2, .int 1, .int 1])) :: (s_0, .inr (2, [.ref q1, .null, .null, .int 0])) :: w) H locs := by rw [hw9] at hB; exact hB
  refine W.eq (g2 := F0 m 23 ls [.ref q3, .ref s_0]) rfl ?_
  refine pfF (ty := .object "Gridmender$Grid") (k0 := 4) hX hnm hB rfl rfl in1 tyX1_ok nmX1 1 (by decide) wm_1_98 rfl rfl rfl rfl rfl rfl (Nat.le_of_ble_eq_true rfl) (w1 := lA κ b4 20 (fun _ => 0) :: (q3, .inr (4, [.ref b4, .int 1, .int 1])) :: lA κ b2 20 (fun _ => 0) :: (q1, .inr (4, [.ref b2, .int 1, .int 1])) :: (s_0, .inr (2, [.ref q1, .ref q3, .null, .int 0])) :: w) rfl dX1_init_23 (fun H locs hB => ?_)
  refine lv_aload_n hx hb dX1_init_26 rfl (lv_at hl 0 rfl) ?_
  refine newO (fs := [.null, .int 0, .int 0]) hX hB (ci := 4) rfl in3 tyX3_ok wm_1_93 wm_1_40 wm_1_2 df4 (Nat.le_of_ble_eq_true rfl) (Nat.le_of_ble_eq_true rfl) dX1_init_27 (fun q5 H hB => ?_)
  refine lv_dup hx hb dX1_init_30 rfl ?_
  refine call_IN (n := 0) (As := []) (rest := [.ref q5, .ref s_0]) hX hB (k_X3_init κ l (lA κ b4 20 (fun _ => 0) :: (q3, .inr (4, [.ref b4, .int 1, .int 1])) :: lA κ b2 20 (fun _ => 0) :: (q1, .inr (4, [.ref b2, .int 1, .int 1])) :: (s_0, .inr (2, [.ref q1, .ref q3, .null, .int 0])) :: w) q5 ) yk_X3_init rfl wn_1_94 wm_1_42 wm_1_2 wm_1_43 ⟨Nat.le_of_ble_eq_true rfl, Nat.le_of_ble_eq_true rfl⟩ ⟨Nat.le_of_ble_eq_true rfl, Nat.le_of_ble_eq_true rfl⟩ rfl hl.1 rfl (Nat.le_of_ble_eq_true rfl) dX1_init_31 (fun o w' H locs hp hB => ?_)
  obtain ⟨b6, rfl, hw9⟩ := hp
  replace hB : Bd κ A s (lA κ b6 20 (fun _ => 0) :: (q5, .inr (4, [.ref b6, .int 1, .int 1])) :: lA κ b4 20 (fun _ => 0) :: (q3, .inr (4, [.ref b4, .int 1, .int 1])) :: lA κ b2 20 (fun _ => 0) :: (q1, .inr (4, [.ref b2, .int 1, .int 1])) :: (s_0, .inr (2, [.ref q1, .ref q3, .null, .int 0])) :: w) H locs := by rw [hw9] at hB; exact hB
  refine W.eq (g2 := F0 m 34 ls [.ref q5, .ref s_0]) rfl ?_
  refine pfF (ty := .object "Gridmender$Grid") (k0 := 6) hX hnm hB rfl rfl in1 tyX1_ok nmX1 2 (by decide) wm_1_101 rfl rfl rfl rfl rfl rfl (Nat.le_of_ble_eq_true rfl) (w1 := lA κ b6 20 (fun _ => 0) :: (q5, .inr (4, [.ref b6, .int 1, .int 1])) :: lA κ b4 20 (fun _ => 0) :: (q3, .inr (4, [.ref b4, .int 1, .int 1])) :: lA κ b2 20 (fun _ => 0) :: (q1, .inr (4, [.ref b2, .int 1, .int 1])) :: (s_0, .inr (2, [.ref q1, .ref q3, .ref q5, .int 0])) :: w) rfl dX1_init_34 (fun H locs hB => ?_)
  rw [← hQ]
  exact end_v hX hB hA3 rfl ⟨q1, b2, q3, b4, q5, b6, rfl, rfl⟩ (Nat.le_of_ble_eq_true rfl) (Nat.le_of_ble_eq_true rfl) dX1_init_37
set_option maxHeartbeats 4000000 in
set_option maxRecDepth 100000 in
theorem k_X2_init (κ : Kt) (l : Launch) (w : va_W) (s_0 : Nat)  : CM κ l yX2_init cX2_init 1 (none) 2 40 8 92 [.ref s_0] ((s_0, .inr (3, [.null, .null, .null, .null])) :: w) (fun o w' => ∃ (g1 : Nat) (b1 : Nat) (g2 : Nat) (b2 : Nat) (g3 : Nat) (b3 : Nat) (g4 : Nat) (b4 : Nat), o = none ∧ w' = lA κ b4 20 (fun _ => 0) :: (g4, .inr (4, [.ref b4, .int 1, .int 1])) :: lA κ b3 20 (fun _ => 0) :: (g3, .inr (4, [.ref b3, .int 1, .int 1])) :: lA κ b2 20 (fun _ => 0) :: (g2, .inr (4, [.ref b2, .int 1, .int 1])) :: lA κ b1 20 (fun _ => 0) :: (g1, .inr (4, [.ref b1, .int 1, .int 1])) :: (s_0, .inr (3, [.ref g1, .ref g2, .ref g3, .ref g4])) :: w) := by
  refine CM_begin (plainFor_of_name pn_RX2) (Nat.le_of_ble_eq_true rfl) ?_
  intro p e s m args below meth c A Q hX hnm hA3 hQ hB ls hl
  have hx := hX.1.1
  have hb := hX.1.2.1
  have hl : lv_has ls 1 [(0, .ref s_0)] := hl
  refine lv_aload_n hx hb dX2_init_0 rfl (lv_at hl 0 rfl) ?_
  refine W.objInit hx hb hX.1.2.2.2.1 (hX.1.2.2.2.2 _ wm_1_120) (hX.1.2.2.2.2 _ wm_1_36) (hX.1.2.2.2.2 _ wm_1_37) rfl (by rw [hX.1.2.2.1]; exact hl.1) rfl dX2_init_1 (Nat.le_of_ble_eq_true rfl) (Nat.le_of_ble_eq_true rfl) ?_
  refine W.eq (g2 := F0 m 4 ls []) rfl ?_
  refine lv_aload_n hx hb dX2_init_4 rfl (lv_at hl 0 rfl) ?_
  refine newO (fs := [.null, .int 0, .int 0]) hX hB (ci := 4) rfl in3 tyX3_ok wm_1_121 wm_1_40 wm_1_2 df4 (Nat.le_of_ble_eq_true rfl) (Nat.le_of_ble_eq_true rfl) dX2_init_5 (fun q1 H hB => ?_)
  refine lv_dup hx hb dX2_init_8 rfl ?_
  refine call_IN (n := 0) (As := []) (rest := [.ref q1, .ref s_0]) hX hB (k_X3_init κ l ((s_0, .inr (3, [.null, .null, .null, .null])) :: w) q1 ) yk_X3_init rfl wn_1_122 wm_1_42 wm_1_2 wm_1_43 ⟨Nat.le_of_ble_eq_true rfl, Nat.le_of_ble_eq_true rfl⟩ ⟨Nat.le_of_ble_eq_true rfl, Nat.le_of_ble_eq_true rfl⟩ rfl hl.1 rfl (Nat.le_of_ble_eq_true rfl) dX2_init_9 (fun o w' H locs hp hB => ?_)
  obtain ⟨b2, rfl, hw9⟩ := hp
  replace hB : Bd κ A s (lA κ b2 20 (fun _ => 0) :: (q1, .inr (4, [.ref b2, .int 1, .int 1])) :: (s_0, .inr (3, [.null, .null, .null, .null])) :: w) H locs := by rw [hw9] at hB; exact hB
  refine W.eq (g2 := F0 m 12 ls [.ref q1, .ref s_0]) rfl ?_
  refine pfF (ty := .object "Gridmender$Grid") (k0 := 2) hX hnm hB rfl rfl in2 tyX2_ok nmX2 0 (by decide) wm_1_123 rfl rfl rfl rfl rfl rfl (Nat.le_of_ble_eq_true rfl) (w1 := lA κ b2 20 (fun _ => 0) :: (q1, .inr (4, [.ref b2, .int 1, .int 1])) :: (s_0, .inr (3, [.ref q1, .null, .null, .null])) :: w) rfl dX2_init_12 (fun H locs hB => ?_)
  refine lv_aload_n hx hb dX2_init_15 rfl (lv_at hl 0 rfl) ?_
  refine newO (fs := [.null, .int 0, .int 0]) hX hB (ci := 4) rfl in3 tyX3_ok wm_1_121 wm_1_40 wm_1_2 df4 (Nat.le_of_ble_eq_true rfl) (Nat.le_of_ble_eq_true rfl) dX2_init_16 (fun q3 H hB => ?_)
  refine lv_dup hx hb dX2_init_19 rfl ?_
  refine call_IN (n := 0) (As := []) (rest := [.ref q3, .ref s_0]) hX hB (k_X3_init κ l (lA κ b2 20 (fun _ => 0) :: (q1, .inr (4, [.ref b2, .int 1, .int 1])) :: (s_0, .inr (3, [.ref q1, .null, .null, .null])) :: w) q3 ) yk_X3_init rfl wn_1_122 wm_1_42 wm_1_2 wm_1_43 ⟨Nat.le_of_ble_eq_true rfl, Nat.le_of_ble_eq_true rfl⟩ ⟨Nat.le_of_ble_eq_true rfl, Nat.le_of_ble_eq_true rfl⟩ rfl hl.1 rfl (Nat.le_of_ble_eq_true rfl) dX2_init_20 (fun o w' H locs hp hB => ?_)
  obtain ⟨b4, rfl, hw9⟩ := hp
  replace hB : Bd κ A s (lA κ b4 20 (fun _ => 0) :: (q3, .inr (4, [.ref b4, .int 1, .int 1])) :: lA κ b2 20 (fun _ => 0) :: (q1, .inr (4, [.ref b2, .int 1, .int 1])) :: (s_0, .inr (3, [.ref q1, .null, .null, .null])) :: w) H locs := by rw [hw9] at hB; exact hB
  refine W.eq (g2 := F0 m 23 ls [.ref q3, .ref s_0]) rfl ?_
  refine pfF (ty := .object "Gridmender$Grid") (k0 := 4) hX hnm hB rfl rfl in2 tyX2_ok nmX2 1 (by decide) wm_1_124 rfl rfl rfl rfl rfl rfl (Nat.le_of_ble_eq_true rfl) (w1 := lA κ b4 20 (fun _ => 0) :: (q3, .inr (4, [.ref b4, .int 1, .int 1])) :: lA κ b2 20 (fun _ => 0) :: (q1, .inr (4, [.ref b2, .int 1, .int 1])) :: (s_0, .inr (3, [.ref q1, .ref q3, .null, .null])) :: w) rfl dX2_init_23 (fun H locs hB => ?_)
  refine lv_aload_n hx hb dX2_init_26 rfl (lv_at hl 0 rfl) ?_
  refine newO (fs := [.null, .int 0, .int 0]) hX hB (ci := 4) rfl in3 tyX3_ok wm_1_121 wm_1_40 wm_1_2 df4 (Nat.le_of_ble_eq_true rfl) (Nat.le_of_ble_eq_true rfl) dX2_init_27 (fun q5 H hB => ?_)
  refine lv_dup hx hb dX2_init_30 rfl ?_
  refine call_IN (n := 0) (As := []) (rest := [.ref q5, .ref s_0]) hX hB (k_X3_init κ l (lA κ b4 20 (fun _ => 0) :: (q3, .inr (4, [.ref b4, .int 1, .int 1])) :: lA κ b2 20 (fun _ => 0) :: (q1, .inr (4, [.ref b2, .int 1, .int 1])) :: (s_0, .inr (3, [.ref q1, .ref q3, .null, .null])) :: w) q5 ) yk_X3_init rfl wn_1_122 wm_1_42 wm_1_2 wm_1_43 ⟨Nat.le_of_ble_eq_true rfl, Nat.le_of_ble_eq_true rfl⟩ ⟨Nat.le_of_ble_eq_true rfl, Nat.le_of_ble_eq_true rfl⟩ rfl hl.1 rfl (Nat.le_of_ble_eq_true rfl) dX2_init_31 (fun o w' H locs hp hB => ?_)
  obtain ⟨b6, rfl, hw9⟩ := hp
  replace hB : Bd κ A s (lA κ b6 20 (fun _ => 0) :: (q5, .inr (4, [.ref b6, .int 1, .int 1])) :: lA κ b4 20 (fun _ => 0) :: (q3, .inr (4, [.ref b4, .int 1, .int 1])) :: lA κ b2 20 (fun _ => 0) :: (q1, .inr (4, [.ref b2, .int 1, .int 1])) :: (s_0, .inr (3, [.ref q1, .ref q3, .null, .null])) :: w) H locs := by rw [hw9] at hB; exact hB
  refine W.eq (g2 := F0 m 34 ls [.ref q5, .ref s_0]) rfl ?_
  refine pfF (ty := .object "Gridmender$Grid") (k0 := 6) hX hnm hB rfl rfl in2 tyX2_ok nmX2 2 (by decide) wm_1_125 rfl rfl rfl rfl rfl rfl (Nat.le_of_ble_eq_true rfl) (w1 := lA κ b6 20 (fun _ => 0) :: (q5, .inr (4, [.ref b6, .int 1, .int 1])) :: lA κ b4 20 (fun _ => 0) :: (q3, .inr (4, [.ref b4, .int 1, .int 1])) :: lA κ b2 20 (fun _ => 0) :: (q1, .inr (4, [.ref b2, .int 1, .int 1])) :: (s_0, .inr (3, [.ref q1, .ref q3, .ref q5, .null])) :: w) rfl dX2_init_34 (fun H locs hB => ?_)
  refine lv_aload_n hx hb dX2_init_37 rfl (lv_at hl 0 rfl) ?_
  refine newO (fs := [.null, .int 0, .int 0]) hX hB (ci := 4) rfl in3 tyX3_ok wm_1_121 wm_1_40 wm_1_2 df4 (Nat.le_of_ble_eq_true rfl) (Nat.le_of_ble_eq_true rfl) dX2_init_38 (fun q7 H hB => ?_)
  refine lv_dup hx hb dX2_init_41 rfl ?_
  refine call_IN (n := 0) (As := []) (rest := [.ref q7, .ref s_0]) hX hB (k_X3_init κ l (lA κ b6 20 (fun _ => 0) :: (q5, .inr (4, [.ref b6, .int 1, .int 1])) :: lA κ b4 20 (fun _ => 0) :: (q3, .inr (4, [.ref b4, .int 1, .int 1])) :: lA κ b2 20 (fun _ => 0) :: (q1, .inr (4, [.ref b2, .int 1, .int 1])) :: (s_0, .inr (3, [.ref q1, .ref q3, .ref q5, .null])) :: w) q7 ) yk_X3_init rfl wn_1_122 wm_1_42 wm_1_2 wm_1_43 ⟨Nat.le_of_ble_eq_true rfl, Nat.le_of_ble_eq_true rfl⟩ ⟨Nat.le_of_ble_eq_true rfl, Nat.le_of_ble_eq_true rfl⟩ rfl hl.1 rfl (Nat.le_of_ble_eq_true rfl) dX2_init_42 (fun o w' H locs hp hB => ?_)
  obtain ⟨b8, rfl, hw9⟩ := hp
  replace hB : Bd κ A s (lA κ b8 20 (fun _ => 0) :: (q7, .inr (4, [.ref b8, .int 1, .int 1])) :: lA κ b6 20 (fun _ => 0) :: (q5, .inr (4, [.ref b6, .int 1, .int 1])) :: lA κ b4 20 (fun _ => 0) :: (q3, .inr (4, [.ref b4, .int 1, .int 1])) :: lA κ b2 20 (fun _ => 0) :: (q1, .inr (4, [.ref b2, .int 1, .int 1])) :: (s_0, .inr (3, [.ref q1, .ref q3, .ref q5, .null])) :: w) H locs := by rw [hw9] at hB; exact hB
  refine W.eq (g2 := F0 m 45 ls [.ref q7, .ref s_0]) rfl ?_
  refine pfF (ty := .object "Gridmender$Grid") (k0 := 8) hX hnm hB rfl rfl in2 tyX2_ok nmX2 3 (by decide) wm_1_126 rfl rfl rfl rfl rfl rfl (Nat.le_of_ble_eq_true rfl) (w1 := lA κ b8 20 (fun _ => 0) :: (q7, .inr (4, [.ref b8, .int 1, .int 1])) :: lA κ b6 20 (fun _ => 0) :: (q5, .inr (4, [.ref b6, .int 1, .int 1])) :: lA κ b4 20 (fun _ => 0) :: (q3, .inr (4, [.ref b4, .int 1, .int 1])) :: lA κ b2 20 (fun _ => 0) :: (q1, .inr (4, [.ref b2, .int 1, .int 1])) :: (s_0, .inr (3, [.ref q1, .ref q3, .ref q5, .ref q7])) :: w) rfl dX2_init_45 (fun H locs hB => ?_)
  rw [← hQ]
  exact end_v hX hB hA3 rfl ⟨q1, b2, q3, b4, q5, b6, q7, b8, rfl, rfl⟩ (Nat.le_of_ble_eq_true rfl) (Nat.le_of_ble_eq_true rfl) dX2_init_48
set_option maxHeartbeats 4000000 in
set_option maxRecDepth 100000 in
theorem k_X6_init (κ : Kt) (l : Launch) (w : va_W) (s_0 : Nat)  : CM κ l yX6_init cX6_init 1 (none) 1 20 0 0 [.ref s_0] ((s_0, .inr (7, [.long 0, .null])) :: w) (fun o w' => o = none ∧ w' = (s_0, .inr (7, [.long 0, .null])) :: w) := by
  refine CM_begin (plainFor_of_name pn_RX6) (Nat.le_of_ble_eq_true rfl) ?_
  intro p e s m args below meth c A Q hX hnm hA3 hQ hB ls hl
  have hx := hX.1.1
  have hb := hX.1.2.1
  have hl : lv_has ls 1 [(0, .ref s_0)] := hl
  refine lv_aload_n hx hb dX6_init_0 rfl (lv_at hl 0 rfl) ?_
  refine W.objInit hx hb hX.1.2.2.2.1 (hX.1.2.2.2.2 _ wm_2_148) (hX.1.2.2.2.2 _ wm_1_36) (hX.1.2.2.2.2 _ wm_1_37) rfl (by rw [hX.1.2.2.1]; exact hl.1) rfl dX6_init_1 (Nat.le_of_ble_eq_true rfl) (Nat.le_of_ble_eq_true rfl) ?_
  refine W.eq (g2 := F0 m 4 ls []) rfl ?_
  rw [← hQ]
  exact end_v hX hB hA3 rfl ⟨rfl, rfl⟩ (Nat.le_of_ble_eq_true rfl) (Nat.le_of_ble_eq_true rfl) dX6_init_4
set_option maxHeartbeats 4000000 in
set_option maxRecDepth 100000 in
theorem k_X5_init (κ : Kt) (l : Launch) (w : va_W) (s_0 : Nat)  : CM κ l yX5_init cX5_init 2 (none) 3 60 35 380 [.ref s_0] ((s_0, .inr (6, [.null, .null, .null, .null, .null, .null, .null, .int 0, .int 0, .int 0])) :: w) (fun o w' => ∃ a : Nat → Nat, o = none ∧ a 0 = s_0 ∧ w' = cw κ a (fun _ => 1) (fun _ => 0) (fun _ _ => 0) ++ w) := by
  refine CM_begin (plainFor_of_name pn_RX5) (Nat.le_of_ble_eq_true rfl) ?_
  intro p e s m args below meth c A Q hX hnm hA3 hQ hB ls hl
  have hx := hX.1.1
  have hb := hX.1.2.1
  have hl : lv_has ls 2 [(0, .ref s_0)] := hl
  refine lv_aload_n hx hb dX5_init_0 rfl (lv_at hl 0 rfl) ?_
  refine W.objInit hx hb hX.1.2.2.2.1 (hX.1.2.2.2.2 _ wm_1_35) (hX.1.2.2.2.2 _ wm_1_36) (hX.1.2.2.2.2 _ wm_1_37) rfl (by rw [hX.1.2.2.1]; exact hl.1) rfl dX5_init_1 (Nat.le_of_ble_eq_true rfl) (Nat.le_of_ble_eq_true rfl) ?_
  refine W.eq (g2 := F0 m 4 ls []) rfl ?_
  refine lv_aload_n hx hb dX5_init_4 rfl (lv_at hl 0 rfl) ?_
  refine lv_iconst (v := 4) hx hb dX5_init_5 (by decide) ?_
  refine newR (t0 := 1) (N := 4) hX hB rfl wm_1_38 hX.2.1.2.2.1.2.2.2.1 (by decide) (by decide) (Nat.le_of_ble_eq_true rfl) (Nat.le_of_ble_eq_true rfl) (Nat.le_of_ble_eq_true rfl) dX5_init_6 (fun q1 H hB => ?_)
  refine pfF (ty := .array (.object "Gridmender$Grid")) (k0 := 1) hX hnm hB rfl rfl in5 tyX5_ok nmX5 0 (by decide) wm_1_137 rfl rfl rfl rfl rfl rfl (Nat.le_of_ble_eq_true rfl) (w1 := (q1, .inl (κ.2.1 1, 4, .inr (.inr (.inr (.inr (fun _ => none)))))) :: (s_0, .inr (6, [.ref q1, .null, .null, .null, .null, .null, .null, .int 0, .int 0, .int 0])) :: w) rfl dX5_init_9 (fun H locs hB => ?_)
  refine lv_aload_n hx hb dX5_init_12 rfl (lv_at hl 0 rfl) ?_
  refine newO (fs := [.null, .int 0, .int 0]) hX hB (ci := 4) rfl in3 tyX3_ok wm_1_38 wm_1_40 wm_1_2 df4 (Nat.le_of_ble_eq_true rfl) (Nat.le_of_ble_eq_true rfl) dX5_init_13 (fun q2 H hB => ?_)
  refine lv_dup hx hb dX5_init_16 rfl ?_
  refine call_IN (n := 0) (As := []) (rest := [.ref q2, .ref s_0]) hX hB (k_X3_init κ l ((q1, .inl (κ.2.1 1, 4, .inr (.inr (.inr (.inr (fun _ => none)))))) :: (s_0, .inr (6, [.ref q1, .null, .null, .null, .null, .null, .null, .int 0, .int 0, .int 0])) :: w) q2 ) yk_X3_init rfl wn_1_41 wm_1_42 wm_1_2 wm_1_43 ⟨Nat.le_of_ble_eq_true rfl, Nat.le_of_ble_eq_true rfl⟩ ⟨Nat.le_of_ble_eq_true rfl, Nat.le_of_ble_eq_true rfl⟩ rfl hl.1 rfl (Nat.le_of_ble_eq_true rfl) dX5_init_17 (fun o w' H locs hp hB => ?_)
  obtain ⟨b3, rfl, hw9⟩ := hp
  replace hB : Bd κ A s (lA κ b3 20 (fun _ => 0) :: (q2, .inr (4, [.ref b3, .int 1, .int 1])) :: (q1, .inl (κ.2.1 1, 4, .inr (.inr (.inr (.inr (fun _ => none)))))) :: (s_0, .inr (6, [.ref q1, .null, .null, .null, .null, .null, .null, .int 0, .int 0, .int 0])) :: w) H locs := by rw [hw9] at hB; exact hB
  refine W.eq (g2 := F0 m 20 ls [.ref q2, .ref s_0]) rfl ?_
  refine pfF (ty := .object "Gridmender$Grid") (k0 := 3) hX hnm hB rfl rfl in5 tyX5_ok nmX5 1 (by decide) wm_1_138 rfl rfl rfl rfl rfl rfl (Nat.le_of_ble_eq_true rfl) (w1 := lA κ b3 20 (fun _ => 0) :: (q2, .inr (4, [.ref b3, .int 1, .int 1])) :: (q1, .inl (κ.2.1 1, 4, .inr (.inr (.inr (.inr (fun _ => none)))))) :: (s_0, .inr (6, [.ref q1, .ref q2, .null, .null, .null, .null, .null, .int 0, .int 0, .int 0])) :: w) rfl dX5_init_20 (fun H locs hB => ?_)
  refine lv_aload_n hx hb dX5_init_23 rfl (lv_at hl 0 rfl) ?_
  refine newO (fs := [.null, .int 0, .int 0]) hX hB (ci := 4) rfl in3 tyX3_ok wm_1_38 wm_1_40 wm_1_2 df4 (Nat.le_of_ble_eq_true rfl) (Nat.le_of_ble_eq_true rfl) dX5_init_24 (fun q4 H hB => ?_)
  refine lv_dup hx hb dX5_init_27 rfl ?_
  refine call_IN (n := 0) (As := []) (rest := [.ref q4, .ref s_0]) hX hB (k_X3_init κ l (lA κ b3 20 (fun _ => 0) :: (q2, .inr (4, [.ref b3, .int 1, .int 1])) :: (q1, .inl (κ.2.1 1, 4, .inr (.inr (.inr (.inr (fun _ => none)))))) :: (s_0, .inr (6, [.ref q1, .ref q2, .null, .null, .null, .null, .null, .int 0, .int 0, .int 0])) :: w) q4 ) yk_X3_init rfl wn_1_41 wm_1_42 wm_1_2 wm_1_43 ⟨Nat.le_of_ble_eq_true rfl, Nat.le_of_ble_eq_true rfl⟩ ⟨Nat.le_of_ble_eq_true rfl, Nat.le_of_ble_eq_true rfl⟩ rfl hl.1 rfl (Nat.le_of_ble_eq_true rfl) dX5_init_28 (fun o w' H locs hp hB => ?_)
  obtain ⟨b5, rfl, hw9⟩ := hp
  replace hB : Bd κ A s (lA κ b5 20 (fun _ => 0) :: (q4, .inr (4, [.ref b5, .int 1, .int 1])) :: lA κ b3 20 (fun _ => 0) :: (q2, .inr (4, [.ref b3, .int 1, .int 1])) :: (q1, .inl (κ.2.1 1, 4, .inr (.inr (.inr (.inr (fun _ => none)))))) :: (s_0, .inr (6, [.ref q1, .ref q2, .null, .null, .null, .null, .null, .int 0, .int 0, .int 0])) :: w) H locs := by rw [hw9] at hB; exact hB
  refine W.eq (g2 := F0 m 31 ls [.ref q4, .ref s_0]) rfl ?_
  refine pfF (ty := .object "Gridmender$Grid") (k0 := 5) hX hnm hB rfl rfl in5 tyX5_ok nmX5 2 (by decide) wm_1_139 rfl rfl rfl rfl rfl rfl (Nat.le_of_ble_eq_true rfl) (w1 := lA κ b5 20 (fun _ => 0) :: (q4, .inr (4, [.ref b5, .int 1, .int 1])) :: lA κ b3 20 (fun _ => 0) :: (q2, .inr (4, [.ref b3, .int 1, .int 1])) :: (q1, .inl (κ.2.1 1, 4, .inr (.inr (.inr (.inr (fun _ => none)))))) :: (s_0, .inr (6, [.ref q1, .ref q2, .ref q4, .null, .null, .null, .null, .int 0, .int 0, .int 0])) :: w) rfl dX5_init_31 (fun H locs hB => ?_)
  refine lv_aload_n hx hb dX5_init_34 rfl (lv_at hl 0 rfl) ?_
  refine newO (fs := [.null, .null, .int 0]) hX hB (ci := 5) rfl in4 tyX4_ok wm_1_66 wm_1_67 wm_1_3 df5 (Nat.le_of_ble_eq_true rfl) (Nat.le_of_ble_eq_true rfl) dX5_init_35 (fun q6 H hB => ?_)
  refine lv_dup hx hb dX5_init_38 rfl ?_
  refine call_IN (n := 0) (As := []) (rest := [.ref q6, .ref s_0]) hX hB (k_X4_init κ l (lA κ b5 20 (fun _ => 0) :: (q4, .inr (4, [.ref b5, .int 1, .int 1])) :: lA κ b3 20 (fun _ => 0) :: (q2, .inr (4, [.ref b3, .int 1, .int 1])) :: (q1, .inl (κ.2.1 1, 4, .inr (.inr (.inr (.inr (fun _ => none)))))) :: (s_0, .inr (6, [.ref q1, .ref q2, .ref q4, .null, .null, .null, .null, .int 0, .int 0, .int 0])) :: w) q6 ) yk_X4_init rfl wn_1_68 wm_1_69 wm_1_3 wm_1_70 ⟨Nat.le_of_ble_eq_true rfl, Nat.le_of_ble_eq_true rfl⟩ ⟨Nat.le_of_ble_eq_true rfl, Nat.le_of_ble_eq_true rfl⟩ rfl hl.1 rfl (Nat.le_of_ble_eq_true rfl) dX5_init_39 (fun o w' H locs hp hB => ?_)
  obtain ⟨g7, b8, g9, b10, rfl, hw9⟩ := hp
  replace hB : Bd κ A s (lA κ b10 20 (fun _ => 0) :: (g9, .inr (4, [.ref b10, .int 1, .int 1])) :: lA κ b8 20 (fun _ => 0) :: (g7, .inr (4, [.ref b8, .int 1, .int 1])) :: (q6, .inr (5, [.ref g7, .ref g9, .int 0])) :: lA κ b5 20 (fun _ => 0) :: (q4, .inr (4, [.ref b5, .int 1, .int 1])) :: lA κ b3 20 (fun _ => 0) :: (q2, .inr (4, [.ref b3, .int 1, .int 1])) :: (q1, .inl (κ.2.1 1, 4, .inr (.inr (.inr (.inr (fun _ => none)))))) :: (s_0, .inr (6, [.ref q1, .ref q2, .ref q4, .null, .null, .null, .null, .int 0, .int 0, .int 0])) :: w) H locs := by rw [hw9] at hB; exact hB
  refine W.eq (g2 := F0 m 42 ls [.ref q6, .ref s_0]) rfl ?_
  refine pfF (ty := .object "Gridmender$RowSteps") (k0 := 10) hX hnm hB rfl rfl in5 tyX5_ok nmX5 3 (by decide) wm_1_140 rfl rfl rfl rfl rfl rfl (Nat.le_of_ble_eq_true rfl) (w1 := lA κ b10 20 (fun _ => 0) :: (g9, .inr (4, [.ref b10, .int 1, .int 1])) :: lA κ b8 20 (fun _ => 0) :: (g7, .inr (4, [.ref b8, .int 1, .int 1])) :: (q6, .inr (5, [.ref g7, .ref g9, .int 0])) :: lA κ b5 20 (fun _ => 0) :: (q4, .inr (4, [.ref b5, .int 1, .int 1])) :: lA κ b3 20 (fun _ => 0) :: (q2, .inr (4, [.ref b3, .int 1, .int 1])) :: (q1, .inl (κ.2.1 1, 4, .inr (.inr (.inr (.inr (fun _ => none)))))) :: (s_0, .inr (6, [.ref q1, .ref q2, .ref q4, .ref q6, .null, .null, .null, .int 0, .int 0, .int 0])) :: w) rfl dX5_init_42 (fun H locs hB => ?_)
  refine lv_aload_n hx hb dX5_init_45 rfl (lv_at hl 0 rfl) ?_
  refine newO (fs := [.null, .null, .null, .int 0]) hX hB (ci := 2) rfl in1 tyX1_ok wm_1_87 wm_1_88 wm_1_4 df2 (Nat.le_of_ble_eq_true rfl) (Nat.le_of_ble_eq_true rfl) dX5_init_46 (fun q11 H hB => ?_)
  refine lv_dup hx hb dX5_init_49 rfl ?_
  refine call_IN (n := 0) (As := []) (rest := [.ref q11, .ref s_0]) hX hB (k_X1_init κ l (lA κ b10 20 (fun _ => 0) :: (g9, .inr (4, [.ref b10, .int 1, .int 1])) :: lA κ b8 20 (fun _ => 0) :: (g7, .inr (4, [.ref b8, .int 1, .int 1])) :: (q6, .inr (5, [.ref g7, .ref g9, .int 0])) :: lA κ b5 20 (fun _ => 0) :: (q4, .inr (4, [.ref b5, .int 1, .int 1])) :: lA κ b3 20 (fun _ => 0) :: (q2, .inr (4, [.ref b3, .int 1, .int 1])) :: (q1, .inl (κ.2.1 1, 4, .inr (.inr (.inr (.inr (fun _ => none)))))) :: (s_0, .inr (6, [.ref q1, .ref q2, .ref q4, .ref q6, .null, .null, .null, .int 0, .int 0, .int 0])) :: w) q11 ) yk_X1_init rfl wn_1_89 wm_1_90 wm_1_4 wm_1_91 ⟨Nat.le_of_ble_eq_true rfl, Nat.le_of_ble_eq_true rfl⟩ ⟨Nat.le_of_ble_eq_true rfl, Nat.le_of_ble_eq_true rfl⟩ rfl hl.1 rfl (Nat.le_of_ble_eq_true rfl) dX5_init_50 (fun o w' H locs hp hB => ?_)
  obtain ⟨g12, b13, g14, b15, g16, b17, rfl, hw9⟩ := hp
  replace hB : Bd κ A s (lA κ b17 20 (fun _ => 0) :: (g16, .inr (4, [.ref b17, .int 1, .int 1])) :: lA κ b15 20 (fun _ => 0) :: (g14, .inr (4, [.ref b15, .int 1, .int 1])) :: lA κ b13 20 (fun _ => 0) :: (g12, .inr (4, [.ref b13, .int 1, .int 1])) :: (q11, .inr (2, [.ref g12, .ref g14, .ref g16, .int 0])) :: lA κ b10 20 (fun _ => 0) :: (g9, .inr (4, [.ref b10, .int 1, .int 1])) :: lA κ b8 20 (fun _ => 0) :: (g7, .inr (4, [.ref b8, .int 1, .int 1])) :: (q6, .inr (5, [.ref g7, .ref g9, .int 0])) :: lA κ b5 20 (fun _ => 0) :: (q4, .inr (4, [.ref b5, .int 1, .int 1])) :: lA κ b3 20 (fun _ => 0) :: (q2, .inr (4, [.ref b3, .int 1, .int 1])) :: (q1, .inl (κ.2.1 1, 4, .inr (.inr (.inr (.inr (fun _ => none)))))) :: (s_0, .inr (6, [.ref q1, .ref q2, .ref q4, .ref q6, .null, .null, .null, .int 0, .int 0, .int 0])) :: w) H locs := by rw [hw9] at hB; exact hB
  refine W.eq (g2 := F0 m 53 ls [.ref q11, .ref s_0]) rfl ?_
  refine pfF (ty := .object "Gridmender$DiagonalSteps") (k0 := 17) hX hnm hB rfl rfl in5 tyX5_ok nmX5 4 (by decide) wm_1_141 rfl rfl rfl rfl rfl rfl (Nat.le_of_ble_eq_true rfl) (w1 := lA κ b17 20 (fun _ => 0) :: (g16, .inr (4, [.ref b17, .int 1, .int 1])) :: lA κ b15 20 (fun _ => 0) :: (g14, .inr (4, [.ref b15, .int 1, .int 1])) :: lA κ b13 20 (fun _ => 0) :: (g12, .inr (4, [.ref b13, .int 1, .int 1])) :: (q11, .inr (2, [.ref g12, .ref g14, .ref g16, .int 0])) :: lA κ b10 20 (fun _ => 0) :: (g9, .inr (4, [.ref b10, .int 1, .int 1])) :: lA κ b8 20 (fun _ => 0) :: (g7, .inr (4, [.ref b8, .int 1, .int 1])) :: (q6, .inr (5, [.ref g7, .ref g9, .int 0])) :: lA κ b5 20 (fun _ => 0) :: (q4, .inr (4, [.ref b5, .int 1, .int 1])) :: lA κ b3 20 (fun _ => 0) :: (q2, .inr (4, [.ref b3, .int 1, .int 1])) :: (q1, .inl (κ.2.1 1, 4, .inr (.inr (.inr (.inr (fun _ => none)))))) :: (s_0, .inr (6, [.ref q1, .ref q2, .ref q4, .ref q6, .ref q11, .null, .null, .int 0, .int 0, .int 0])) :: w) rfl dX5_init_53 (fun H locs hB => ?_)
  refine lv_aload_n hx hb dX5_init_56 rfl (lv_at hl 0 rfl) ?_
  refine newO (fs := [.null, .null, .null, .null]) hX hB (ci := 3) rfl in2 tyX2_ok wm_1_115 wm_1_116 wm_1_5 df3 (Nat.le_of_ble_eq_true rfl) (Nat.le_of_ble_eq_true rfl) dX5_init_57 (fun q18 H hB => ?_)
  refine lv_dup hx hb dX5_init_60 rfl ?_
  refine call_IN (n := 0) (As := []) (rest := [.ref q18, .ref s_0]) hX hB (k_X2_init κ l (lA κ b17 20 (fun _ => 0) :: (g16, .inr (4, [.ref b17, .int 1, .int 1])) :: lA κ b15 20 (fun _ => 0) :: (g14, .inr (4, [.ref b15, .int 1, .int 1])) :: lA κ b13 20 (fun _ => 0) :: (g12, .inr (4, [.ref b13, .int 1, .int 1])) :: (q11, .inr (2, [.ref g12, .ref g14, .ref g16, .int 0])) :: lA κ b10 20 (fun _ => 0) :: (g9, .inr (4, [.ref b10, .int 1, .int 1])) :: lA κ b8 20 (fun _ => 0) :: (g7, .inr (4, [.ref b8, .int 1, .int 1])) :: (q6, .inr (5, [.ref g7, .ref g9, .int 0])) :: lA κ b5 20 (fun _ => 0) :: (q4, .inr (4, [.ref b5, .int 1, .int 1])) :: lA κ b3 20 (fun _ => 0) :: (q2, .inr (4, [.ref b3, .int 1, .int 1])) :: (q1, .inl (κ.2.1 1, 4, .inr (.inr (.inr (.inr (fun _ => none)))))) :: (s_0, .inr (6, [.ref q1, .ref q2, .ref q4, .ref q6, .ref q11, .null, .null, .int 0, .int 0, .int 0])) :: w) q18 ) yk_X2_init rfl wn_1_117 wm_1_118 wm_1_5 wm_1_119 ⟨Nat.le_of_ble_eq_true rfl, Nat.le_of_ble_eq_true rfl⟩ ⟨Nat.le_of_ble_eq_true rfl, Nat.le_of_ble_eq_true rfl⟩ rfl hl.1 rfl (Nat.le_of_ble_eq_true rfl) dX5_init_61 (fun o w' H locs hp hB => ?_)
  obtain ⟨g19, b20, g21, b22, g23, b24, g25, b26, rfl, hw9⟩ := hp
  replace hB : Bd κ A s (lA κ b26 20 (fun _ => 0) :: (g25, .inr (4, [.ref b26, .int 1, .int 1])) :: lA κ b24 20 (fun _ => 0) :: (g23, .inr (4, [.ref b24, .int 1, .int 1])) :: lA κ b22 20 (fun _ => 0) :: (g21, .inr (4, [.ref b22, .int 1, .int 1])) :: lA κ b20 20 (fun _ => 0) :: (g19, .inr (4, [.ref b20, .int 1, .int 1])) :: (q18, .inr (3, [.ref g19, .ref g21, .ref g23, .ref g25])) :: lA κ b17 20 (fun _ => 0) :: (g16, .inr (4, [.ref b17, .int 1, .int 1])) :: lA κ b15 20 (fun _ => 0) :: (g14, .inr (4, [.ref b15, .int 1, .int 1])) :: lA κ b13 20 (fun _ => 0) :: (g12, .inr (4, [.ref b13, .int 1, .int 1])) :: (q11, .inr (2, [.ref g12, .ref g14, .ref g16, .int 0])) :: lA κ b10 20 (fun _ => 0) :: (g9, .inr (4, [.ref b10, .int 1, .int 1])) :: lA κ b8 20 (fun _ => 0) :: (g7, .inr (4, [.ref b8, .int 1, .int 1])) :: (q6, .inr (5, [.ref g7, .ref g9, .int 0])) :: lA κ b5 20 (fun _ => 0) :: (q4, .inr (4, [.ref b5, .int 1, .int 1])) :: lA κ b3 20 (fun _ => 0) :: (q2, .inr (4, [.ref b3, .int 1, .int 1])) :: (q1, .inl (κ.2.1 1, 4, .inr (.inr (.inr (.inr (fun _ => none)))))) :: (s_0, .inr (6, [.ref q1, .ref q2, .ref q4, .ref q6, .ref q11, .null, .null, .int 0, .int 0, .int 0])) :: w) H locs := by rw [hw9] at hB; exact hB
  refine W.eq (g2 := F0 m 64 ls [.ref q18, .ref s_0]) rfl ?_
  refine pfF (ty := .object "Gridmender$Equation") (k0 := 26) hX hnm hB rfl rfl in5 tyX5_ok nmX5 5 (by decide) wm_1_142 rfl rfl rfl rfl rfl rfl (Nat.le_of_ble_eq_true rfl) (w1 := lA κ b26 20 (fun _ => 0) :: (g25, .inr (4, [.ref b26, .int 1, .int 1])) :: lA κ b24 20 (fun _ => 0) :: (g23, .inr (4, [.ref b24, .int 1, .int 1])) :: lA κ b22 20 (fun _ => 0) :: (g21, .inr (4, [.ref b22, .int 1, .int 1])) :: lA κ b20 20 (fun _ => 0) :: (g19, .inr (4, [.ref b20, .int 1, .int 1])) :: (q18, .inr (3, [.ref g19, .ref g21, .ref g23, .ref g25])) :: lA κ b17 20 (fun _ => 0) :: (g16, .inr (4, [.ref b17, .int 1, .int 1])) :: lA κ b15 20 (fun _ => 0) :: (g14, .inr (4, [.ref b15, .int 1, .int 1])) :: lA κ b13 20 (fun _ => 0) :: (g12, .inr (4, [.ref b13, .int 1, .int 1])) :: (q11, .inr (2, [.ref g12, .ref g14, .ref g16, .int 0])) :: lA κ b10 20 (fun _ => 0) :: (g9, .inr (4, [.ref b10, .int 1, .int 1])) :: lA κ b8 20 (fun _ => 0) :: (g7, .inr (4, [.ref b8, .int 1, .int 1])) :: (q6, .inr (5, [.ref g7, .ref g9, .int 0])) :: lA κ b5 20 (fun _ => 0) :: (q4, .inr (4, [.ref b5, .int 1, .int 1])) :: lA κ b3 20 (fun _ => 0) :: (q2, .inr (4, [.ref b3, .int 1, .int 1])) :: (q1, .inl (κ.2.1 1, 4, .inr (.inr (.inr (.inr (fun _ => none)))))) :: (s_0, .inr (6, [.ref q1, .ref q2, .ref q4, .ref q6, .ref q11, .ref q18, .null, .int 0, .int 0, .int 0])) :: w) rfl dX5_init_64 (fun H locs hB => ?_)
  refine lv_aload_n hx hb dX5_init_67 rfl (lv_at hl 0 rfl) ?_
  refine lv_iconst (v := 4) hx hb dX5_init_68 (by decide) ?_
  refine newA (t0 := 0) (ty := .long) (N := 4) (mx := 20) (a0 := (4, .inr (.inl (fun _ => 0)))) hX hB rfl rfl (fun h => h) wm_1_65 (fun _ => rfl) (nI_pos (n := 4) (by omega)) (nI_clamp (n := 4) (by omega)) (by omega) (Nat.le_of_ble_eq_true rfl) (Nat.le_of_ble_eq_true rfl) (Nat.le_of_ble_eq_true rfl) dX5_init_69 (fun q27 H hB => ?_)
  refine pfF (ty := .array .long) (k0 := 27) hX hnm hB rfl rfl in5 tyX5_ok nmX5 6 (by decide) wm_1_143 rfl rfl rfl rfl rfl rfl (Nat.le_of_ble_eq_true rfl) (w1 := lA κ q27 4 (fun _ => 0) :: lA κ b26 20 (fun _ => 0) :: (g25, .inr (4, [.ref b26, .int 1, .int 1])) :: lA κ b24 20 (fun _ => 0) :: (g23, .inr (4, [.ref b24, .int 1, .int 1])) :: lA κ b22 20 (fun _ => 0) :: (g21, .inr (4, [.ref b22, .int 1, .int 1])) :: lA κ b20 20 (fun _ => 0) :: (g19, .inr (4, [.ref b20, .int 1, .int 1])) :: (q18, .inr (3, [.ref g19, .ref g21, .ref g23, .ref g25])) :: lA κ b17 20 (fun _ => 0) :: (g16, .inr (4, [.ref b17, .int 1, .int 1])) :: lA κ b15 20 (fun _ => 0) :: (g14, .inr (4, [.ref b15, .int 1, .int 1])) :: lA κ b13 20 (fun _ => 0) :: (g12, .inr (4, [.ref b13, .int 1, .int 1])) :: (q11, .inr (2, [.ref g12, .ref g14, .ref g16, .int 0])) :: lA κ b10 20 (fun _ => 0) :: (g9, .inr (4, [.ref b10, .int 1, .int 1])) :: lA κ b8 20 (fun _ => 0) :: (g7, .inr (4, [.ref b8, .int 1, .int 1])) :: (q6, .inr (5, [.ref g7, .ref g9, .int 0])) :: lA κ b5 20 (fun _ => 0) :: (q4, .inr (4, [.ref b5, .int 1, .int 1])) :: lA κ b3 20 (fun _ => 0) :: (q2, .inr (4, [.ref b3, .int 1, .int 1])) :: (q1, .inl (κ.2.1 1, 4, .inr (.inr (.inr (.inr (fun _ => none)))))) :: (s_0, .inr (6, [.ref q1, .ref q2, .ref q4, .ref q6, .ref q11, .ref q18, .ref q27, .int 0, .int 0, .int 0])) :: w) rfl dX5_init_71 (fun H locs hB => ?_)
  refine lv_iconst (v := 0) hx hb dX5_init_74 (by decide) ?_
  refine lv_istore_n (lv' := [(1, .int 0), (0, .ref s_0)]) hx hb dX5_init_75 rfl hl (by decide) rfl (fun ls hl => ?_)
  refine lv_iload_n hx hb dX5_init_76 rfl (lv_at hl 0 rfl) ?_
  refine lv_iconst (v := 4) hx hb dX5_init_77 (by decide) ?_
  refine lv_icmp_ge (tgt := 100) hx hb dX5_init_78 (by decide) (fun c28 => False.elim (by revert c28; decide)) (fun _ => ?_)
  refine lv_aload_n hx hb dX5_init_81 rfl (lv_at hl 1 rfl) ?_
  refine gf (k0 := 27) hX hB rfl rfl in5 0 (by decide) wm_1_137 rfl rfl dX5_init_82 ?_
  refine lv_iload_n hx hb dX5_init_85 rfl (lv_at hl 0 rfl) ?_
  refine newO (fs := [.null, .int 0, .int 0]) hX hB (ci := 4) rfl in3 tyX3_ok wm_1_38 wm_1_40 wm_1_2 df4 (Nat.le_of_ble_eq_true rfl) (Nat.le_of_ble_eq_true rfl) dX5_init_86 (fun q29 H hB => ?_)
  refine lv_dup hx hb dX5_init_89 rfl ?_
  refine call_IN (n := 0) (As := []) (rest := [.ref q29, .int 0, .ref q1]) hX hB (k_X3_init κ l (lA κ q27 4 (fun _ => 0) :: lA κ b26 20 (fun _ => 0) :: (g25, .inr (4, [.ref b26, .int 1, .int 1])) :: lA κ b24 20 (fun _ => 0) :: (g23, .inr (4, [.ref b24, .int 1, .int 1])) :: lA κ b22 20 (fun _ => 0) :: (g21, .inr (4, [.ref b22, .int 1, .int 1])) :: lA κ b20 20 (fun _ => 0) :: (g19, .inr (4, [.ref b20, .int 1, .int 1])) :: (q18, .inr (3, [.ref g19, .ref g21, .ref g23, .ref g25])) :: lA κ b17 20 (fun _ => 0) :: (g16, .inr (4, [.ref b17, .int 1, .int 1])) :: lA κ b15 20 (fun _ => 0) :: (g14, .inr (4, [.ref b15, .int 1, .int 1])) :: lA κ b13 20 (fun _ => 0) :: (g12, .inr (4, [.ref b13, .int 1, .int 1])) :: (q11, .inr (2, [.ref g12, .ref g14, .ref g16, .int 0])) :: lA κ b10 20 (fun _ => 0) :: (g9, .inr (4, [.ref b10, .int 1, .int 1])) :: lA κ b8 20 (fun _ => 0) :: (g7, .inr (4, [.ref b8, .int 1, .int 1])) :: (q6, .inr (5, [.ref g7, .ref g9, .int 0])) :: lA κ b5 20 (fun _ => 0) :: (q4, .inr (4, [.ref b5, .int 1, .int 1])) :: lA κ b3 20 (fun _ => 0) :: (q2, .inr (4, [.ref b3, .int 1, .int 1])) :: (q1, .inl (κ.2.1 1, 4, .inr (.inr (.inr (.inr (fun _ => none)))))) :: (s_0, .inr (6, [.ref q1, .ref q2, .ref q4, .ref q6, .ref q11, .ref q18, .ref q27, .int 0, .int 0, .int 0])) :: w) q29 ) yk_X3_init rfl wn_1_41 wm_1_42 wm_1_2 wm_1_43 ⟨Nat.le_of_ble_eq_true rfl, Nat.le_of_ble_eq_true rfl⟩ ⟨Nat.le_of_ble_eq_true rfl, Nat.le_of_ble_eq_true rfl⟩ rfl hl.1 rfl (Nat.le_of_ble_eq_true rfl) dX5_init_90 (fun o w' H locs hp hB => ?_)
  obtain ⟨b30, rfl, hw9⟩ := hp
  replace hB : Bd κ A s (lA κ b30 20 (fun _ => 0) :: (q29, .inr (4, [.ref b30, .int 1, .int 1])) :: lA κ q27 4 (fun _ => 0) :: lA κ b26 20 (fun _ => 0) :: (g25, .inr (4, [.ref b26, .int 1, .int 1])) :: lA κ b24 20 (fun _ => 0) :: (g23, .inr (4, [.ref b24, .int 1, .int 1])) :: lA κ b22 20 (fun _ => 0) :: (g21, .inr (4, [.ref b22, .int 1, .int 1])) :: lA κ b20 20 (fun _ => 0) :: (g19, .inr (4, [.ref b20, .int 1, .int 1])) :: (q18, .inr (3, [.ref g19, .ref g21, .ref g23, .ref g25])) :: lA κ b17 20 (fun _ => 0) :: (g16, .inr (4, [.ref b17, .int 1, .int 1])) :: lA κ b15 20 (fun _ => 0) :: (g14, .inr (4, [.ref b15, .int 1, .int 1])) :: lA κ b13 20 (fun _ => 0) :: (g12, .inr (4, [.ref b13, .int 1, .int 1])) :: (q11, .inr (2, [.ref g12, .ref g14, .ref g16, .int 0])) :: lA κ b10 20 (fun _ => 0) :: (g9, .inr (4, [.ref b10, .int 1, .int 1])) :: lA κ b8 20 (fun _ => 0) :: (g7, .inr (4, [.ref b8, .int 1, .int 1])) :: (q6, .inr (5, [.ref g7, .ref g9, .int 0])) :: lA κ b5 20 (fun _ => 0) :: (q4, .inr (4, [.ref b5, .int 1, .int 1])) :: lA κ b3 20 (fun _ => 0) :: (q2, .inr (4, [.ref b3, .int 1, .int 1])) :: (q1, .inl (κ.2.1 1, 4, .inr (.inr (.inr (.inr (fun _ => none)))))) :: (s_0, .inr (6, [.ref q1, .ref q2, .ref q4, .ref q6, .ref q11, .ref q18, .ref q27, .int 0, .int 0, .int 0])) :: w) H locs := by rw [hw9] at hB; exact hB
  refine W.eq (g2 := F0 m 93 ls [.ref q29, .int 0, .ref q1]) rfl ?_
  refine astG (f := fun _ => none) (k0 := 28) (k1 := 1) (i := 0) hX hB rfl rfl (vp_in_iff.mpr ⟨by decide, by decide⟩) (w1 := lA κ b30 20 (fun _ => 0) :: (q29, .inr (4, [.ref b30, .int 1, .int 1])) :: lA κ q27 4 (fun _ => 0) :: lA κ b26 20 (fun _ => 0) :: (g25, .inr (4, [.ref b26, .int 1, .int 1])) :: lA κ b24 20 (fun _ => 0) :: (g23, .inr (4, [.ref b24, .int 1, .int 1])) :: lA κ b22 20 (fun _ => 0) :: (g21, .inr (4, [.ref b22, .int 1, .int 1])) :: lA κ b20 20 (fun _ => 0) :: (g19, .inr (4, [.ref b20, .int 1, .int 1])) :: (q18, .inr (3, [.ref g19, .ref g21, .ref g23, .ref g25])) :: lA κ b17 20 (fun _ => 0) :: (g16, .inr (4, [.ref b17, .int 1, .int 1])) :: lA κ b15 20 (fun _ => 0) :: (g14, .inr (4, [.ref b15, .int 1, .int 1])) :: lA κ b13 20 (fun _ => 0) :: (g12, .inr (4, [.ref b13, .int 1, .int 1])) :: (q11, .inr (2, [.ref g12, .ref g14, .ref g16, .int 0])) :: lA κ b10 20 (fun _ => 0) :: (g9, .inr (4, [.ref b10, .int 1, .int 1])) :: lA κ b8 20 (fun _ => 0) :: (g7, .inr (4, [.ref b8, .int 1, .int 1])) :: (q6, .inr (5, [.ref g7, .ref g9, .int 0])) :: lA κ b5 20 (fun _ => 0) :: (q4, .inr (4, [.ref b5, .int 1, .int 1])) :: lA κ b3 20 (fun _ => 0) :: (q2, .inr (4, [.ref b3, .int 1, .int 1])) :: (q1, .inl (κ.2.1 1, 4, .inr (.inr (.inr (.inr (va_up (fun _ => none) (Int32.toNatClampNeg 0) (some q29))))))) :: (s_0, .inr (6, [.ref q1, .ref q2, .ref q4, .ref q6, .ref q11, .ref q18, .ref q27, .int 0, .int 0, .int 0])) :: w) rfl dX5_init_93 (fun H locs hB => ?_)
  refine lv_iinc (v := 1) (lv' := [(1, .int 1), (0, .ref s_0)]) hx hb dX5_init_94 hl (k := 0) rfl (by decide) (by decide) rfl (fun ls hl => ?_)
  refine lv_goto (tgt := 76) hx hb dX5_init_97 (by decide) ?_
  refine lv_iload_n hx hb dX5_init_76 rfl (lv_at hl 0 rfl) ?_
  refine lv_iconst (v := 4) hx hb dX5_init_77 (by decide) ?_
  refine lv_icmp_ge (tgt := 100) hx hb dX5_init_78 (by decide) (fun c31 => False.elim (by revert c31; decide)) (fun _ => ?_)
  refine lv_aload_n hx hb dX5_init_81 rfl (lv_at hl 1 rfl) ?_
  refine gf (k0 := 29) hX hB rfl rfl in5 0 (by decide) wm_1_137 rfl rfl dX5_init_82 ?_
  refine lv_iload_n hx hb dX5_init_85 rfl (lv_at hl 0 rfl) ?_
  refine newO (fs := [.null, .int 0, .int 0]) hX hB (ci := 4) rfl in3 tyX3_ok wm_1_38 wm_1_40 wm_1_2 df4 (Nat.le_of_ble_eq_true rfl) (Nat.le_of_ble_eq_true rfl) dX5_init_86 (fun q32 H hB => ?_)
  refine lv_dup hx hb dX5_init_89 rfl ?_
  refine call_IN (n := 0) (As := []) (rest := [.ref q32, .int 1, .ref q1]) hX hB (k_X3_init κ l (lA κ b30 20 (fun _ => 0) :: (q29, .inr (4, [.ref b30, .int 1, .int 1])) :: lA κ q27 4 (fun _ => 0) :: lA κ b26 20 (fun _ => 0) :: (g25, .inr (4, [.ref b26, .int 1, .int 1])) :: lA κ b24 20 (fun _ => 0) :: (g23, .inr (4, [.ref b24, .int 1, .int 1])) :: lA κ b22 20 (fun _ => 0) :: (g21, .inr (4, [.ref b22, .int 1, .int 1])) :: lA κ b20 20 (fun _ => 0) :: (g19, .inr (4, [.ref b20, .int 1, .int 1])) :: (q18, .inr (3, [.ref g19, .ref g21, .ref g23, .ref g25])) :: lA κ b17 20 (fun _ => 0) :: (g16, .inr (4, [.ref b17, .int 1, .int 1])) :: lA κ b15 20 (fun _ => 0) :: (g14, .inr (4, [.ref b15, .int 1, .int 1])) :: lA κ b13 20 (fun _ => 0) :: (g12, .inr (4, [.ref b13, .int 1, .int 1])) :: (q11, .inr (2, [.ref g12, .ref g14, .ref g16, .int 0])) :: lA κ b10 20 (fun _ => 0) :: (g9, .inr (4, [.ref b10, .int 1, .int 1])) :: lA κ b8 20 (fun _ => 0) :: (g7, .inr (4, [.ref b8, .int 1, .int 1])) :: (q6, .inr (5, [.ref g7, .ref g9, .int 0])) :: lA κ b5 20 (fun _ => 0) :: (q4, .inr (4, [.ref b5, .int 1, .int 1])) :: lA κ b3 20 (fun _ => 0) :: (q2, .inr (4, [.ref b3, .int 1, .int 1])) :: (q1, .inl (κ.2.1 1, 4, .inr (.inr (.inr (.inr (va_up (fun _ => none) (Int32.toNatClampNeg 0) (some q29))))))) :: (s_0, .inr (6, [.ref q1, .ref q2, .ref q4, .ref q6, .ref q11, .ref q18, .ref q27, .int 0, .int 0, .int 0])) :: w) q32 ) yk_X3_init rfl wn_1_41 wm_1_42 wm_1_2 wm_1_43 ⟨Nat.le_of_ble_eq_true rfl, Nat.le_of_ble_eq_true rfl⟩ ⟨Nat.le_of_ble_eq_true rfl, Nat.le_of_ble_eq_true rfl⟩ rfl hl.1 rfl (Nat.le_of_ble_eq_true rfl) dX5_init_90 (fun o w' H locs hp hB => ?_)
  obtain ⟨b33, rfl, hw9⟩ := hp
  replace hB : Bd κ A s (lA κ b33 20 (fun _ => 0) :: (q32, .inr (4, [.ref b33, .int 1, .int 1])) :: lA κ b30 20 (fun _ => 0) :: (q29, .inr (4, [.ref b30, .int 1, .int 1])) :: lA κ q27 4 (fun _ => 0) :: lA κ b26 20 (fun _ => 0) :: (g25, .inr (4, [.ref b26, .int 1, .int 1])) :: lA κ b24 20 (fun _ => 0) :: (g23, .inr (4, [.ref b24, .int 1, .int 1])) :: lA κ b22 20 (fun _ => 0) :: (g21, .inr (4, [.ref b22, .int 1, .int 1])) :: lA κ b20 20 (fun _ => 0) :: (g19, .inr (4, [.ref b20, .int 1, .int 1])) :: (q18, .inr (3, [.ref g19, .ref g21, .ref g23, .ref g25])) :: lA κ b17 20 (fun _ => 0) :: (g16, .inr (4, [.ref b17, .int 1, .int 1])) :: lA κ b15 20 (fun _ => 0) :: (g14, .inr (4, [.ref b15, .int 1, .int 1])) :: lA κ b13 20 (fun _ => 0) :: (g12, .inr (4, [.ref b13, .int 1, .int 1])) :: (q11, .inr (2, [.ref g12, .ref g14, .ref g16, .int 0])) :: lA κ b10 20 (fun _ => 0) :: (g9, .inr (4, [.ref b10, .int 1, .int 1])) :: lA κ b8 20 (fun _ => 0) :: (g7, .inr (4, [.ref b8, .int 1, .int 1])) :: (q6, .inr (5, [.ref g7, .ref g9, .int 0])) :: lA κ b5 20 (fun _ => 0) :: (q4, .inr (4, [.ref b5, .int 1, .int 1])) :: lA κ b3 20 (fun _ => 0) :: (q2, .inr (4, [.ref b3, .int 1, .int 1])) :: (q1, .inl (κ.2.1 1, 4, .inr (.inr (.inr (.inr (va_up (fun _ => none) (Int32.toNatClampNeg 0) (some q29))))))) :: (s_0, .inr (6, [.ref q1, .ref q2, .ref q4, .ref q6, .ref q11, .ref q18, .ref q27, .int 0, .int 0, .int 0])) :: w) H locs := by rw [hw9] at hB; exact hB
  refine W.eq (g2 := F0 m 93 ls [.ref q32, .int 1, .ref q1]) rfl ?_
  refine astG (f := va_up (fun _ => none) (Int32.toNatClampNeg 0) (some q29)) (k0 := 30) (k1 := 1) (i := 1) hX hB rfl rfl (vp_in_iff.mpr ⟨by decide, by decide⟩) (w1 := lA κ b33 20 (fun _ => 0) :: (q32, .inr (4, [.ref b33, .int 1, .int 1])) :: lA κ b30 20 (fun _ => 0) :: (q29, .inr (4, [.ref b30, .int 1, .int 1])) :: lA κ q27 4 (fun _ => 0) :: lA κ b26 20 (fun _ => 0) :: (g25, .inr (4, [.ref b26, .int 1, .int 1])) :: lA κ b24 20 (fun _ => 0) :: (g23, .inr (4, [.ref b24, .int 1, .int 1])) :: lA κ b22 20 (fun _ => 0) :: (g21, .inr (4, [.ref b22, .int 1, .int 1])) :: lA κ b20 20 (fun _ => 0) :: (g19, .inr (4, [.ref b20, .int 1, .int 1])) :: (q18, .inr (3, [.ref g19, .ref g21, .ref g23, .ref g25])) :: lA κ b17 20 (fun _ => 0) :: (g16, .inr (4, [.ref b17, .int 1, .int 1])) :: lA κ b15 20 (fun _ => 0) :: (g14, .inr (4, [.ref b15, .int 1, .int 1])) :: lA κ b13 20 (fun _ => 0) :: (g12, .inr (4, [.ref b13, .int 1, .int 1])) :: (q11, .inr (2, [.ref g12, .ref g14, .ref g16, .int 0])) :: lA κ b10 20 (fun _ => 0) :: (g9, .inr (4, [.ref b10, .int 1, .int 1])) :: lA κ b8 20 (fun _ => 0) :: (g7, .inr (4, [.ref b8, .int 1, .int 1])) :: (q6, .inr (5, [.ref g7, .ref g9, .int 0])) :: lA κ b5 20 (fun _ => 0) :: (q4, .inr (4, [.ref b5, .int 1, .int 1])) :: lA κ b3 20 (fun _ => 0) :: (q2, .inr (4, [.ref b3, .int 1, .int 1])) :: (q1, .inl (κ.2.1 1, 4, .inr (.inr (.inr (.inr (va_up (va_up (fun _ => none) (Int32.toNatClampNeg 0) (some q29)) (Int32.toNatClampNeg 1) (some q32))))))) :: (s_0, .inr (6, [.ref q1, .ref q2, .ref q4, .ref q6, .ref q11, .ref q18, .ref q27, .int 0, .int 0, .int 0])) :: w) rfl dX5_init_93 (fun H locs hB => ?_)
  refine lv_iinc (v := 2) (lv' := [(1, .int 2), (0, .ref s_0)]) hx hb dX5_init_94 hl (k := 0) rfl (by decide) (by decide) rfl (fun ls hl => ?_)
  refine lv_goto (tgt := 76) hx hb dX5_init_97 (by decide) ?_
  refine lv_iload_n hx hb dX5_init_76 rfl (lv_at hl 0 rfl) ?_
  refine lv_iconst (v := 4) hx hb dX5_init_77 (by decide) ?_
  refine lv_icmp_ge (tgt := 100) hx hb dX5_init_78 (by decide) (fun c34 => False.elim (by revert c34; decide)) (fun _ => ?_)
  refine lv_aload_n hx hb dX5_init_81 rfl (lv_at hl 1 rfl) ?_
  refine gf (k0 := 31) hX hB rfl rfl in5 0 (by decide) wm_1_137 rfl rfl dX5_init_82 ?_
  refine lv_iload_n hx hb dX5_init_85 rfl (lv_at hl 0 rfl) ?_
  refine newO (fs := [.null, .int 0, .int 0]) hX hB (ci := 4) rfl in3 tyX3_ok wm_1_38 wm_1_40 wm_1_2 df4 (Nat.le_of_ble_eq_true rfl) (Nat.le_of_ble_eq_true rfl) dX5_init_86 (fun q35 H hB => ?_)
  refine lv_dup hx hb dX5_init_89 rfl ?_
  refine call_IN (n := 0) (As := []) (rest := [.ref q35, .int 2, .ref q1]) hX hB (k_X3_init κ l (lA κ b33 20 (fun _ => 0) :: (q32, .inr (4, [.ref b33, .int 1, .int 1])) :: lA κ b30 20 (fun _ => 0) :: (q29, .inr (4, [.ref b30, .int 1, .int 1])) :: lA κ q27 4 (fun _ => 0) :: lA κ b26 20 (fun _ => 0) :: (g25, .inr (4, [.ref b26, .int 1, .int 1])) :: lA κ b24 20 (fun _ => 0) :: (g23, .inr (4, [.ref b24, .int 1, .int 1])) :: lA κ b22 20 (fun _ => 0) :: (g21, .inr (4, [.ref b22, .int 1, .int 1])) :: lA κ b20 20 (fun _ => 0) :: (g19, .inr (4, [.ref b20, .int 1, .int 1])) :: (q18, .inr (3, [.ref g19, .ref g21, .ref g23, .ref g25])) :: lA κ b17 20 (fun _ => 0) :: (g16, .inr (4, [.ref b17, .int 1, .int 1])) :: lA κ b15 20 (fun _ => 0) :: (g14, .inr (4, [.ref b15, .int 1, .int 1])) :: lA κ b13 20 (fun _ => 0) :: (g12, .inr (4, [.ref b13, .int 1, .int 1])) :: (q11, .inr (2, [.ref g12, .ref g14, .ref g16, .int 0])) :: lA κ b10 20 (fun _ => 0) :: (g9, .inr (4, [.ref b10, .int 1, .int 1])) :: lA κ b8 20 (fun _ => 0) :: (g7, .inr (4, [.ref b8, .int 1, .int 1])) :: (q6, .inr (5, [.ref g7, .ref g9, .int 0])) :: lA κ b5 20 (fun _ => 0) :: (q4, .inr (4, [.ref b5, .int 1, .int 1])) :: lA κ b3 20 (fun _ => 0) :: (q2, .inr (4, [.ref b3, .int 1, .int 1])) :: (q1, .inl (κ.2.1 1, 4, .inr (.inr (.inr (.inr (va_up (va_up (fun _ => none) (Int32.toNatClampNeg 0) (some q29)) (Int32.toNatClampNeg 1) (some q32))))))) :: (s_0, .inr (6, [.ref q1, .ref q2, .ref q4, .ref q6, .ref q11, .ref q18, .ref q27, .int 0, .int 0, .int 0])) :: w) q35 ) yk_X3_init rfl wn_1_41 wm_1_42 wm_1_2 wm_1_43 ⟨Nat.le_of_ble_eq_true rfl, Nat.le_of_ble_eq_true rfl⟩ ⟨Nat.le_of_ble_eq_true rfl, Nat.le_of_ble_eq_true rfl⟩ rfl hl.1 rfl (Nat.le_of_ble_eq_true rfl) dX5_init_90 (fun o w' H locs hp hB => ?_)
  obtain ⟨b36, rfl, hw9⟩ := hp
  replace hB : Bd κ A s (lA κ b36 20 (fun _ => 0) :: (q35, .inr (4, [.ref b36, .int 1, .int 1])) :: lA κ b33 20 (fun _ => 0) :: (q32, .inr (4, [.ref b33, .int 1, .int 1])) :: lA κ b30 20 (fun _ => 0) :: (q29, .inr (4, [.ref b30, .int 1, .int 1])) :: lA κ q27 4 (fun _ => 0) :: lA κ b26 20 (fun _ => 0) :: (g25, .inr (4, [.ref b26, .int 1, .int 1])) :: lA κ b24 20 (fun _ => 0) :: (g23, .inr (4, [.ref b24, .int 1, .int 1])) :: lA κ b22 20 (fun _ => 0) :: (g21, .inr (4, [.ref b22, .int 1, .int 1])) :: lA κ b20 20 (fun _ => 0) :: (g19, .inr (4, [.ref b20, .int 1, .int 1])) :: (q18, .inr (3, [.ref g19, .ref g21, .ref g23, .ref g25])) :: lA κ b17 20 (fun _ => 0) :: (g16, .inr (4, [.ref b17, .int 1, .int 1])) :: lA κ b15 20 (fun _ => 0) :: (g14, .inr (4, [.ref b15, .int 1, .int 1])) :: lA κ b13 20 (fun _ => 0) :: (g12, .inr (4, [.ref b13, .int 1, .int 1])) :: (q11, .inr (2, [.ref g12, .ref g14, .ref g16, .int 0])) :: lA κ b10 20 (fun _ => 0) :: (g9, .inr (4, [.ref b10, .int 1, .int 1])) :: lA κ b8 20 (fun _ => 0) :: (g7, .inr (4, [.ref b8, .int 1, .int 1])) :: (q6, .inr (5, [.ref g7, .ref g9, .int 0])) :: lA κ b5 20 (fun _ => 0) :: (q4, .inr (4, [.ref b5, .int 1, .int 1])) :: lA κ b3 20 (fun _ => 0) :: (q2, .inr (4, [.ref b3, .int 1, .int 1])) :: (q1, .inl (κ.2.1 1, 4, .inr (.inr (.inr (.inr (va_up (va_up (fun _ => none) (Int32.toNatClampNeg 0) (some q29)) (Int32.toNatClampNeg 1) (some q32))))))) :: (s_0, .inr (6, [.ref q1, .ref q2, .ref q4, .ref q6, .ref q11, .ref q18, .ref q27, .int 0, .int 0, .int 0])) :: w) H locs := by rw [hw9] at hB; exact hB
  refine W.eq (g2 := F0 m 93 ls [.ref q35, .int 2, .ref q1]) rfl ?_
  refine astG (f := va_up (va_up (fun _ => none) (Int32.toNatClampNeg 0) (some q29)) (Int32.toNatClampNeg 1) (some q32)) (k0 := 32) (k1 := 1) (i := 2) hX hB rfl rfl (vp_in_iff.mpr ⟨by decide, by decide⟩) (w1 := lA κ b36 20 (fun _ => 0) :: (q35, .inr (4, [.ref b36, .int 1, .int 1])) :: lA κ b33 20 (fun _ => 0) :: (q32, .inr (4, [.ref b33, .int 1, .int 1])) :: lA κ b30 20 (fun _ => 0) :: (q29, .inr (4, [.ref b30, .int 1, .int 1])) :: lA κ q27 4 (fun _ => 0) :: lA κ b26 20 (fun _ => 0) :: (g25, .inr (4, [.ref b26, .int 1, .int 1])) :: lA κ b24 20 (fun _ => 0) :: (g23, .inr (4, [.ref b24, .int 1, .int 1])) :: lA κ b22 20 (fun _ => 0) :: (g21, .inr (4, [.ref b22, .int 1, .int 1])) :: lA κ b20 20 (fun _ => 0) :: (g19, .inr (4, [.ref b20, .int 1, .int 1])) :: (q18, .inr (3, [.ref g19, .ref g21, .ref g23, .ref g25])) :: lA κ b17 20 (fun _ => 0) :: (g16, .inr (4, [.ref b17, .int 1, .int 1])) :: lA κ b15 20 (fun _ => 0) :: (g14, .inr (4, [.ref b15, .int 1, .int 1])) :: lA κ b13 20 (fun _ => 0) :: (g12, .inr (4, [.ref b13, .int 1, .int 1])) :: (q11, .inr (2, [.ref g12, .ref g14, .ref g16, .int 0])) :: lA κ b10 20 (fun _ => 0) :: (g9, .inr (4, [.ref b10, .int 1, .int 1])) :: lA κ b8 20 (fun _ => 0) :: (g7, .inr (4, [.ref b8, .int 1, .int 1])) :: (q6, .inr (5, [.ref g7, .ref g9, .int 0])) :: lA κ b5 20 (fun _ => 0) :: (q4, .inr (4, [.ref b5, .int 1, .int 1])) :: lA κ b3 20 (fun _ => 0) :: (q2, .inr (4, [.ref b3, .int 1, .int 1])) :: (q1, .inl (κ.2.1 1, 4, .inr (.inr (.inr (.inr (va_up (va_up (va_up (fun _ => none) (Int32.toNatClampNeg 0) (some q29)) (Int32.toNatClampNeg 1) (some q32)) (Int32.toNatClampNeg 2) (some q35))))))) :: (s_0, .inr (6, [.ref q1, .ref q2, .ref q4, .ref q6, .ref q11, .ref q18, .ref q27, .int 0, .int 0, .int 0])) :: w) rfl dX5_init_93 (fun H locs hB => ?_)
  refine lv_iinc (v := 3) (lv' := [(1, .int 3), (0, .ref s_0)]) hx hb dX5_init_94 hl (k := 0) rfl (by decide) (by decide) rfl (fun ls hl => ?_)
  refine lv_goto (tgt := 76) hx hb dX5_init_97 (by decide) ?_
  refine lv_iload_n hx hb dX5_init_76 rfl (lv_at hl 0 rfl) ?_
  refine lv_iconst (v := 4) hx hb dX5_init_77 (by decide) ?_
  refine lv_icmp_ge (tgt := 100) hx hb dX5_init_78 (by decide) (fun c37 => False.elim (by revert c37; decide)) (fun _ => ?_)
  refine lv_aload_n hx hb dX5_init_81 rfl (lv_at hl 1 rfl) ?_
  refine gf (k0 := 33) hX hB rfl rfl in5 0 (by decide) wm_1_137 rfl rfl dX5_init_82 ?_
  refine lv_iload_n hx hb dX5_init_85 rfl (lv_at hl 0 rfl) ?_
  refine newO (fs := [.null, .int 0, .int 0]) hX hB (ci := 4) rfl in3 tyX3_ok wm_1_38 wm_1_40 wm_1_2 df4 (Nat.le_of_ble_eq_true rfl) (Nat.le_of_ble_eq_true rfl) dX5_init_86 (fun q38 H hB => ?_)
  refine lv_dup hx hb dX5_init_89 rfl ?_
  refine call_IN (n := 0) (As := []) (rest := [.ref q38, .int 3, .ref q1]) hX hB (k_X3_init κ l (lA κ b36 20 (fun _ => 0) :: (q35, .inr (4, [.ref b36, .int 1, .int 1])) :: lA κ b33 20 (fun _ => 0) :: (q32, .inr (4, [.ref b33, .int 1, .int 1])) :: lA κ b30 20 (fun _ => 0) :: (q29, .inr (4, [.ref b30, .int 1, .int 1])) :: lA κ q27 4 (fun _ => 0) :: lA κ b26 20 (fun _ => 0) :: (g25, .inr (4, [.ref b26, .int 1, .int 1])) :: lA κ b24 20 (fun _ => 0) :: (g23, .inr (4, [.ref b24, .int 1, .int 1])) :: lA κ b22 20 (fun _ => 0) :: (g21, .inr (4, [.ref b22, .int 1, .int 1])) :: lA κ b20 20 (fun _ => 0) :: (g19, .inr (4, [.ref b20, .int 1, .int 1])) :: (q18, .inr (3, [.ref g19, .ref g21, .ref g23, .ref g25])) :: lA κ b17 20 (fun _ => 0) :: (g16, .inr (4, [.ref b17, .int 1, .int 1])) :: lA κ b15 20 (fun _ => 0) :: (g14, .inr (4, [.ref b15, .int 1, .int 1])) :: lA κ b13 20 (fun _ => 0) :: (g12, .inr (4, [.ref b13, .int 1, .int 1])) :: (q11, .inr (2, [.ref g12, .ref g14, .ref g16, .int 0])) :: lA κ b10 20 (fun _ => 0) :: (g9, .inr (4, [.ref b10, .int 1, .int 1])) :: lA κ b8 20 (fun _ => 0) :: (g7, .inr (4, [.ref b8, .int 1, .int 1])) :: (q6, .inr (5, [.ref g7, .ref g9, .int 0])) :: lA κ b5 20 (fun _ => 0) :: (q4, .inr (4, [.ref b5, .int 1, .int 1])) :: lA κ b3 20 (fun _ => 0) :: (q2, .inr (4, [.ref b3, .int 1, .int 1])) :: (q1, .inl (κ.2.1 1, 4, .inr (.inr (.inr (.inr (va_up (va_up (va_up (fun _ => none) (Int32.toNatClampNeg 0) (some q29)) (Int32.toNatClampNeg 1) (some q32)) (Int32.toNatClampNeg 2) (some q35))))))) :: (s_0, .inr (6, [.ref q1, .ref q2, .ref q4, .ref q6, .ref q11, .ref q18, .ref q27, .int 0, .int 0, .int 0])) :: w) q38 ) yk_X3_init rfl wn_1_41 wm_1_42 wm_1_2 wm_1_43 ⟨Nat.le_of_ble_eq_true rfl, Nat.le_of_ble_eq_true rfl⟩ ⟨Nat.le_of_ble_eq_true rfl, Nat.le_of_ble_eq_true rfl⟩ rfl hl.1 rfl (Nat.le_of_ble_eq_true rfl) dX5_init_90 (fun o w' H locs hp hB => ?_)
  obtain ⟨b39, rfl, hw9⟩ := hp
  replace hB : Bd κ A s (lA κ b39 20 (fun _ => 0) :: (q38, .inr (4, [.ref b39, .int 1, .int 1])) :: lA κ b36 20 (fun _ => 0) :: (q35, .inr (4, [.ref b36, .int 1, .int 1])) :: lA κ b33 20 (fun _ => 0) :: (q32, .inr (4, [.ref b33, .int 1, .int 1])) :: lA κ b30 20 (fun _ => 0) :: (q29, .inr (4, [.ref b30, .int 1, .int 1])) :: lA κ q27 4 (fun _ => 0) :: lA κ b26 20 (fun _ => 0) :: (g25, .inr (4, [.ref b26, .int 1, .int 1])) :: lA κ b24 20 (fun _ => 0) :: (g23, .inr (4, [.ref b24, .int 1, .int 1])) :: lA κ b22 20 (fun _ => 0) :: (g21, .inr (4, [.ref b22, .int 1, .int 1])) :: lA κ b20 20 (fun _ => 0) :: (g19, .inr (4, [.ref b20, .int 1, .int 1])) :: (q18, .inr (3, [.ref g19, .ref g21, .ref g23, .ref g25])) :: lA κ b17 20 (fun _ => 0) :: (g16, .inr (4, [.ref b17, .int 1, .int 1])) :: lA κ b15 20 (fun _ => 0) :: (g14, .inr (4, [.ref b15, .int 1, .int 1])) :: lA κ b13 20 (fun _ => 0) :: (g12, .inr (4, [.ref b13, .int 1, .int 1])) :: (q11, .inr (2, [.ref g12, .ref g14, .ref g16, .int 0])) :: lA κ b10 20 (fun _ => 0) :: (g9, .inr (4, [.ref b10, .int 1, .int 1])) :: lA κ b8 20 (fun _ => 0) :: (g7, .inr (4, [.ref b8, .int 1, .int 1])) :: (q6, .inr (5, [.ref g7, .ref g9, .int 0])) :: lA κ b5 20 (fun _ => 0) :: (q4, .inr (4, [.ref b5, .int 1, .int 1])) :: lA κ b3 20 (fun _ => 0) :: (q2, .inr (4, [.ref b3, .int 1, .int 1])) :: (q1, .inl (κ.2.1 1, 4, .inr (.inr (.inr (.inr (va_up (va_up (va_up (fun _ => none) (Int32.toNatClampNeg 0) (some q29)) (Int32.toNatClampNeg 1) (some q32)) (Int32.toNatClampNeg 2) (some q35))))))) :: (s_0, .inr (6, [.ref q1, .ref q2, .ref q4, .ref q6, .ref q11, .ref q18, .ref q27, .int 0, .int 0, .int 0])) :: w) H locs := by rw [hw9] at hB; exact hB
  refine W.eq (g2 := F0 m 93 ls [.ref q38, .int 3, .ref q1]) rfl ?_
  refine astG (f := va_up (va_up (va_up (fun _ => none) (Int32.toNatClampNeg 0) (some q29)) (Int32.toNatClampNeg 1) (some q32)) (Int32.toNatClampNeg 2) (some q35)) (k0 := 34) (k1 := 1) (i := 3) hX hB rfl rfl (vp_in_iff.mpr ⟨by decide, by decide⟩) (w1 := lA κ b39 20 (fun _ => 0) :: (q38, .inr (4, [.ref b39, .int 1, .int 1])) :: lA κ b36 20 (fun _ => 0) :: (q35, .inr (4, [.ref b36, .int 1, .int 1])) :: lA κ b33 20 (fun _ => 0) :: (q32, .inr (4, [.ref b33, .int 1, .int 1])) :: lA κ b30 20 (fun _ => 0) :: (q29, .inr (4, [.ref b30, .int 1, .int 1])) :: lA κ q27 4 (fun _ => 0) :: lA κ b26 20 (fun _ => 0) :: (g25, .inr (4, [.ref b26, .int 1, .int 1])) :: lA κ b24 20 (fun _ => 0) :: (g23, .inr (4, [.ref b24, .int 1, .int 1])) :: lA κ b22 20 (fun _ => 0) :: (g21, .inr (4, [.ref b22, .int 1, .int 1])) :: lA κ b20 20 (fun _ => 0) :: (g19, .inr (4, [.ref b20, .int 1, .int 1])) :: (q18, .inr (3, [.ref g19, .ref g21, .ref g23, .ref g25])) :: lA κ b17 20 (fun _ => 0) :: (g16, .inr (4, [.ref b17, .int 1, .int 1])) :: lA κ b15 20 (fun _ => 0) :: (g14, .inr (4, [.ref b15, .int 1, .int 1])) :: lA κ b13 20 (fun _ => 0) :: (g12, .inr (4, [.ref b13, .int 1, .int 1])) :: (q11, .inr (2, [.ref g12, .ref g14, .ref g16, .int 0])) :: lA κ b10 20 (fun _ => 0) :: (g9, .inr (4, [.ref b10, .int 1, .int 1])) :: lA κ b8 20 (fun _ => 0) :: (g7, .inr (4, [.ref b8, .int 1, .int 1])) :: (q6, .inr (5, [.ref g7, .ref g9, .int 0])) :: lA κ b5 20 (fun _ => 0) :: (q4, .inr (4, [.ref b5, .int 1, .int 1])) :: lA κ b3 20 (fun _ => 0) :: (q2, .inr (4, [.ref b3, .int 1, .int 1])) :: (q1, .inl (κ.2.1 1, 4, .inr (.inr (.inr (.inr (va_up (va_up (va_up (va_up (fun _ => none) (Int32.toNatClampNeg 0) (some q29)) (Int32.toNatClampNeg 1) (some q32)) (Int32.toNatClampNeg 2) (some q35)) (Int32.toNatClampNeg 3) (some q38))))))) :: (s_0, .inr (6, [.ref q1, .ref q2, .ref q4, .ref q6, .ref q11, .ref q18, .ref q27, .int 0, .int 0, .int 0])) :: w) rfl dX5_init_93 (fun H locs hB => ?_)
  refine lv_iinc (v := 4) (lv' := [(1, .int 4), (0, .ref s_0)]) hx hb dX5_init_94 hl (k := 0) rfl (by decide) (by decide) rfl (fun ls hl => ?_)
  refine lv_goto (tgt := 76) hx hb dX5_init_97 (by decide) ?_
  refine lv_iload_n hx hb dX5_init_76 rfl (lv_at hl 0 rfl) ?_
  refine lv_iconst (v := 4) hx hb dX5_init_77 (by decide) ?_
  refine lv_icmp_ge (tgt := 100) hx hb dX5_init_78 (by decide) (fun _ => ?_) (fun c40 => False.elim (by revert c40; decide))
  replace hB := Bd_arr (k0 := 34) (g := fun j => some ((va_ls [s_0, q1, q6, q11, q18, q27, q29, b30, q32, b33, q35, b36, q38, b39, q2, b3, q4, b5, g7, b8, g9, b10, g12, b13, g14, b15, g16, b17, g19, b20, g21, b22, g23, b24, g25, b26]) (6 + 2 * j))) rfl (fun j hj => by match j, hj with | 0, _ => rfl | 1, _ => rfl | 2, _ => rfl | 3, _ => rfl) hB
  replace hB : Bd κ A s (cw κ (va_ls [s_0, q1, q6, q11, q18, q27, q29, b30, q32, b33, q35, b36, q38, b39, q2, b3, q4, b5, g7, b8, g9, b10, g12, b13, g14, b15, g16, b17, g19, b20, g21, b22, g23, b24, g25, b26]) (fun _ => 1) (fun _ => 0) (fun _ _ => 0) ++ w) H locs := Bd_perm (u := [lA κ b39 20 (fun _ => 0), (q38, .inr (4, [.ref b39, .int 1, .int 1])), lA κ b36 20 (fun _ => 0), (q35, .inr (4, [.ref b36, .int 1, .int 1])), lA κ b33 20 (fun _ => 0), (q32, .inr (4, [.ref b33, .int 1, .int 1])), lA κ b30 20 (fun _ => 0), (q29, .inr (4, [.ref b30, .int 1, .int 1])), lA κ q27 4 (fun _ => 0), lA κ b26 20 (fun _ => 0), (g25, .inr (4, [.ref b26, .int 1, .int 1])), lA κ b24 20 (fun _ => 0), (g23, .inr (4, [.ref b24, .int 1, .int 1])), lA κ b22 20 (fun _ => 0), (g21, .inr (4, [.ref b22, .int 1, .int 1])), lA κ b20 20 (fun _ => 0), (g19, .inr (4, [.ref b20, .int 1, .int 1])), (q18, .inr (3, [.ref g19, .ref g21, .ref g23, .ref g25])), lA κ b17 20 (fun _ => 0), (g16, .inr (4, [.ref b17, .int 1, .int 1])), lA κ b15 20 (fun _ => 0), (g14, .inr (4, [.ref b15, .int 1, .int 1])), lA κ b13 20 (fun _ => 0), (g12, .inr (4, [.ref b13, .int 1, .int 1])), (q11, .inr (2, [.ref g12, .ref g14, .ref g16, .int 0])), lA κ b10 20 (fun _ => 0), (g9, .inr (4, [.ref b10, .int 1, .int 1])), lA κ b8 20 (fun _ => 0), (g7, .inr (4, [.ref b8, .int 1, .int 1])), (q6, .inr (5, [.ref g7, .ref g9, .int 0])), lA κ b5 20 (fun _ => 0), (q4, .inr (4, [.ref b5, .int 1, .int 1])), lA κ b3 20 (fun _ => 0), (q2, .inr (4, [.ref b3, .int 1, .int 1])), (q1, .inl (κ.2.1 1, 4, .inr (.inr (.inr (.inr (fun j => some ((va_ls [s_0, q1, q6, q11, q18, q27, q29, b30, q32, b33, q35, b36, q38, b39, q2, b3, q4, b5, g7, b8, g9, b10, g12, b13, g14, b15, g16, b17, g19, b20, g21, b22, g23, b24, g25, b26]) (6 + 2 * j)))))))), (s_0, .inr (6, [.ref q1, .ref q2, .ref q4, .ref q6, .ref q11, .ref q18, .ref q27, .int 0, .int 0, .int 0]))]) (P := [35, 34, 29, 24, 17, 8, 7, 6, 5, 4, 3, 2, 1, 0, 33, 32, 31, 30, 28, 27, 26, 25, 23, 22, 21, 20, 19, 18, 16, 15, 14, 13, 12, 11, 10, 9]) (d := (0, .inr (0, []))) (w := w) rfl rfl (by decide) (by decide) hB
  rw [← hQ]
  exact end_v hX hB hA3 rfl ⟨va_ls [s_0, q1, q6, q11, q18, q27, q29, b30, q32, b33, q35, b36, q38, b39, q2, b3, q4, b5, g7, b8, g9, b10, g12, b13, g14, b15, g16, b17, g19, b20, g21, b22, g23, b24, g25, b26], rfl, rfl, rfl⟩ (Nat.le_of_ble_eq_true rfl) (Nat.le_of_ble_eq_true rfl) dX5_init_100
set_option maxHeartbeats 4000000 in
set_option maxRecDepth 100000 in
theorem k_X10_init (κ : Kt) (l : Launch) (w : va_W) (s_0 : Nat)  : CM κ l yX10_init cX10_init 2 (none) 2 42 9 96 [.ref s_0] ((s_0, .inr (11, [.null, .int 0, .int 0, .int 0, .int 0])) :: w) (fun o w' => ∃ a : Nat → Nat, o = none ∧ a 0 = s_0 ∧ w' = mw κ a (fun _ => 1) (fun _ _ => 0) (fun _ => 0) (tb a) w) := by
  refine CM_begin (plainFor_of_name pn_RX10) (Nat.le_of_ble_eq_true rfl) ?_
  intro p e s m args below meth c A Q hX hnm hA3 hQ hB ls hl
  have hx := hX.1.1
  have hb := hX.1.2.1
  have hl : lv_has ls 2 [(0, .ref s_0)] := hl
  refine lv_aload_n hx hb dX10_init_0 rfl (lv_at hl 0 rfl) ?_
  refine W.objInit hx hb hX.1.2.2.2.1 (hX.1.2.2.2.2 _ wm_5_137) (hX.1.2.2.2.2 _ wm_1_36) (hX.1.2.2.2.2 _ wm_1_37) rfl (by rw [hX.1.2.2.1]; exact hl.1) rfl dX10_init_1 (Nat.le_of_ble_eq_true rfl) (Nat.le_of_ble_eq_true rfl) ?_
  refine W.eq (g2 := F0 m 4 ls []) rfl ?_
  refine lv_aload_n hx hb dX10_init_4 rfl (lv_at hl 0 rfl) ?_
  refine lv_iconst (v := 4) hx hb dX10_init_5 (by decide) ?_
  refine newR (t0 := 2) (N := 4) hX hB rfl wm_5_138 hX.2.1.2.2.1.2.2.2.2.1 (by decide) (by decide) (Nat.le_of_ble_eq_true rfl) (Nat.le_of_ble_eq_true rfl) (Nat.le_of_ble_eq_true rfl) dX10_init_6 (fun q1 H hB => ?_)
  refine pfF (ty := .array (.object "GridmenderModel$Grid")) (k0 := 1) hX hnm hB rfl rfl in10 tyX10_ok nmX10 0 (by decide) wm_5_162 rfl rfl rfl rfl rfl rfl (Nat.le_of_ble_eq_true rfl) (w1 := (q1, .inl (κ.2.1 2, 4, .inr (.inr (.inr (.inr (fun _ => none)))))) :: (s_0, .inr (11, [.ref q1, .int 0, .int 0, .int 0, .int 0])) :: w) rfl dX10_init_9 (fun H locs hB => ?_)
  refine lv_iconst (v := 0) hx hb dX10_init_12 (by decide) ?_
  refine lv_istore_n (lv' := [(1, .int 0), (0, .ref s_0)]) hx hb dX10_init_13 rfl hl (by decide) rfl (fun ls hl => ?_)
  refine lv_iload_n hx hb dX10_init_14 rfl (lv_at hl 0 rfl) ?_
  refine lv_iconst (v := 4) hx hb dX10_init_15 (by decide) ?_
  refine lv_icmp_ge (tgt := 40) hx hb dX10_init_16 (by decide) (fun c2 => False.elim (by revert c2; decide)) (fun _ => ?_)
  refine lv_aload_n hx hb dX10_init_19 rfl (lv_at hl 1 rfl) ?_
  refine gf (k0 := 1) hX hB rfl rfl in10 0 (by decide) wm_5_162 rfl rfl dX10_init_20 ?_
  refine lv_iload_n hx hb dX10_init_23 rfl (lv_at hl 0 rfl) ?_
  refine newO (fs := [.int 0, .int 0, .null]) hX hB (ci := 8) rfl in7 tyX7_ok wm_5_138 wm_5_140 wm_1_7 df8 (Nat.le_of_ble_eq_true rfl) (Nat.le_of_ble_eq_true rfl) dX10_init_24 (fun q3 H hB => ?_)
  refine lv_dup hx hb dX10_init_27 rfl ?_
  refine lv_iconst (v := 1) hx hb dX10_init_28 (by decide) ?_
  refine lv_iconst (v := 1) hx hb dX10_init_29 (by decide) ?_
  refine call_I (n := 2) (As := [.int 1, .int 1]) (rest := [.ref q3, .int 0, .ref q1]) hX hB (k_X7_init κ l ((q1, .inl (κ.2.1 2, 4, .inr (.inr (.inr (.inr (fun _ => none)))))) :: (s_0, .inr (11, [.ref q1, .int 0, .int 0, .int 0, .int 0])) :: w) q3 1 1 1 1 rfl rfl (by omega)) yk_X7_init rfl wm_5_141 wm_5_142 wm_1_7 wm_5_143 ⟨Nat.le_of_ble_eq_true rfl, Nat.le_of_ble_eq_true rfl⟩ ⟨Nat.le_of_ble_eq_true rfl, Nat.le_of_ble_eq_true rfl⟩ rfl hl.1 rfl (Nat.le_of_ble_eq_true rfl) dX10_init_30 (fun o w' H locs hp hB => ?_)
  obtain ⟨b4, rfl, hw9⟩ := hp
  replace hB : Bd κ A s (lA κ b4 (1 * 5) (fun _ => 0) :: gO q3 1 1 b4 :: (q1, .inl (κ.2.1 2, 4, .inr (.inr (.inr (.inr (fun _ => none)))))) :: (s_0, .inr (11, [.ref q1, .int 0, .int 0, .int 0, .int 0])) :: w) H locs := by rw [hw9] at hB; exact hB
  refine W.eq (g2 := F0 m 33 ls [.ref q3, .int 0, .ref q1]) rfl ?_
  refine astM (f := fun _ => none) (k0 := 2) (k1 := 1) (i := 0) hX hB rfl rfl (vp_in_iff.mpr ⟨by decide, by decide⟩) (w1 := lA κ b4 (1 * 5) (fun _ => 0) :: gO q3 1 1 b4 :: (q1, .inl (κ.2.1 2, 4, .inr (.inr (.inr (.inr (va_up (fun _ => none) (Int32.toNatClampNeg 0) (some q3))))))) :: (s_0, .inr (11, [.ref q1, .int 0, .int 0, .int 0, .int 0])) :: w) rfl dX10_init_33 (fun H locs hB => ?_)
  refine lv_iinc (v := 1) (lv' := [(1, .int 1), (0, .ref s_0)]) hx hb dX10_init_34 hl (k := 0) rfl (by decide) (by decide) rfl (fun ls hl => ?_)
  refine lv_goto (tgt := 14) hx hb dX10_init_37 (by decide) ?_
  refine lv_iload_n hx hb dX10_init_14 rfl (lv_at hl 0 rfl) ?_
  refine lv_iconst (v := 4) hx hb dX10_init_15 (by decide) ?_
  refine lv_icmp_ge (tgt := 40) hx hb dX10_init_16 (by decide) (fun c5 => False.elim (by revert c5; decide)) (fun _ => ?_)
  refine lv_aload_n hx hb dX10_init_19 rfl (lv_at hl 1 rfl) ?_
  refine gf (k0 := 3) hX hB rfl rfl in10 0 (by decide) wm_5_162 rfl rfl dX10_init_20 ?_
  refine lv_iload_n hx hb dX10_init_23 rfl (lv_at hl 0 rfl) ?_
  refine newO (fs := [.int 0, .int 0, .null]) hX hB (ci := 8) rfl in7 tyX7_ok wm_5_138 wm_5_140 wm_1_7 df8 (Nat.le_of_ble_eq_true rfl) (Nat.le_of_ble_eq_true rfl) dX10_init_24 (fun q6 H hB => ?_)
  refine lv_dup hx hb dX10_init_27 rfl ?_
  refine lv_iconst (v := 1) hx hb dX10_init_28 (by decide) ?_
  refine lv_iconst (v := 1) hx hb dX10_init_29 (by decide) ?_
  refine call_I (n := 2) (As := [.int 1, .int 1]) (rest := [.ref q6, .int 1, .ref q1]) hX hB (k_X7_init κ l (lA κ b4 (1 * 5) (fun _ => 0) :: gO q3 1 1 b4 :: (q1, .inl (κ.2.1 2, 4, .inr (.inr (.inr (.inr (va_up (fun _ => none) (Int32.toNatClampNeg 0) (some q3))))))) :: (s_0, .inr (11, [.ref q1, .int 0, .int 0, .int 0, .int 0])) :: w) q6 1 1 1 1 rfl rfl (by omega)) yk_X7_init rfl wm_5_141 wm_5_142 wm_1_7 wm_5_143 ⟨Nat.le_of_ble_eq_true rfl, Nat.le_of_ble_eq_true rfl⟩ ⟨Nat.le_of_ble_eq_true rfl, Nat.le_of_ble_eq_true rfl⟩ rfl hl.1 rfl (Nat.le_of_ble_eq_true rfl) dX10_init_30 (fun o w' H locs hp hB => ?_)
  obtain ⟨b7, rfl, hw9⟩ := hp
  replace hB : Bd κ A s (lA κ b7 (1 * 5) (fun _ => 0) :: gO q6 1 1 b7 :: lA κ b4 (1 * 5) (fun _ => 0) :: gO q3 1 1 b4 :: (q1, .inl (κ.2.1 2, 4, .inr (.inr (.inr (.inr (va_up (fun _ => none) (Int32.toNatClampNeg 0) (some q3))))))) :: (s_0, .inr (11, [.ref q1, .int 0, .int 0, .int 0, .int 0])) :: w) H locs := by rw [hw9] at hB; exact hB
  refine W.eq (g2 := F0 m 33 ls [.ref q6, .int 1, .ref q1]) rfl ?_
  refine astM (f := va_up (fun _ => none) (Int32.toNatClampNeg 0) (some q3)) (k0 := 4) (k1 := 1) (i := 1) hX hB rfl rfl (vp_in_iff.mpr ⟨by decide, by decide⟩) (w1 := lA κ b7 (1 * 5) (fun _ => 0) :: gO q6 1 1 b7 :: lA κ b4 (1 * 5) (fun _ => 0) :: gO q3 1 1 b4 :: (q1, .inl (κ.2.1 2, 4, .inr (.inr (.inr (.inr (va_up (va_up (fun _ => none) (Int32.toNatClampNeg 0) (some q3)) (Int32.toNatClampNeg 1) (some q6))))))) :: (s_0, .inr (11, [.ref q1, .int 0, .int 0, .int 0, .int 0])) :: w) rfl dX10_init_33 (fun H locs hB => ?_)
  refine lv_iinc (v := 2) (lv' := [(1, .int 2), (0, .ref s_0)]) hx hb dX10_init_34 hl (k := 0) rfl (by decide) (by decide) rfl (fun ls hl => ?_)
  refine lv_goto (tgt := 14) hx hb dX10_init_37 (by decide) ?_
  refine lv_iload_n hx hb dX10_init_14 rfl (lv_at hl 0 rfl) ?_
  refine lv_iconst (v := 4) hx hb dX10_init_15 (by decide) ?_
  refine lv_icmp_ge (tgt := 40) hx hb dX10_init_16 (by decide) (fun c8 => False.elim (by revert c8; decide)) (fun _ => ?_)
  refine lv_aload_n hx hb dX10_init_19 rfl (lv_at hl 1 rfl) ?_
  refine gf (k0 := 5) hX hB rfl rfl in10 0 (by decide) wm_5_162 rfl rfl dX10_init_20 ?_
  refine lv_iload_n hx hb dX10_init_23 rfl (lv_at hl 0 rfl) ?_
  refine newO (fs := [.int 0, .int 0, .null]) hX hB (ci := 8) rfl in7 tyX7_ok wm_5_138 wm_5_140 wm_1_7 df8 (Nat.le_of_ble_eq_true rfl) (Nat.le_of_ble_eq_true rfl) dX10_init_24 (fun q9 H hB => ?_)
  refine lv_dup hx hb dX10_init_27 rfl ?_
  refine lv_iconst (v := 1) hx hb dX10_init_28 (by decide) ?_
  refine lv_iconst (v := 1) hx hb dX10_init_29 (by decide) ?_
  refine call_I (n := 2) (As := [.int 1, .int 1]) (rest := [.ref q9, .int 2, .ref q1]) hX hB (k_X7_init κ l (lA κ b7 (1 * 5) (fun _ => 0) :: gO q6 1 1 b7 :: lA κ b4 (1 * 5) (fun _ => 0) :: gO q3 1 1 b4 :: (q1, .inl (κ.2.1 2, 4, .inr (.inr (.inr (.inr (va_up (va_up (fun _ => none) (Int32.toNatClampNeg 0) (some q3)) (Int32.toNatClampNeg 1) (some q6))))))) :: (s_0, .inr (11, [.ref q1, .int 0, .int 0, .int 0, .int 0])) :: w) q9 1 1 1 1 rfl rfl (by omega)) yk_X7_init rfl wm_5_141 wm_5_142 wm_1_7 wm_5_143 ⟨Nat.le_of_ble_eq_true rfl, Nat.le_of_ble_eq_true rfl⟩ ⟨Nat.le_of_ble_eq_true rfl, Nat.le_of_ble_eq_true rfl⟩ rfl hl.1 rfl (Nat.le_of_ble_eq_true rfl) dX10_init_30 (fun o w' H locs hp hB => ?_)
  obtain ⟨b10, rfl, hw9⟩ := hp
  replace hB : Bd κ A s (lA κ b10 (1 * 5) (fun _ => 0) :: gO q9 1 1 b10 :: lA κ b7 (1 * 5) (fun _ => 0) :: gO q6 1 1 b7 :: lA κ b4 (1 * 5) (fun _ => 0) :: gO q3 1 1 b4 :: (q1, .inl (κ.2.1 2, 4, .inr (.inr (.inr (.inr (va_up (va_up (fun _ => none) (Int32.toNatClampNeg 0) (some q3)) (Int32.toNatClampNeg 1) (some q6))))))) :: (s_0, .inr (11, [.ref q1, .int 0, .int 0, .int 0, .int 0])) :: w) H locs := by rw [hw9] at hB; exact hB
  refine W.eq (g2 := F0 m 33 ls [.ref q9, .int 2, .ref q1]) rfl ?_
  refine astM (f := va_up (va_up (fun _ => none) (Int32.toNatClampNeg 0) (some q3)) (Int32.toNatClampNeg 1) (some q6)) (k0 := 6) (k1 := 1) (i := 2) hX hB rfl rfl (vp_in_iff.mpr ⟨by decide, by decide⟩) (w1 := lA κ b10 (1 * 5) (fun _ => 0) :: gO q9 1 1 b10 :: lA κ b7 (1 * 5) (fun _ => 0) :: gO q6 1 1 b7 :: lA κ b4 (1 * 5) (fun _ => 0) :: gO q3 1 1 b4 :: (q1, .inl (κ.2.1 2, 4, .inr (.inr (.inr (.inr (va_up (va_up (va_up (fun _ => none) (Int32.toNatClampNeg 0) (some q3)) (Int32.toNatClampNeg 1) (some q6)) (Int32.toNatClampNeg 2) (some q9))))))) :: (s_0, .inr (11, [.ref q1, .int 0, .int 0, .int 0, .int 0])) :: w) rfl dX10_init_33 (fun H locs hB => ?_)
  refine lv_iinc (v := 3) (lv' := [(1, .int 3), (0, .ref s_0)]) hx hb dX10_init_34 hl (k := 0) rfl (by decide) (by decide) rfl (fun ls hl => ?_)
  refine lv_goto (tgt := 14) hx hb dX10_init_37 (by decide) ?_
  refine lv_iload_n hx hb dX10_init_14 rfl (lv_at hl 0 rfl) ?_
  refine lv_iconst (v := 4) hx hb dX10_init_15 (by decide) ?_
  refine lv_icmp_ge (tgt := 40) hx hb dX10_init_16 (by decide) (fun c11 => False.elim (by revert c11; decide)) (fun _ => ?_)
  refine lv_aload_n hx hb dX10_init_19 rfl (lv_at hl 1 rfl) ?_
  refine gf (k0 := 7) hX hB rfl rfl in10 0 (by decide) wm_5_162 rfl rfl dX10_init_20 ?_
  refine lv_iload_n hx hb dX10_init_23 rfl (lv_at hl 0 rfl) ?_
  refine newO (fs := [.int 0, .int 0, .null]) hX hB (ci := 8) rfl in7 tyX7_ok wm_5_138 wm_5_140 wm_1_7 df8 (Nat.le_of_ble_eq_true rfl) (Nat.le_of_ble_eq_true rfl) dX10_init_24 (fun q12 H hB => ?_)
  refine lv_dup hx hb dX10_init_27 rfl ?_
  refine lv_iconst (v := 1) hx hb dX10_init_28 (by decide) ?_
  refine lv_iconst (v := 1) hx hb dX10_init_29 (by decide) ?_
  refine call_I (n := 2) (As := [.int 1, .int 1]) (rest := [.ref q12, .int 3, .ref q1]) hX hB (k_X7_init κ l (lA κ b10 (1 * 5) (fun _ => 0) :: gO q9 1 1 b10 :: lA κ b7 (1 * 5) (fun _ => 0) :: gO q6 1 1 b7 :: lA κ b4 (1 * 5) (fun _ => 0) :: gO q3 1 1 b4 :: (q1, .inl (κ.2.1 2, 4, .inr (.inr (.inr (.inr (va_up (va_up (va_up (fun _ => none) (Int32.toNatClampNeg 0) (some q3)) (Int32.toNatClampNeg 1) (some q6)) (Int32.toNatClampNeg 2) (some q9))))))) :: (s_0, .inr (11, [.ref q1, .int 0, .int 0, .int 0, .int 0])) :: w) q12 1 1 1 1 rfl rfl (by omega)) yk_X7_init rfl wm_5_141 wm_5_142 wm_1_7 wm_5_143 ⟨Nat.le_of_ble_eq_true rfl, Nat.le_of_ble_eq_true rfl⟩ ⟨Nat.le_of_ble_eq_true rfl, Nat.le_of_ble_eq_true rfl⟩ rfl hl.1 rfl (Nat.le_of_ble_eq_true rfl) dX10_init_30 (fun o w' H locs hp hB => ?_)
  obtain ⟨b13, rfl, hw9⟩ := hp
  replace hB : Bd κ A s (lA κ b13 (1 * 5) (fun _ => 0) :: gO q12 1 1 b13 :: lA κ b10 (1 * 5) (fun _ => 0) :: gO q9 1 1 b10 :: lA κ b7 (1 * 5) (fun _ => 0) :: gO q6 1 1 b7 :: lA κ b4 (1 * 5) (fun _ => 0) :: gO q3 1 1 b4 :: (q1, .inl (κ.2.1 2, 4, .inr (.inr (.inr (.inr (va_up (va_up (va_up (fun _ => none) (Int32.toNatClampNeg 0) (some q3)) (Int32.toNatClampNeg 1) (some q6)) (Int32.toNatClampNeg 2) (some q9))))))) :: (s_0, .inr (11, [.ref q1, .int 0, .int 0, .int 0, .int 0])) :: w) H locs := by rw [hw9] at hB; exact hB
  refine W.eq (g2 := F0 m 33 ls [.ref q12, .int 3, .ref q1]) rfl ?_
  refine astM (f := va_up (va_up (va_up (fun _ => none) (Int32.toNatClampNeg 0) (some q3)) (Int32.toNatClampNeg 1) (some q6)) (Int32.toNatClampNeg 2) (some q9)) (k0 := 8) (k1 := 1) (i := 3) hX hB rfl rfl (vp_in_iff.mpr ⟨by decide, by decide⟩) (w1 := lA κ b13 (1 * 5) (fun _ => 0) :: gO q12 1 1 b13 :: lA κ b10 (1 * 5) (fun _ => 0) :: gO q9 1 1 b10 :: lA κ b7 (1 * 5) (fun _ => 0) :: gO q6 1 1 b7 :: lA κ b4 (1 * 5) (fun _ => 0) :: gO q3 1 1 b4 :: (q1, .inl (κ.2.1 2, 4, .inr (.inr (.inr (.inr (va_up (va_up (va_up (va_up (fun _ => none) (Int32.toNatClampNeg 0) (some q3)) (Int32.toNatClampNeg 1) (some q6)) (Int32.toNatClampNeg 2) (some q9)) (Int32.toNatClampNeg 3) (some q12))))))) :: (s_0, .inr (11, [.ref q1, .int 0, .int 0, .int 0, .int 0])) :: w) rfl dX10_init_33 (fun H locs hB => ?_)
  refine lv_iinc (v := 4) (lv' := [(1, .int 4), (0, .ref s_0)]) hx hb dX10_init_34 hl (k := 0) rfl (by decide) (by decide) rfl (fun ls hl => ?_)
  refine lv_goto (tgt := 14) hx hb dX10_init_37 (by decide) ?_
  refine lv_iload_n hx hb dX10_init_14 rfl (lv_at hl 0 rfl) ?_
  refine lv_iconst (v := 4) hx hb dX10_init_15 (by decide) ?_
  refine lv_icmp_ge (tgt := 40) hx hb dX10_init_16 (by decide) (fun _ => ?_) (fun c14 => False.elim (by revert c14; decide))
  replace hB := Bd_arr (k0 := 8) (g := tb (va_ls [s_0, q1, q3, b4, q6, b7, q9, b10, q12, b13])) rfl (fun j hj => by match j, hj with | 0, _ => rfl | 1, _ => rfl | 2, _ => rfl | 3, _ => rfl) hB
  replace hB : Bd κ A s (mw κ (va_ls [s_0, q1, q3, b4, q6, b7, q9, b10, q12, b13]) (fun _ => 1) (fun _ _ => 0) (fun _ => 0) (tb (va_ls [s_0, q1, q3, b4, q6, b7, q9, b10, q12, b13])) w) H locs := Bd_perm (u := [lA κ b13 (1 * 5) (fun _ => 0), gO q12 1 1 b13, lA κ b10 (1 * 5) (fun _ => 0), gO q9 1 1 b10, lA κ b7 (1 * 5) (fun _ => 0), gO q6 1 1 b7, lA κ b4 (1 * 5) (fun _ => 0), gO q3 1 1 b4, (q1, .inl (κ.2.1 2, 4, .inr (.inr (.inr (.inr (tb (va_ls [s_0, q1, q3, b4, q6, b7, q9, b10, q12, b13]))))))), (s_0, .inr (11, [.ref q1, .int 0, .int 0, .int 0, .int 0]))]) (P := [9, 8, 7, 6, 5, 4, 3, 2, 1, 0]) (d := (0, .inr (0, []))) (w := w) rfl rfl (by decide) (by decide) hB
  rw [← hQ]
  exact end_v hX hB hA3 rfl ⟨va_ls [s_0, q1, q3, b4, q6, b7, q9, b10, q12, b13], rfl, rfl, rfl⟩ (Nat.le_of_ble_eq_true rfl) (Nat.le_of_ble_eq_true rfl) dX10_init_40
end
section
-- 88.jlong
theorem sm_32 {x : Int64} (h : sm x) : x.toInt32.toInt = x.toInt ∧ -20 ≤ x.toInt ∧ x.toInt ≤ 20 := by
  have h1 := Int64.le_iff_toInt_le.mp h.1
  have h2 := Int64.le_iff_toInt_le.mp h.2
  rw [show (-20 : Int64).toInt = -20 from rfl] at h1
  rw [show (20 : Int64).toInt = 20 from rfl] at h2
  refine ⟨?_, h1, h2⟩
  rw [Int64.toInt_toInt32]
  exact Int.bmod_eq_of_le (by omega) (by omega)
theorem sm_n {x : Int64} (h : sm x) : (-x).toInt = -x.toInt := by
  obtain ⟨-, h1, h2⟩ := sm_32 h
  rw [Int64.toInt_neg]
  exact Int.bmod_eq_of_le (by omega) (by omega)
theorem ls_lt {x y : Int64} : (lg_cmp x y < 0) = (x.toInt < y.toInt) := propext ((lg_cmp_lt x y).trans Int64.lt_iff_toInt_lt)
theorem ls_le {x y : Int64} : (lg_cmp x y ≤ 0) = (x.toInt ≤ y.toInt) := propext ((lg_cmp_le x y).trans Int64.le_iff_toInt_le)
theorem i64z : (0 : Int64).toInt = 0 := rfl
theorem ls_0 {x : Int64} (h : sm x) : (x.toInt32 < 0) = (x.toInt < 0) := by
  rw [i32_lt, (sm_32 h).1]
  rfl
theorem ls_1 {x : Int64} (h : sm x) (c0 : lg_cmp x 0 < 0) (c : ¬ lg_cmp x (-10) ≤ 0) : DSz x.toInt32 (1 + 1) := by
  obtain ⟨e, h1, h2⟩ := sm_32 h
  rw [ls_lt, i64z] at c0
  rw [ls_le, show (-10 : Int64).toInt = -10 from rfl] at c
  unfold DSz
  rw [ls_0 h, e]
  exact ⟨fun _ => ⟨by omega, by omega, by omega⟩, fun z => absurd c0 z⟩
theorem ls_2 {x : Int64} (h : sm x) (c0 : lg_cmp x 0 < 0) : DSz x.toInt32 (2 + 1) := by
  obtain ⟨e, h1, h2⟩ := sm_32 h
  rw [ls_lt, i64z] at c0
  unfold DSz
  rw [ls_0 h, e]
  exact ⟨fun _ => ⟨by omega, by omega, by omega⟩, fun z => absurd c0 z⟩
theorem ls_3 {x : Int64} (h : sm x) (c0 : ¬ lg_cmp x 0 < 0) (c : ¬ lg_cmp (-x) (-10) ≤ 0) : DSz x.toInt32 1 := by
  obtain ⟨e, h1, h2⟩ := sm_32 h
  rw [ls_lt, i64z] at c0
  rw [ls_le, sm_n h, show (-10 : Int64).toInt = -10 from rfl] at c
  unfold DSz
  rw [ls_0 h, e]
  exact ⟨fun z => absurd z c0, fun _ => ⟨by omega, by omega, by omega⟩⟩
theorem ls_4 {x : Int64} (h : sm x) (c0 : ¬ lg_cmp x 0 < 0) : DSz x.toInt32 2 := by
  obtain ⟨e, h1, h2⟩ := sm_32 h
  rw [ls_lt, i64z] at c0
  unfold DSz
  rw [ls_0 h, e]
  exact ⟨fun z => absurd z c0, fun _ => ⟨by omega, by omega, by omega⟩⟩
theorem ls_5 {x : Int64} (h : sm x) (c : lg_cmp x (10 * -10) ≤ 0) : False := by
  obtain ⟨e, h1, h2⟩ := sm_32 h
  rw [ls_le, show (10 * -10 : Int64).toInt = -100 from rfl] at c
  omega
theorem ls_6 {x : Int64} (h : sm x) (c : lg_cmp (-x) (10 * -10) ≤ 0) : False := by
  obtain ⟨e, h1, h2⟩ := sm_32 h
  rw [ls_le, sm_n h, show (10 * -10 : Int64).toInt = -100 from rfl] at c
  omega
theorem ls_7 {x : Int64} (h : sm x) (c : ¬ 0 < lg_cmp x (-2147483648)) : False := by
  obtain ⟨e, h1, h2⟩ := sm_32 h
  rw [lg_cmp_gt, Int64.lt_iff_toInt_lt, show (-2147483648 : Int64).toInt = -2147483648 from rfl] at c
  omega
theorem ls_8 {x : Int64} (h : sm x) (c : ¬ 0 < lg_cmp (-x) (-2147483648)) : False := by
  obtain ⟨e, h1, h2⟩ := sm_32 h
  rw [lg_cmp_gt, Int64.lt_iff_toInt_lt, sm_n h, show (-2147483648 : Int64).toInt = -2147483648 from rfl] at c
  omega
theorem lgc_0 {x : Int64} {z : Nat} (h : sm x) (hd : DSz x.toInt32 z) (c0 : ¬ 0 ≤ lg_cmp x 0) : GCi x.toInt32 (z - 1) := gc_0 hd (by
  rw [ls_0 h]
  rw [lg_cmp_ge, Int64.le_iff_toInt_le, i64z] at c0
  omega)
theorem lgc_1 {x : Int64} {z : Nat} (h : sm x) (hd : DSz x.toInt32 z) (c0 : 0 ≤ lg_cmp x 0) : GCi (-x).toInt32 z := by
  rw [Int64.toInt32_neg]
  refine gc_1 hd ?_
  rw [ls_0 h]
  rw [lg_cmp_ge, Int64.le_iff_toInt_le, i64z] at c0
  omega

set_option maxHeartbeats 4000000 in
set_option maxRecDepth 100000 in
theorem k_J13_stringSize_95d88 (κ : Kt) (l : Launch) (w : va_W) (x : Int64) (hsm : sm x) : CM κ l yJ13_stringSize_95d88 cJ13_stringSize_95d88 6 (some .int) 0 0 0 0 [.long x] (w) (fun o w' => ∃ (z : Nat), o = some (.int (nI z)) ∧ (DSz x.toInt32 z) ∧ w' = w) := by
  refine CM_begin (plainFor_of_name pn_RJ13) (Nat.le_of_ble_eq_true rfl) ?_
  intro p e s m args below meth c A Q hX hnm hA3 hQ hB ls hl
  have hx := hX.1.1
  have hb := hX.1.2.1
  have hl : lv_has ls 6 [(0, .long x)] := hl
  refine lv_iconst (v := 1) hx hb dJ13_stringSize_95d88_0 (by decide) ?_
  refine lv_istore_n (lv' := [(2, .int 1), (0, .long x)]) hx hb dJ13_stringSize_95d88_1 rfl hl (by decide) rfl (fun ls hl => ?_)
  refine lv_lload_n hx hb dJ13_stringSize_95d88_2 rfl (lv_at hl 1 rfl) ?_
  refine lv_lconst (v := 0) hx hb dJ13_stringSize_95d88_3 (by decide) ?_
  refine W.lcmp hx hb dJ13_stringSize_95d88_4 ?_
  refine lv_if_lt (tgt := 13) hx hb dJ13_stringSize_95d88_5 (by decide) (fun c1 => ?_) (fun c1 => ?_)
  · refine lv_ldc2 (own := RJ13) (v := (-10)) hx hb hX.1.2.2.2.1 (hX.1.2.2.2.2 _ wm_7_50) dJ13_stringSize_95d88_13 ?_
    refine lv_lstore_n (lv' := [(3, .long (-10)), (2, .int 1), (0, .long x)]) hx hb dJ13_stringSize_95d88_16 rfl hl (by decide) rfl (fun ls hl => ?_)
    refine lv_iconst (v := 1) hx hb dJ13_stringSize_95d88_17 (by decide) ?_
    refine lv_istore (lv' := [(5, .int 1), (3, .long (-10)), (2, .int 1), (0, .long x)]) hx hb dJ13_stringSize_95d88_18 hl (by decide) rfl (fun ls hl => ?_)
    refine lv_iload hx hb dJ13_stringSize_95d88_20 (lv_at hl 0 rfl) ?_
    refine lv_bipush (v := 19) hx hb dJ13_stringSize_95d88_22 (by decide) ?_
    refine lv_icmp_ge (tgt := 50) hx hb dJ13_stringSize_95d88_24 (by decide) (fun c2 => False.elim (by revert c2; decide)) (fun _ => ?_)
    refine lv_lload_n hx hb dJ13_stringSize_95d88_27 rfl (lv_at hl 3 rfl) ?_
    refine lv_lload_n hx hb dJ13_stringSize_95d88_28 rfl (lv_at hl 1 rfl) ?_
    refine W.lcmp hx hb dJ13_stringSize_95d88_29 ?_
    refine lv_if_le (tgt := 38) hx hb dJ13_stringSize_95d88_30 (by decide) (fun c3 => ?_) (fun c3 => ?_)
    · refine lv_ldc2 (own := RJ13) (v := 10) hx hb hX.1.2.2.2.1 (hX.1.2.2.2.2 _ wm_7_51) dJ13_stringSize_95d88_38 ?_
      refine lv_lload_n hx hb dJ13_stringSize_95d88_41 rfl (lv_at hl 1 rfl) ?_
      refine lv_lmul hx hb dJ13_stringSize_95d88_42 ?_
      refine lv_lstore_n (lv' := [(3, .long (10 * (-10))), (5, .int 1), (2, .int 1), (0, .long x)]) hx hb dJ13_stringSize_95d88_43 rfl hl (by decide) rfl (fun ls hl => ?_)
      refine lv_iinc (v := 2) (lv' := [(5, .int 2), (3, .long (10 * (-10))), (2, .int 1), (0, .long x)]) hx hb dJ13_stringSize_95d88_44 hl (k := 1) rfl (by decide) (by decide) rfl (fun ls hl => ?_)
      refine lv_goto (tgt := 20) hx hb dJ13_stringSize_95d88_47 (by decide) ?_
      refine lv_iload hx hb dJ13_stringSize_95d88_20 (lv_at hl 0 rfl) ?_
      refine lv_bipush (v := 19) hx hb dJ13_stringSize_95d88_22 (by decide) ?_
      refine lv_icmp_ge (tgt := 50) hx hb dJ13_stringSize_95d88_24 (by decide) (fun c4 => False.elim (by revert c4; decide)) (fun _ => ?_)
      refine lv_lload_n hx hb dJ13_stringSize_95d88_27 rfl (lv_at hl 3 rfl) ?_
      refine lv_lload_n hx hb dJ13_stringSize_95d88_28 rfl (lv_at hl 1 rfl) ?_
      refine W.lcmp hx hb dJ13_stringSize_95d88_29 ?_
      refine lv_if_le (tgt := 38) hx hb dJ13_stringSize_95d88_30 (by decide) (fun c5 => ?_) (fun c5 => ?_)
      · exact (ls_5 hsm (by assumption)).elim
      · refine lv_iload hx hb dJ13_stringSize_95d88_33 (lv_at hl 0 rfl) ?_
        refine lv_iload_n hx hb dJ13_stringSize_95d88_35 rfl (lv_at hl 2 rfl) ?_
        refine lv_iadd hx hb dJ13_stringSize_95d88_36 ?_
        refine eqi (y := 3) (by decide) ?_
        rw [← hQ]
        exact end_i hX hB hA3 rfl rfl ⟨3, rfl, (ls_2 hsm (by assumption)), rfl⟩ (Nat.le_of_ble_eq_true rfl) (Nat.le_of_ble_eq_true rfl) dJ13_stringSize_95d88_37
    · refine lv_iload hx hb dJ13_stringSize_95d88_33 (lv_at hl 0 rfl) ?_
      refine lv_iload_n hx hb dJ13_stringSize_95d88_35 rfl (lv_at hl 2 rfl) ?_
      refine lv_iadd hx hb dJ13_stringSize_95d88_36 ?_
      refine eqi (y := 2) (by decide) ?_
      rw [← hQ]
      exact end_i hX hB hA3 rfl rfl ⟨2, rfl, (ls_1 hsm (by assumption) (by assumption)), rfl⟩ (Nat.le_of_ble_eq_true rfl) (Nat.le_of_ble_eq_true rfl) dJ13_stringSize_95d88_37
  · refine lv_iconst (v := 0) hx hb dJ13_stringSize_95d88_8 (by decide) ?_
    refine lv_istore_n (lv' := [(2, .int 0), (0, .long x)]) hx hb dJ13_stringSize_95d88_9 rfl hl (by decide) rfl (fun ls hl => ?_)
    refine lv_lload_n hx hb dJ13_stringSize_95d88_10 rfl (lv_at hl 1 rfl) ?_
    refine lv_lneg hx hb dJ13_stringSize_95d88_11 ?_
    refine lv_lstore_n (lv' := [(0, .long (-x)), (2, .int 0)]) hx hb dJ13_stringSize_95d88_12 rfl hl (by decide) rfl (fun ls hl => ?_)
    refine lv_ldc2 (own := RJ13) (v := (-10)) hx hb hX.1.2.2.2.1 (hX.1.2.2.2.2 _ wm_7_50) dJ13_stringSize_95d88_13 ?_
    refine lv_lstore_n (lv' := [(3, .long (-10)), (0, .long (-x)), (2, .int 0)]) hx hb dJ13_stringSize_95d88_16 rfl hl (by decide) rfl (fun ls hl => ?_)
    refine lv_iconst (v := 1) hx hb dJ13_stringSize_95d88_17 (by decide) ?_
    refine lv_istore (lv' := [(5, .int 1), (3, .long (-10)), (0, .long (-x)), (2, .int 0)]) hx hb dJ13_stringSize_95d88_18 hl (by decide) rfl (fun ls hl => ?_)
    refine lv_iload hx hb dJ13_stringSize_95d88_20 (lv_at hl 0 rfl) ?_
    refine lv_bipush (v := 19) hx hb dJ13_stringSize_95d88_22 (by decide) ?_
    refine lv_icmp_ge (tgt := 50) hx hb dJ13_stringSize_95d88_24 (by decide) (fun c6 => False.elim (by revert c6; decide)) (fun _ => ?_)
    refine lv_lload_n hx hb dJ13_stringSize_95d88_27 rfl (lv_at hl 2 rfl) ?_
    refine lv_lload_n hx hb dJ13_stringSize_95d88_28 rfl (lv_at hl 1 rfl) ?_
    refine W.lcmp hx hb dJ13_stringSize_95d88_29 ?_
    refine lv_if_le (tgt := 38) hx hb dJ13_stringSize_95d88_30 (by decide) (fun c7 => ?_) (fun c7 => ?_)
    · refine lv_ldc2 (own := RJ13) (v := 10) hx hb hX.1.2.2.2.1 (hX.1.2.2.2.2 _ wm_7_51) dJ13_stringSize_95d88_38 ?_
      refine lv_lload_n hx hb dJ13_stringSize_95d88_41 rfl (lv_at hl 1 rfl) ?_
      refine lv_lmul hx hb dJ13_stringSize_95d88_42 ?_
      refine lv_lstore_n (lv' := [(3, .long (10 * (-10))), (5, .int 1), (0, .long (-x)), (2, .int 0)]) hx hb dJ13_stringSize_95d88_43 rfl hl (by decide) rfl (fun ls hl => ?_)
      refine lv_iinc (v := 2) (lv' := [(5, .int 2), (3, .long (10 * (-10))), (0, .long (-x)), (2, .int 0)]) hx hb dJ13_stringSize_95d88_44 hl (k := 1) rfl (by decide) (by decide) rfl (fun ls hl => ?_)
      refine lv_goto (tgt := 20) hx hb dJ13_stringSize_95d88_47 (by decide) ?_
      refine lv_iload hx hb dJ13_stringSize_95d88_20 (lv_at hl 0 rfl) ?_
      refine lv_bipush (v := 19) hx hb dJ13_stringSize_95d88_22 (by decide) ?_
      refine lv_icmp_ge (tgt := 50) hx hb dJ13_stringSize_95d88_24 (by decide) (fun c8 => False.elim (by revert c8; decide)) (fun _ => ?_)
      refine lv_lload_n hx hb dJ13_stringSize_95d88_27 rfl (lv_at hl 2 rfl) ?_
      refine lv_lload_n hx hb dJ13_stringSize_95d88_28 rfl (lv_at hl 1 rfl) ?_
      refine W.lcmp hx hb dJ13_stringSize_95d88_29 ?_
      refine lv_if_le (tgt := 38) hx hb dJ13_stringSize_95d88_30 (by decide) (fun c9 => ?_) (fun c9 => ?_)
      · exact (ls_6 hsm (by assumption)).elim
      · refine lv_iload hx hb dJ13_stringSize_95d88_33 (lv_at hl 0 rfl) ?_
        refine lv_iload_n hx hb dJ13_stringSize_95d88_35 rfl (lv_at hl 3 rfl) ?_
        refine lv_iadd hx hb dJ13_stringSize_95d88_36 ?_
        refine eqi (y := 2) (by decide) ?_
        rw [← hQ]
        exact end_i hX hB hA3 rfl rfl ⟨2, rfl, (ls_4 hsm (by assumption)), rfl⟩ (Nat.le_of_ble_eq_true rfl) (Nat.le_of_ble_eq_true rfl) dJ13_stringSize_95d88_37
    · refine lv_iload hx hb dJ13_stringSize_95d88_33 (lv_at hl 0 rfl) ?_
      refine lv_iload_n hx hb dJ13_stringSize_95d88_35 rfl (lv_at hl 3 rfl) ?_
      refine lv_iadd hx hb dJ13_stringSize_95d88_36 ?_
      refine eqi (y := 1) (by decide) ?_
      rw [← hQ]
      exact end_i hX hB hA3 rfl rfl ⟨1, rfl, (ls_3 hsm (by assumption) (by assumption)), rfl⟩ (Nat.le_of_ble_eq_true rfl) (Nat.le_of_ble_eq_true rfl) dJ13_stringSize_95d88_37
set_option maxHeartbeats 4000000 in
set_option maxRecDepth 100000 in
theorem k_J13_getChars_11360 (κ : Kt) (l : Launch) (w : va_W) (x : Int64) (xp0 : Int32) (p0 : Nat) (k_b b_b n_b : Nat) (f_b : Nat → Int32) (hxp0 : xp0 = nI p0) (h_b : w[k_b]? = some (bA κ b_b n_b f_b)) (hnb : n_b ≤ 1000) (hft : sb_Fit f_b) (hsm : sm x) (hsz : ∃ sz, DSz x.toInt32 sz ∧ sz ≤ p0) (hp0 : p0 ≤ n_b) : CM κ l yJ13_getChars_11360 cJ13_getChars_11360 11 (some .int) 0 0 0 0 [.long x, .int xp0, .ref b_b] (w) (fun o w' => ∃ (z : Nat) (F : Nat → Int32), o = some (.int (nI z)) ∧ (sb_Fit F) ∧ w' = w.set k_b (bA κ b_b n_b F)) := by
  subst hxp0
  refine CM_begin (plainFor_of_name pn_RJ13) (Nat.le_of_ble_eq_true rfl) ?_
  intro p e s m args below meth c A Q hX hnm hA3 hQ hB ls hl
  have hx := hX.1.1
  have hb := hX.1.2.1
  have hl : lv_has ls 11 [(0, .long x), (2, .int (nI p0)), (3, .ref b_b)] := hl
  have hB : Bd κ A s (w.set k_b (bA κ b_b n_b f_b)) s.heap [] := by rw [wset0 h_b]; exact hB
  obtain ⟨sz, hds, hsp⟩ := hsz
  obtain ⟨hdta, fdt, hdt1, hdt2⟩ := hX.2.1.2.2.1.1.2.2.2.1
  obtain ⟨hdoa, fdo, hdo1, hdo2⟩ := hX.2.1.2.2.1.1.2.2.2.2
  refine lv_iload_n hx hb dJ13_getChars_11360_0 rfl (lv_at hl 1 rfl) ?_
  refine lv_istore (lv' := [(7, .int (nI p0)), (0, .long x), (2, .int (nI p0)), (3, .ref b_b)]) hx hb dJ13_getChars_11360_1 hl (by decide) rfl (fun ls hl => ?_)
  refine lv_lload_n hx hb dJ13_getChars_11360_3 rfl (lv_at hl 1 rfl) ?_
  refine lv_lconst (v := 0) hx hb dJ13_getChars_11360_4 (by decide) ?_
  refine W.lcmp hx hb dJ13_getChars_11360_5 ?_
  refine lv_if_ge (tgt := 13) hx hb dJ13_getChars_11360_6 (by decide) (fun c1 => ?_) (fun c1 => ?_)
  · refine lv_iconst (v := 0) hx hb dJ13_getChars_11360_13 (by decide) ?_
    refine lv_istore (lv' := [(8, .int 0), (7, .int (nI p0)), (0, .long x), (2, .int (nI p0)), (3, .ref b_b)]) hx hb dJ13_getChars_11360_14 hl (by decide) rfl (fun ls hl => ?_)
    refine lv_iload hx hb dJ13_getChars_11360_16 (lv_at hl 0 rfl) ?_
    refine lv_if_ne (tgt := 24) hx hb dJ13_getChars_11360_18 (by decide) (fun c2 => False.elim (by revert c2; decide)) (fun _ => ?_)
    refine lv_lload_n hx hb dJ13_getChars_11360_21 rfl (lv_at hl 2 rfl) ?_
    refine lv_lneg hx hb dJ13_getChars_11360_22 ?_
    refine lv_lstore_n (lv' := [(0, .long (-x)), (8, .int 0), (7, .int (nI p0)), (2, .int (nI p0)), (3, .ref b_b)]) hx hb dJ13_getChars_11360_23 rfl hl (by decide) rfl (fun ls hl => ?_)
    refine lv_lload_n hx hb dJ13_getChars_11360_24 rfl (lv_at hl 0 rfl) ?_
    refine lv_ldc2 (own := RJ13) (v := (-2147483648)) hx hb hX.1.2.2.2.1 (hX.1.2.2.2.2 _ wm_7_55) dJ13_getChars_11360_25 ?_
    refine W.lcmp hx hb dJ13_getChars_11360_28 ?_
    refine lv_if_gt (tgt := 82) hx hb dJ13_getChars_11360_29 (by decide) (fun c3 => ?_) (fun c3 => ?_)
    · refine lv_lload_n hx hb dJ13_getChars_11360_82 rfl (lv_at hl 0 rfl) ?_
      refine lv_l2i hx hb dJ13_getChars_11360_83 rfl ?_
      refine lv_istore (lv' := [(10, .int (((-x)).toInt32)), (0, .long (-x)), (8, .int 0), (7, .int (nI p0)), (2, .int (nI p0)), (3, .ref b_b)]) hx hb dJ13_getChars_11360_84 hl (by decide) rfl (fun ls hl => ?_)
      have lp86 : ∀ (nn : Nat) (y10_86 : Int32) (y7_86 : Nat) (bb_86 : Nat → Int32) (kk : Nat) (H : Heap) (locs : List Loc), (GCi y10_86 kk) → (kk + 0 ≤ y7_86 ∧ y7_86 ≤ n_b) → (sb_Fit bb_86) → (y10_86).toInt.natAbs < nn → Bd κ A s ((w.set k_b (bA κ b_b n_b bb_86))) H locs → ∀ ls : Array Slot, lv_has ls 11 [(10, .int y10_86), (0, .long (-x)), (8, .int 0), (7, .int (nI y7_86)), (2, .int (nI p0)), (3, .ref b_b)] → W p l e (Rm 0 0 0 0) s m args below meth c H locs (0) (0) Q (F0 m 86 ls []) := by
        intro nn
        induction nn with
        | zero => intro y10_86 y7_86 bb_86 kk H locs hgc hpp hfb hμ; exact absurd hμ (Nat.not_lt_zero _)
        | succ nn ih86 =>
          intro y10_86 y7_86 bb_86 kk H locs hgc hpp hfb hμ86 hB ls hl
          have hgk := hgc.2.2
          refine lv_iload hx hb dJ13_getChars_11360_86 (lv_at hl 0 rfl) ?_
          refine lv_bipush (v := (-100)) hx hb dJ13_getChars_11360_88 (by decide) ?_
          refine lv_icmp_gt (tgt := 143) hx hb dJ13_getChars_11360_90 (by decide) (fun c20 => ?_) (fun c20 => ?_)
          · refine lv_aload_n hx hb dJ13_getChars_11360_143 rfl (lv_at hl 5 rfl) ?_
            refine lv_iinc (v := nI (y7_86 - 1)) (lv' := [(7, .int (nI (y7_86 - 1))), (10, .int y10_86), (0, .long (-x)), (8, .int 0), (2, .int (nI p0)), (3, .ref b_b)]) hx hb dJ13_getChars_11360_144 hl (k := 3) rfl (nI_dec (a := y7_86) (by omega)) (by decide) rfl (fun ls hl => ?_)
            refine lv_iload hx hb dJ13_getChars_11360_147 (lv_at hl 0 rfl) ?_
            refine gsv hX hB hdo1 wm_7_57 dJ13_getChars_11360_149 ?_
            refine lv_iload hx hb dJ13_getChars_11360_152 (lv_at hl 1 rfl) ?_
            refine lv_ineg hx hb dJ13_getChars_11360_154 ?_
            refine baldS hX hB hdo2 (gc_n hgc (by assumption)) dJ13_getChars_11360_155 ?_
            refine lv_topi (fun u21 eu21 => ?_)
            refine bastN (k0 := k_b) (k := y7_86 - 1) hX hB (wset1 h_b) (by omega) (by omega) (w1 := (w.set k_b (bA κ b_b n_b (upd bb_86 (y7_86 - 1) (vp_nar .byte u21))))) (List.set_set _) dJ13_getChars_11360_156 (fun H locs hB => ?_)
            refine lv_iload hx hb dJ13_getChars_11360_157 (lv_at hl 1 rfl) ?_
            refine lv_bipush (v := (-9)) hx hb dJ13_getChars_11360_159 (by decide) ?_
            refine lv_icmp_ge (tgt := 178) hx hb dJ13_getChars_11360_161 (by decide) (fun c22 => ?_) (fun c22 => ?_)
            · refine lv_iload hx hb dJ13_getChars_11360_178 (lv_at hl 3 rfl) ?_
              refine lv_if_eq (tgt := 192) hx hb dJ13_getChars_11360_180 (by decide) (fun _ => ?_) (fun c23 => False.elim (by revert c23; decide))
              refine lv_iload hx hb dJ13_getChars_11360_192 (lv_at hl 0 rfl) ?_
              rw [← hQ]
              exact end_i hX hB hA3 rfl rfl ⟨(y7_86 - 1), (upd bb_86 (y7_86 - 1) (vp_nar .byte u21)), rfl, (sb_fitU hfb (pk_fb _)), rfl⟩ (Nat.le_of_ble_eq_true rfl) (Nat.le_of_ble_eq_true rfl) dJ13_getChars_11360_194
            · have hk2 := gc_k2 hgc c22
              refine lv_aload_n hx hb dJ13_getChars_11360_164 rfl (lv_at hl 5 rfl) ?_
              refine lv_iinc (v := nI (y7_86 - 1 - 1)) (lv' := [(7, .int (nI (y7_86 - 1 - 1))), (10, .int y10_86), (0, .long (-x)), (8, .int 0), (2, .int (nI p0)), (3, .ref b_b)]) hx hb dJ13_getChars_11360_165 hl (k := 0) rfl (nI_dec (a := y7_86 - 1) (by omega)) (by decide) rfl (fun ls hl => ?_)
              refine lv_iload hx hb dJ13_getChars_11360_168 (lv_at hl 0 rfl) ?_
              refine gsv hX hB hdt1 wm_7_58 dJ13_getChars_11360_170 ?_
              refine lv_iload hx hb dJ13_getChars_11360_173 (lv_at hl 1 rfl) ?_
              refine lv_ineg hx hb dJ13_getChars_11360_175 ?_
              refine baldS hX hB hdt2 (gc_n hgc (by assumption)) dJ13_getChars_11360_176 ?_
              refine lv_topi (fun u24 eu24 => ?_)
              refine bastN (k0 := k_b) (k := y7_86 - 1 - 1) hX hB (wset1 h_b) (by omega) (by omega) (w1 := (w.set k_b (bA κ b_b n_b (upd (upd bb_86 (y7_86 - 1) (vp_nar .byte u21)) (y7_86 - 1 - 1) (vp_nar .byte u24))))) (List.set_set _) dJ13_getChars_11360_177 (fun H locs hB => ?_)
              refine lv_iload hx hb dJ13_getChars_11360_178 (lv_at hl 3 rfl) ?_
              refine lv_if_eq (tgt := 192) hx hb dJ13_getChars_11360_180 (by decide) (fun _ => ?_) (fun c25 => False.elim (by revert c25; decide))
              refine lv_iload hx hb dJ13_getChars_11360_192 (lv_at hl 0 rfl) ?_
              rw [← hQ]
              exact end_i hX hB hA3 rfl rfl ⟨(y7_86 - 1 - 1), (upd (upd bb_86 (y7_86 - 1) (vp_nar .byte u21)) (y7_86 - 1 - 1) (vp_nar .byte u24)), rfl, (sb_fitU (sb_fitU hfb (pk_fb _)) (pk_fb _)), rfl⟩ (Nat.le_of_ble_eq_true rfl) (Nat.le_of_ble_eq_true rfl) dJ13_getChars_11360_194
          · have hk3 := gc_k3 hgc c20
            refine lv_iload hx hb dJ13_getChars_11360_93 (lv_at hl 0 rfl) ?_
            refine lv_bipush (v := 100) hx hb dJ13_getChars_11360_95 (by decide) ?_
            refine lv_idiv hx hb dJ13_getChars_11360_97 (by decide) ?_
            refine lv_istore (lv' := [(9, .int (y10_86 / 100)), (10, .int y10_86), (0, .long (-x)), (8, .int 0), (7, .int (nI y7_86)), (2, .int (nI p0)), (3, .ref b_b)]) hx hb dJ13_getChars_11360_98 hl (by decide) rfl (fun ls hl => ?_)
            refine lv_iload hx hb dJ13_getChars_11360_100 (lv_at hl 0 rfl) ?_
            refine lv_bipush (v := 100) hx hb dJ13_getChars_11360_102 (by decide) ?_
            refine lv_imul hx hb dJ13_getChars_11360_104 ?_
            refine lv_iload hx hb dJ13_getChars_11360_105 (lv_at hl 1 rfl) ?_
            refine lv_isub hx hb dJ13_getChars_11360_107 ?_
            refine lv_istore (lv' := [(6, .int (((y10_86 / 100) * 100) - y10_86)), (9, .int (y10_86 / 100)), (10, .int y10_86), (0, .long (-x)), (8, .int 0), (7, .int (nI y7_86)), (2, .int (nI p0)), (3, .ref b_b)]) hx hb dJ13_getChars_11360_108 hl (by decide) rfl (fun ls hl => ?_)
            refine lv_iload hx hb dJ13_getChars_11360_110 (lv_at hl 1 rfl) ?_
            refine lv_istore (lv' := [(10, .int (y10_86 / 100)), (6, .int (((y10_86 / 100) * 100) - y10_86)), (9, .int (y10_86 / 100)), (0, .long (-x)), (8, .int 0), (7, .int (nI y7_86)), (2, .int (nI p0)), (3, .ref b_b)]) hx hb dJ13_getChars_11360_112 hl (by decide) rfl (fun ls hl => ?_)
            refine lv_aload_n hx hb dJ13_getChars_11360_114 rfl (lv_at hl 7 rfl) ?_
            refine lv_iinc (v := nI (y7_86 - 1)) (lv' := [(7, .int (nI (y7_86 - 1))), (10, .int (y10_86 / 100)), (6, .int (((y10_86 / 100) * 100) - y10_86)), (9, .int (y10_86 / 100)), (0, .long (-x)), (8, .int 0), (2, .int (nI p0)), (3, .ref b_b)]) hx hb dJ13_getChars_11360_115 hl (k := 5) rfl (nI_dec (a := y7_86) (by omega)) (by decide) rfl (fun ls hl => ?_)
            refine lv_iload hx hb dJ13_getChars_11360_118 (lv_at hl 0 rfl) ?_
            refine gsv hX hB hdo1 wm_7_57 dJ13_getChars_11360_120 ?_
            refine lv_iload hx hb dJ13_getChars_11360_123 (lv_at hl 2 rfl) ?_
            refine baldS hX hB hdo2 (gc_r hgc) dJ13_getChars_11360_125 ?_
            refine lv_topi (fun u26 eu26 => ?_)
            refine bastN (k0 := k_b) (k := y7_86 - 1) hX hB (wset1 h_b) (by omega) (by omega) (w1 := (w.set k_b (bA κ b_b n_b (upd bb_86 (y7_86 - 1) (vp_nar .byte u26))))) (List.set_set _) dJ13_getChars_11360_126 (fun H locs hB => ?_)
            refine lv_aload_n hx hb dJ13_getChars_11360_127 rfl (lv_at hl 7 rfl) ?_
            refine lv_iinc (v := nI (y7_86 - 1 - 1)) (lv' := [(7, .int (nI (y7_86 - 1 - 1))), (10, .int (y10_86 / 100)), (6, .int (((y10_86 / 100) * 100) - y10_86)), (9, .int (y10_86 / 100)), (0, .long (-x)), (8, .int 0), (2, .int (nI p0)), (3, .ref b_b)]) hx hb dJ13_getChars_11360_128 hl (k := 0) rfl (nI_dec (a := y7_86 - 1) (by omega)) (by decide) rfl (fun ls hl => ?_)
            refine lv_iload hx hb dJ13_getChars_11360_131 (lv_at hl 0 rfl) ?_
            refine gsv hX hB hdt1 wm_7_58 dJ13_getChars_11360_133 ?_
            refine lv_iload hx hb dJ13_getChars_11360_136 (lv_at hl 2 rfl) ?_
            refine baldS hX hB hdt2 (gc_r hgc) dJ13_getChars_11360_138 ?_
            refine lv_topi (fun u27 eu27 => ?_)
            refine bastN (k0 := k_b) (k := y7_86 - 1 - 1) hX hB (wset1 h_b) (by omega) (by omega) (w1 := (w.set k_b (bA κ b_b n_b (upd (upd bb_86 (y7_86 - 1) (vp_nar .byte u26)) (y7_86 - 1 - 1) (vp_nar .byte u27))))) (List.set_set _) dJ13_getChars_11360_139 (fun H locs hB => ?_)
            refine lv_goto (tgt := 86) hx hb dJ13_getChars_11360_140 (by decide) ?_
            exact ih86 (y10_86 / 100) (y7_86 - 1 - 1) (upd (upd bb_86 (y7_86 - 1) (vp_nar .byte u26)) (y7_86 - 1 - 1) (vp_nar .byte u27)) (kk - 2) _ _ ((gc_s hgc c20).1) (⟨by omega, by omega⟩) (sb_fitU (sb_fitU hfb (pk_fb _)) (pk_fb _)) (by have := (gc_s hgc c20).2; omega) hB _ (lv_sub hl [1, 4, 5, 0, 6, 7] rfl)
      exact lp86 _ (((-x)).toInt32) p0 f_b sz _ _ (lgc_1 hsm hds (by assumption)) (⟨by have := DSz_b hds; omega, by omega⟩) hft (Nat.lt_succ_self _) hB _ hl
    · exact (ls_8 hsm (by assumption)).elim
  · refine lv_iconst (v := 1) hx hb dJ13_getChars_11360_9 (by decide) ?_
    refine lv_goto (tgt := 14) hx hb dJ13_getChars_11360_10 (by decide) ?_
    refine lv_istore (lv' := [(8, .int 1), (7, .int (nI p0)), (0, .long x), (2, .int (nI p0)), (3, .ref b_b)]) hx hb dJ13_getChars_11360_14 hl (by decide) rfl (fun ls hl => ?_)
    refine lv_iload hx hb dJ13_getChars_11360_16 (lv_at hl 0 rfl) ?_
    refine lv_if_ne (tgt := 24) hx hb dJ13_getChars_11360_18 (by decide) (fun _ => ?_) (fun c28 => False.elim (by revert c28; decide))
    refine lv_lload_n hx hb dJ13_getChars_11360_24 rfl (lv_at hl 2 rfl) ?_
    refine lv_ldc2 (own := RJ13) (v := (-2147483648)) hx hb hX.1.2.2.2.1 (hX.1.2.2.2.2 _ wm_7_55) dJ13_getChars_11360_25 ?_
    refine W.lcmp hx hb dJ13_getChars_11360_28 ?_
    refine lv_if_gt (tgt := 82) hx hb dJ13_getChars_11360_29 (by decide) (fun c29 => ?_) (fun c29 => ?_)
    · refine lv_lload_n hx hb dJ13_getChars_11360_82 rfl (lv_at hl 2 rfl) ?_
      refine lv_l2i hx hb dJ13_getChars_11360_83 rfl ?_
      refine lv_istore (lv' := [(10, .int ((x).toInt32)), (8, .int 1), (7, .int (nI p0)), (0, .long x), (2, .int (nI p0)), (3, .ref b_b)]) hx hb dJ13_getChars_11360_84 hl (by decide) rfl (fun ls hl => ?_)
      have lp86 : ∀ (nn : Nat) (y10_86 : Int32) (y7_86 : Nat) (bb_86 : Nat → Int32) (kk : Nat) (H : Heap) (locs : List Loc), (GCi y10_86 kk) → (kk + 1 ≤ y7_86 ∧ y7_86 ≤ n_b) → (sb_Fit bb_86) → (y10_86).toInt.natAbs < nn → Bd κ A s ((w.set k_b (bA κ b_b n_b bb_86))) H locs → ∀ ls : Array Slot, lv_has ls 11 [(10, .int y10_86), (8, .int 1), (7, .int (nI y7_86)), (0, .long x), (2, .int (nI p0)), (3, .ref b_b)] → W p l e (Rm 0 0 0 0) s m args below meth c H locs (0) (0) Q (F0 m 86 ls []) := by
        intro nn
        induction nn with
        | zero => intro y10_86 y7_86 bb_86 kk H locs hgc hpp hfb hμ; exact absurd hμ (Nat.not_lt_zero _)
        | succ nn ih86 =>
          intro y10_86 y7_86 bb_86 kk H locs hgc hpp hfb hμ86 hB ls hl
          have hgk := hgc.2.2
          refine lv_iload hx hb dJ13_getChars_11360_86 (lv_at hl 0 rfl) ?_
          refine lv_bipush (v := (-100)) hx hb dJ13_getChars_11360_88 (by decide) ?_
          refine lv_icmp_gt (tgt := 143) hx hb dJ13_getChars_11360_90 (by decide) (fun c46 => ?_) (fun c46 => ?_)
          · refine lv_aload_n hx hb dJ13_getChars_11360_143 rfl (lv_at hl 5 rfl) ?_
            refine lv_iinc (v := nI (y7_86 - 1)) (lv' := [(7, .int (nI (y7_86 - 1))), (10, .int y10_86), (8, .int 1), (0, .long x), (2, .int (nI p0)), (3, .ref b_b)]) hx hb dJ13_getChars_11360_144 hl (k := 2) rfl (nI_dec (a := y7_86) (by omega)) (by decide) rfl (fun ls hl => ?_)
            refine lv_iload hx hb dJ13_getChars_11360_147 (lv_at hl 0 rfl) ?_
            refine gsv hX hB hdo1 wm_7_57 dJ13_getChars_11360_149 ?_
            refine lv_iload hx hb dJ13_getChars_11360_152 (lv_at hl 1 rfl) ?_
            refine lv_ineg hx hb dJ13_getChars_11360_154 ?_
            refine baldS hX hB hdo2 (gc_n hgc (by assumption)) dJ13_getChars_11360_155 ?_
            refine lv_topi (fun u47 eu47 => ?_)
            refine bastN (k0 := k_b) (k := y7_86 - 1) hX hB (wset1 h_b) (by omega) (by omega) (w1 := (w.set k_b (bA κ b_b n_b (upd bb_86 (y7_86 - 1) (vp_nar .byte u47))))) (List.set_set _) dJ13_getChars_11360_156 (fun H locs hB => ?_)
            refine lv_iload hx hb dJ13_getChars_11360_157 (lv_at hl 1 rfl) ?_
            refine lv_bipush (v := (-9)) hx hb dJ13_getChars_11360_159 (by decide) ?_
            refine lv_icmp_ge (tgt := 178) hx hb dJ13_getChars_11360_161 (by decide) (fun c48 => ?_) (fun c48 => ?_)
            · refine lv_iload hx hb dJ13_getChars_11360_178 (lv_at hl 2 rfl) ?_
              refine lv_if_eq (tgt := 192) hx hb dJ13_getChars_11360_180 (by decide) (fun c49 => False.elim (by revert c49; decide)) (fun _ => ?_)
              refine lv_aload_n hx hb dJ13_getChars_11360_183 rfl (lv_at hl 5 rfl) ?_
              refine lv_iinc (v := nI (y7_86 - 1 - 1)) (lv' := [(7, .int (nI (y7_86 - 1 - 1))), (10, .int y10_86), (8, .int 1), (0, .long x), (2, .int (nI p0)), (3, .ref b_b)]) hx hb dJ13_getChars_11360_184 hl (k := 0) rfl (nI_dec (a := y7_86 - 1) (by omega)) (by decide) rfl (fun ls hl => ?_)
              refine lv_iload hx hb dJ13_getChars_11360_187 (lv_at hl 0 rfl) ?_
              refine lv_bipush (v := 45) hx hb dJ13_getChars_11360_189 (by decide) ?_
              refine bastN (k0 := k_b) (k := y7_86 - 1 - 1) hX hB (wset1 h_b) (by omega) (by omega) (w1 := (w.set k_b (bA κ b_b n_b (upd (upd bb_86 (y7_86 - 1) (vp_nar .byte u47)) (y7_86 - 1 - 1) (vp_nar .byte 45))))) (List.set_set _) dJ13_getChars_11360_191 (fun H locs hB => ?_)
              refine lv_iload hx hb dJ13_getChars_11360_192 (lv_at hl 0 rfl) ?_
              rw [← hQ]
              exact end_i hX hB hA3 rfl rfl ⟨(y7_86 - 1 - 1), (upd (upd bb_86 (y7_86 - 1) (vp_nar .byte u47)) (y7_86 - 1 - 1) (vp_nar .byte 45)), rfl, (sb_fitU (sb_fitU hfb (pk_fb _)) (pk_fb _)), rfl⟩ (Nat.le_of_ble_eq_true rfl) (Nat.le_of_ble_eq_true rfl) dJ13_getChars_11360_194
            · have hk2 := gc_k2 hgc c48
              refine lv_aload_n hx hb dJ13_getChars_11360_164 rfl (lv_at hl 5 rfl) ?_
              refine lv_iinc (v := nI (y7_86 - 1 - 1)) (lv' := [(7, .int (nI (y7_86 - 1 - 1))), (10, .int y10_86), (8, .int 1), (0, .long x), (2, .int (nI p0)), (3, .ref b_b)]) hx hb dJ13_getChars_11360_165 hl (k := 0) rfl (nI_dec (a := y7_86 - 1) (by omega)) (by decide) rfl (fun ls hl => ?_)
              refine lv_iload hx hb dJ13_getChars_11360_168 (lv_at hl 0 rfl) ?_
              refine gsv hX hB hdt1 wm_7_58 dJ13_getChars_11360_170 ?_
              refine lv_iload hx hb dJ13_getChars_11360_173 (lv_at hl 1 rfl) ?_
              refine lv_ineg hx hb dJ13_getChars_11360_175 ?_
              refine baldS hX hB hdt2 (gc_n hgc (by assumption)) dJ13_getChars_11360_176 ?_
              refine lv_topi (fun u50 eu50 => ?_)
              refine bastN (k0 := k_b) (k := y7_86 - 1 - 1) hX hB (wset1 h_b) (by omega) (by omega) (w1 := (w.set k_b (bA κ b_b n_b (upd (upd bb_86 (y7_86 - 1) (vp_nar .byte u47)) (y7_86 - 1 - 1) (vp_nar .byte u50))))) (List.set_set _) dJ13_getChars_11360_177 (fun H locs hB => ?_)
              refine lv_iload hx hb dJ13_getChars_11360_178 (lv_at hl 2 rfl) ?_
              refine lv_if_eq (tgt := 192) hx hb dJ13_getChars_11360_180 (by decide) (fun c51 => False.elim (by revert c51; decide)) (fun _ => ?_)
              refine lv_aload_n hx hb dJ13_getChars_11360_183 rfl (lv_at hl 5 rfl) ?_
              refine lv_iinc (v := nI (y7_86 - 1 - 1 - 1)) (lv' := [(7, .int (nI (y7_86 - 1 - 1 - 1))), (10, .int y10_86), (8, .int 1), (0, .long x), (2, .int (nI p0)), (3, .ref b_b)]) hx hb dJ13_getChars_11360_184 hl (k := 0) rfl (nI_dec (a := y7_86 - 1 - 1) (by omega)) (by decide) rfl (fun ls hl => ?_)
              refine lv_iload hx hb dJ13_getChars_11360_187 (lv_at hl 0 rfl) ?_
              refine lv_bipush (v := 45) hx hb dJ13_getChars_11360_189 (by decide) ?_
              refine bastN (k0 := k_b) (k := y7_86 - 1 - 1 - 1) hX hB (wset1 h_b) (by omega) (by omega) (w1 := (w.set k_b (bA κ b_b n_b (upd (upd (upd bb_86 (y7_86 - 1) (vp_nar .byte u47)) (y7_86 - 1 - 1) (vp_nar .byte u50)) (y7_86 - 1 - 1 - 1) (vp_nar .byte 45))))) (List.set_set _) dJ13_getChars_11360_191 (fun H locs hB => ?_)
              refine lv_iload hx hb dJ13_getChars_11360_192 (lv_at hl 0 rfl) ?_
              rw [← hQ]
              exact end_i hX hB hA3 rfl rfl ⟨(y7_86 - 1 - 1 - 1), (upd (upd (upd bb_86 (y7_86 - 1) (vp_nar .byte u47)) (y7_86 - 1 - 1) (vp_nar .byte u50)) (y7_86 - 1 - 1 - 1) (vp_nar .byte 45)), rfl, (sb_fitU (sb_fitU (sb_fitU hfb (pk_fb _)) (pk_fb _)) (pk_fb _)), rfl⟩ (Nat.le_of_ble_eq_true rfl) (Nat.le_of_ble_eq_true rfl) dJ13_getChars_11360_194
          · have hk3 := gc_k3 hgc c46
            refine lv_iload hx hb dJ13_getChars_11360_93 (lv_at hl 0 rfl) ?_
            refine lv_bipush (v := 100) hx hb dJ13_getChars_11360_95 (by decide) ?_
            refine lv_idiv hx hb dJ13_getChars_11360_97 (by decide) ?_
            refine lv_istore (lv' := [(9, .int (y10_86 / 100)), (10, .int y10_86), (8, .int 1), (7, .int (nI y7_86)), (0, .long x), (2, .int (nI p0)), (3, .ref b_b)]) hx hb dJ13_getChars_11360_98 hl (by decide) rfl (fun ls hl => ?_)
            refine lv_iload hx hb dJ13_getChars_11360_100 (lv_at hl 0 rfl) ?_
            refine lv_bipush (v := 100) hx hb dJ13_getChars_11360_102 (by decide) ?_
            refine lv_imul hx hb dJ13_getChars_11360_104 ?_
            refine lv_iload hx hb dJ13_getChars_11360_105 (lv_at hl 1 rfl) ?_
            refine lv_isub hx hb dJ13_getChars_11360_107 ?_
            refine lv_istore (lv' := [(6, .int (((y10_86 / 100) * 100) - y10_86)), (9, .int (y10_86 / 100)), (10, .int y10_86), (8, .int 1), (7, .int (nI y7_86)), (0, .long x), (2, .int (nI p0)), (3, .ref b_b)]) hx hb dJ13_getChars_11360_108 hl (by decide) rfl (fun ls hl => ?_)
            refine lv_iload hx hb dJ13_getChars_11360_110 (lv_at hl 1 rfl) ?_
            refine lv_istore (lv' := [(10, .int (y10_86 / 100)), (6, .int (((y10_86 / 100) * 100) - y10_86)), (9, .int (y10_86 / 100)), (8, .int 1), (7, .int (nI y7_86)), (0, .long x), (2, .int (nI p0)), (3, .ref b_b)]) hx hb dJ13_getChars_11360_112 hl (by decide) rfl (fun ls hl => ?_)
            refine lv_aload_n hx hb dJ13_getChars_11360_114 rfl (lv_at hl 7 rfl) ?_
            refine lv_iinc (v := nI (y7_86 - 1)) (lv' := [(7, .int (nI (y7_86 - 1))), (10, .int (y10_86 / 100)), (6, .int (((y10_86 / 100) * 100) - y10_86)), (9, .int (y10_86 / 100)), (8, .int 1), (0, .long x), (2, .int (nI p0)), (3, .ref b_b)]) hx hb dJ13_getChars_11360_115 hl (k := 4) rfl (nI_dec (a := y7_86) (by omega)) (by decide) rfl (fun ls hl => ?_)
            refine lv_iload hx hb dJ13_getChars_11360_118 (lv_at hl 0 rfl) ?_
            refine gsv hX hB hdo1 wm_7_57 dJ13_getChars_11360_120 ?_
            refine lv_iload hx hb dJ13_getChars_11360_123 (lv_at hl 2 rfl) ?_
            refine baldS hX hB hdo2 (gc_r hgc) dJ13_getChars_11360_125 ?_
            refine lv_topi (fun u52 eu52 => ?_)
            refine bastN (k0 := k_b) (k := y7_86 - 1) hX hB (wset1 h_b) (by omega) (by omega) (w1 := (w.set k_b (bA κ b_b n_b (upd bb_86 (y7_86 - 1) (vp_nar .byte u52))))) (List.set_set _) dJ13_getChars_11360_126 (fun H locs hB => ?_)
            refine lv_aload_n hx hb dJ13_getChars_11360_127 rfl (lv_at hl 7 rfl) ?_
            refine lv_iinc (v := nI (y7_86 - 1 - 1)) (lv' := [(7, .int (nI (y7_86 - 1 - 1))), (10, .int (y10_86 / 100)), (6, .int (((y10_86 / 100) * 100) - y10_86)), (9, .int (y10_86 / 100)), (8, .int 1), (0, .long x), (2, .int (nI p0)), (3, .ref b_b)]) hx hb dJ13_getChars_11360_128 hl (k := 0) rfl (nI_dec (a := y7_86 - 1) (by omega)) (by decide) rfl (fun ls hl => ?_)
            refine lv_iload hx hb dJ13_getChars_11360_131 (lv_at hl 0 rfl) ?_
            refine gsv hX hB hdt1 wm_7_58 dJ13_getChars_11360_133 ?_
            refine lv_iload hx hb dJ13_getChars_11360_136 (lv_at hl 2 rfl) ?_
            refine baldS hX hB hdt2 (gc_r hgc) dJ13_getChars_11360_138 ?_
            refine lv_topi (fun u53 eu53 => ?_)
            refine bastN (k0 := k_b) (k := y7_86 - 1 - 1) hX hB (wset1 h_b) (by omega) (by omega) (w1 := (w.set k_b (bA κ b_b n_b (upd (upd bb_86 (y7_86 - 1) (vp_nar .byte u52)) (y7_86 - 1 - 1) (vp_nar .byte u53))))) (List.set_set _) dJ13_getChars_11360_139 (fun H locs hB => ?_)
            refine lv_goto (tgt := 86) hx hb dJ13_getChars_11360_140 (by decide) ?_
            exact ih86 (y10_86 / 100) (y7_86 - 1 - 1) (upd (upd bb_86 (y7_86 - 1) (vp_nar .byte u52)) (y7_86 - 1 - 1) (vp_nar .byte u53)) (kk - 2) _ _ ((gc_s hgc c46).1) (⟨by omega, by omega⟩) (sb_fitU (sb_fitU hfb (pk_fb _)) (pk_fb _)) (by have := (gc_s hgc c46).2; omega) hB _ (lv_sub hl [1, 4, 0, 5, 6, 7] rfl)
      exact lp86 _ ((x).toInt32) p0 f_b (sz - 1) _ _ (lgc_0 hsm hds (by assumption)) (⟨by have := DSz_b hds; omega, by omega⟩) hft (Nat.lt_succ_self _) hB _ hl
    · exact (ls_7 hsm (by assumption)).elim
set_option maxHeartbeats 4000000 in
set_option maxRecDepth 100000 in
theorem k_J5_append_66267 (κ : Kt) (l : Launch) (w : va_W) (s_0 b_s n_s c_s : Nat) (ml : Int32) (f_s : Nat → Int32) (x : Int64) (hcn : c_s ≤ n_s) (hnb : n_s ≤ 1000) (hft : sb_Fit f_s) (hc3 : c_s ≤ 300) (hn2 : n_s ≤ 2 * c_s + 16) (hsm : sm x) : CM κ l yJ5_append_66267 cJ5_append_66267 5 (some (.object "java/lang/AbstractStringBuilder")) 4 104 1 820 [.ref s_0, .long x] (bA κ b_s n_s f_s :: (s_0, .inr (1, [.ref b_s, .int 0, .int ml, .int (nI c_s)])) :: w) (fun o w' => ∃ (q1 : Nat) (n1 : Nat) (F : Nat → Int32) (c1 : Nat), o = some (.ref s_0) ∧ (c_s + 1 ≤ n1 ∧ n1 ≤ 1000 ∧ n1 ≤ 2 * c1 + 16 ∧ c_s + 1 ≤ c1 ∧ c1 ≤ c_s + 11 ∧ c1 ≤ n1) ∧ (sb_Fit F) ∧ w' = bA κ q1 n1 F :: (s_0, .inr (1, [.ref q1, .int 0, .int ml, .int (nI c1)])) :: w) := by
  refine CM_begin (plainFor_of_name pn_RJ5) (Nat.le_of_ble_eq_true rfl) ?_
  intro p e s m args below meth c A Q hX hnm hA3 hQ hB ls hl
  have hx := hX.1.1
  have hb := hX.1.2.1
  have hl : lv_has ls 5 [(0, .ref s_0), (1, .long x)] := hl
  refine lv_aload_n hx hb dJ5_append_66267_0 rfl (lv_at hl 0 rfl) ?_
  refine gfU (k0 := 1) hX hB rfl rfl inJ4 3 (by decide) wm_4_11 rfl rfl dJ5_append_66267_1 ?_
  refine lv_istore_n (lv' := [(3, .int (nI c_s)), (0, .ref s_0), (1, .long x)]) hx hb dJ5_append_66267_4 rfl hl (by decide) rfl (fun ls hl => ?_)
  refine lv_iload_n hx hb dJ5_append_66267_5 rfl (lv_at hl 0 rfl) ?_
  refine lv_lload_n hx hb dJ5_append_66267_6 rfl (lv_at hl 2 rfl) ?_
  refine call_S (n := 1) (As := [.long x]) (rest := [.int (nI c_s)]) hX hB (k_J13_stringSize_95d88 κ l (bA κ b_s n_s f_s :: (s_0, .inr (1, [.ref b_s, .int 0, .int ml, .int (nI c_s)])) :: w) x hsm) yk_J13_stringSize_95d88 wm_7_47 wm_7_48 wm_1_27 wm_7_49 ⟨Nat.le_of_ble_eq_true rfl, Nat.le_of_ble_eq_true rfl⟩ ⟨Nat.le_of_ble_eq_true rfl, Nat.le_of_ble_eq_true rfl⟩ rfl hl.1 rfl (Nat.le_of_ble_eq_true rfl) dJ5_append_66267_7 (fun o w' H locs hp hB => ?_)
  obtain ⟨z1, rfl, hf2, hw9⟩ := hp
  replace hB : Bd κ A s (bA κ b_s n_s f_s :: (s_0, .inr (1, [.ref b_s, .int 0, .int ml, .int (nI c_s)])) :: w) H locs := by rw [hw9] at hB; exact hB
  refine W.eq (g2 := F0 m 10 ls [.int (nI z1), .int (nI c_s)]) rfl ?_
  have hszb := DSz_b hf2
  refine lv_iadd hx hb dJ5_append_66267_10 ?_
  refine eqi (y := nI (c_s + z1)) (nI_add c_s z1) ?_
  refine lv_istore (lv' := [(4, .int (nI (c_s + z1))), (3, .int (nI c_s)), (0, .ref s_0), (1, .long x)]) hx hb dJ5_append_66267_11 hl (by decide) rfl (fun ls hl => ?_)
  refine lv_aload_n hx hb dJ5_append_66267_13 rfl (lv_at hl 2 rfl) ?_
  refine lv_iload hx hb dJ5_append_66267_14 (lv_at hl 0 rfl) ?_
  refine call_U (n := 1) (k0 := 1) (As := [.int (nI (c_s + z1))]) (rest := []) hX hB (k_J5_ensureCapacityInternal_d00df κ l (w) s_0 b_s n_s c_s ml f_s (nI (c_s + z1)) (c_s + z1) (by omega) (by omega) hft rfl (by omega)) yk_J5_ensureCapacityInternal_d00df wm_4_28 wm_7_186 wm_4_30 (Or.inr wn_4_29) wm_1_17 wm_4_31 ⟨Nat.le_of_ble_eq_true rfl, Nat.le_of_ble_eq_true rfl⟩ ⟨Nat.le_of_ble_eq_true rfl, Nat.le_of_ble_eq_true rfl⟩ rfl rfl rfl rfl hl.1 rfl (Nat.le_of_ble_eq_true rfl) dJ5_append_66267_16 (fun o w' H locs hp hB => ?_)
  obtain ⟨q3, n4, F5, rfl, hf6, hf7, hw9⟩ := hp
  replace hB : Bd κ A s (bA κ q3 n4 F5 :: (s_0, .inr (1, [.ref q3, .int 0, .int ml, .int (nI c_s)])) :: w) H locs := by rw [hw9] at hB; exact hB
  refine W.eq (g2 := F0 m 19 ls []) rfl ?_
  refine lv_aload_n hx hb dJ5_append_66267_19 rfl (lv_at hl 2 rfl) ?_
  refine call_U (n := 0) (k0 := 1) (As := []) (rest := []) hX hB (k_J5_isLatin1_aae02 κ l (bA κ q3 n4 F5 :: (s_0, .inr (1, [.ref q3, .int 0, .int ml, .int (nI c_s)])) :: w) 1 s_0 q3 c_s ml rfl) yk_J5_isLatin1_aae02 wm_4_59 wm_4_61 wm_4_60 (Or.inl wm_4_62) wm_1_17 wm_4_63 ⟨Nat.le_of_ble_eq_true rfl, Nat.le_of_ble_eq_true rfl⟩ ⟨Nat.le_of_ble_eq_true rfl, Nat.le_of_ble_eq_true rfl⟩ rfl rfl rfl rfl hl.1 rfl (Nat.le_of_ble_eq_true rfl) dJ5_append_66267_20 (fun o w' H locs hp hB => ?_)
  obtain ⟨rfl, hw9⟩ := hp
  replace hB : Bd κ A s (bA κ q3 n4 F5 :: (s_0, .inr (1, [.ref q3, .int 0, .int ml, .int (nI c_s)])) :: w) H locs := by rw [hw9] at hB; exact hB
  refine W.eq (g2 := F0 m 23 ls [.int 1]) rfl ?_
  refine lv_if_eq (tgt := 40) hx hb dJ5_append_66267_23 (by decide) (fun c8 => False.elim (by revert c8; decide)) (fun _ => ?_)
  refine lv_lload_n hx hb dJ5_append_66267_26 rfl (lv_at hl 3 rfl) ?_
  refine lv_iload hx hb dJ5_append_66267_27 (lv_at hl 0 rfl) ?_
  refine lv_aload_n hx hb dJ5_append_66267_29 rfl (lv_at hl 2 rfl) ?_
  refine gfU (k0 := 1) hX hB rfl rfl inJ4 0 (by decide) wm_4_8 rfl rfl dJ5_append_66267_30 ?_
  refine call_S (n := 3) (As := [.long x, .int (nI (c_s + z1)), .ref q3]) (rest := []) hX hB (k_J13_getChars_11360 κ l (bA κ q3 n4 F5 :: (s_0, .inr (1, [.ref q3, .int 0, .int ml, .int (nI c_s)])) :: w) x (nI (c_s + z1)) (c_s + z1) 0 q3 n4 F5 rfl rfl (by omega) hf7 hsm ⟨_, hf2, by omega⟩ (by omega)) yk_J13_getChars_11360 wm_7_52 wm_7_53 wm_1_27 wm_7_54 ⟨Nat.le_of_ble_eq_true rfl, Nat.le_of_ble_eq_true rfl⟩ ⟨Nat.le_of_ble_eq_true rfl, Nat.le_of_ble_eq_true rfl⟩ rfl hl.1 rfl (Nat.le_of_ble_eq_true rfl) dJ5_append_66267_33 (fun o w' H locs hp hB => ?_)
  obtain ⟨z9, F10, rfl, hf11, hw9⟩ := hp
  replace hB : Bd κ A s (bA κ q3 n4 F10 :: (s_0, .inr (1, [.ref q3, .int 0, .int ml, .int (nI c_s)])) :: w) H locs := by rw [hw9] at hB; exact hB
  refine W.eq (g2 := F0 m 36 ls [.int (nI z9)]) rfl ?_
  refine lv_pop hx hb dJ5_append_66267_36 rfl ?_
  refine lv_goto (tgt := 52) hx hb dJ5_append_66267_37 (by decide) ?_
  refine lv_aload_n hx hb dJ5_append_66267_52 rfl (lv_at hl 2 rfl) ?_
  refine lv_iload hx hb dJ5_append_66267_53 (lv_at hl 0 rfl) ?_
  refine pfU (ty := .int) (k0 := 1) hX hB rfl rfl inJ4 tyJ4_ok nmJ4 3 (by decide) wm_4_11 rfl rfl rfl rfl rfl (Nat.le_of_ble_eq_true rfl) (w1 := bA κ q3 n4 F10 :: (s_0, .inr (1, [.ref q3, .int 0, .int ml, .int (nI (c_s + z1))])) :: w) rfl dJ5_append_66267_55 (fun H locs hB => ?_)
  refine lv_aload_n hx hb dJ5_append_66267_58 rfl (lv_at hl 2 rfl) ?_
  rw [← hQ]
  exact end_a hX hB hA3 rfl (Or.inr ⟨_, rfl⟩) ⟨q3, n4, F10, (c_s + z1), rfl, (by omega), hf11, rfl⟩ (Nat.le_of_ble_eq_true rfl) (Nat.le_of_ble_eq_true rfl) dJ5_append_66267_59
set_option maxHeartbeats 4000000 in
set_option maxRecDepth 100000 in
theorem k_J4_append_f7089 (κ : Kt) (l : Launch) (w : va_W) (s_0 b_s n_s c_s : Nat) (ml : Int32) (f_s : Nat → Int32) (x : Int64) (hcn : c_s ≤ n_s) (hnb : n_s ≤ 1000) (hft : sb_Fit f_s) (hc3 : c_s ≤ 300) (hn2 : n_s ≤ 2 * c_s + 16) (hsm : sm x) : CM κ l yJ4_append_f7089 cJ4_append_f7089 3 (some (.object "java/lang/StringBuilder")) 5 128 1 820 [.ref s_0, .long x] (bA κ b_s n_s f_s :: (s_0, .inr (1, [.ref b_s, .int 0, .int ml, .int (nI c_s)])) :: w) (fun o w' => ∃ (q1 : Nat) (n1 : Nat) (F : Nat → Int32) (c1 : Nat), o = some (.ref s_0) ∧ (c_s + 1 ≤ n1 ∧ n1 ≤ 1000 ∧ n1 ≤ 2 * c1 + 16 ∧ c_s + 1 ≤ c1 ∧ c1 ≤ c_s + 11 ∧ c1 ≤ n1) ∧ (sb_Fit F) ∧ w' = bA κ q1 n1 F :: (s_0, .inr (1, [.ref q1, .int 0, .int ml, .int (nI c1)])) :: w) := by
  refine CM_begin (plainFor_of_name pn_RJ4) (Nat.le_of_ble_eq_true rfl) ?_
  intro p e s m args below meth c A Q hX hnm hA3 hQ hB ls hl
  have hx := hX.1.1
  have hb := hX.1.2.1
  have hl : lv_has ls 3 [(0, .ref s_0), (1, .long x)] := hl
  refine lv_aload_n hx hb dJ4_append_f7089_0 rfl (lv_at hl 0 rfl) ?_
  refine lv_lload_n hx hb dJ4_append_f7089_1 rfl (lv_at hl 1 rfl) ?_
  refine call_SU (n := 1) (k0 := 1) (As := [.long x]) (rest := []) hX hB (k_J5_append_66267 κ l (w) s_0 b_s n_s c_s ml f_s x (by omega) (by omega) hft (by omega) (by omega) hsm) ⟨by decide, by decide +kernel⟩ wm_7_44 wm_7_194 wm_4_20 wm_7_45 wm_1_17 wm_7_46 ⟨Nat.le_of_ble_eq_true rfl, Nat.le_of_ble_eq_true rfl⟩ ⟨Nat.le_of_ble_eq_true rfl, Nat.le_of_ble_eq_true rfl⟩ rfl rfl rfl rfl hl.1 rfl (Nat.le_of_ble_eq_true rfl) dJ4_append_f7089_2 (fun o w' H locs hp hB => ?_)
  obtain ⟨q1, n2, F3, c4, rfl, hf5, hf6, hw9⟩ := hp
  replace hB : Bd κ A s (bA κ q1 n2 F3 :: (s_0, .inr (1, [.ref q1, .int 0, .int ml, .int (nI c4)])) :: w) H locs := by rw [hw9] at hB; exact hB
  refine W.eq (g2 := F0 m 5 ls [.ref s_0]) rfl ?_
  refine lv_pop hx hb dJ4_append_f7089_5 rfl ?_
  refine lv_aload_n hx hb dJ4_append_f7089_6 rfl (lv_at hl 0 rfl) ?_
  rw [← hQ]
  exact end_a hX hB hA3 rfl (Or.inr ⟨_, rfl⟩) ⟨q1, n2, F3, c4, rfl, (by omega), hf6, rfl⟩ (Nat.le_of_ble_eq_true rfl) (Nat.le_of_ble_eq_true rfl) dJ4_append_f7089_7
end
section
-- 89.mtext
abbrev iA (κ : Kt) (b n : Nat) (f : Nat → Int32) : Nat × va_E := (b, .inl (κ.2.1 4, n, .inl f))
section MTX
variable {p : Program} {l : Launch} {e : Env} {R : Room} {s : State} {m : MethodId} {args : Array Value} {below : List Frame} {meth : Method} {c : Code} {H : Heap} {locs : List Loc} {cells slots : Nat} {Q : State → Prop}
variable {κ : Kt} {cc : ByteArray} {nL : Nat} {own : String} {ret : Option FieldType} {A : Nat → Prop} {w : va_W} {pc : Nat} {ls : Array Slot} {rest : List Value}
theorem ialdN {k0 b n k : Nat} {f : Nat → Int32} (hX : Cx κ p m c cc nL s args own meth ret A) (hB : Bd κ A s w H locs) (he : w[k0]? = some (iA κ b n f)) (hn : n < 2 ^ 31) (hk : k < n) (hdg : decode cc pc = .ok (.iaload, 1))
    (kk : W p l e R s m args below meth c H locs cells slots Q (F0 m (pc + 1) ls (.int (f k) :: rest))) : W p l e R s m args below meth c H locs cells slots Q (F0 m pc ls (.int (nI k) :: .ref b :: rest)) :=
  va_iald (tys := tysK κ) hX.1.1 hX.1.2.1 hX.2.1.1 hB.1 k0 4 he rfl (vp_in_nI hk hn) hdg (by rw [nI_clamp (Nat.lt_trans hk hn)]; exact kk)
theorem iastG {k0 b n : Nat} {f : Nat → Int32} {i x : Int32} (hX : Cx κ p m c cc nL s args own meth ret A) (hB : Bd κ A s w H locs) (he : w[k0]? = some (iA κ b n f)) (hin : vp_in i n) {w1 : va_W} (hw : w.set k0 (iA κ b n (upd f i.toNatClampNeg x)) = w1) (hdg : decode cc pc = .ok (.iastore, 1))
    (kk : ∀ (H1 : Heap) (locs1 : List Loc), Bd κ A s w1 H1 locs1 → W p l e R s m args below meth c H1 locs1 cells slots Q (F0 m (pc + 1) ls rest)) : W p l e R s m args below meth c H locs cells slots Q (F0 m pc ls (.int x :: .int i :: .ref b :: rest)) := by
  subst hw
  exact va_iast (tys := tysK κ) hX.1.1 hX.1.2.1 hX.2.1.1 hB.1 hB.2.1 hB.2.2 k0 4 he rfl hin hdg (fun H1 locs1 h1 h2 h3 => kk H1 locs1 ⟨h1, h2, h3⟩)
end MTX
theorem dec_lt {y : Int32} {n : Nat} (h : ¬ nI n ≤ y) (c : ¬ y < 0) : ¬ nI n ≤ y + -1 := by
  rw [i32_le] at h
  rw [i32_le, i32_pred c]
  omega
theorem vp_in_c {y : Int32} {n : Nat} (c : ¬ y < 0) (h : y.toNatClampNeg < n) : vp_in y n := fun z => z.elim c (fun z => absurd h (Nat.not_lt.mpr z))

set_option maxHeartbeats 4000000 in
set_option maxRecDepth 100000 in
theorem k_X10_text (κ : Kt) (l : Launch) (w : va_W) (a r : Nat → Nat) (f : Nat → Nat → Int64) (q : Nat → Int32) (y : Int32) (hm : mok r f) : CM κ l yX10_text cX10_text 6 (some (.object "java/lang/String")) 6 171 36 28248 [.ref (a 0), .int y] (mw κ a r f q (tb a) w) (fun o w' => ∃ (q1 : Nat) (q' : Nat → Int32), o = some (.ref q1) ∧ (q' 2 = q 2 ∧ q' 0 = q 0 ∧ q' 1 = q 1) ∧ w' = mw κ a r f q' (tb a) w) := by
  refine CM_begin (plainFor_of_name pn_RX10) (Nat.le_of_ble_eq_true rfl) ?_
  intro p e s m args below meth c A Q hX hnm hA3 hQ hB ls hl
  have hx := hX.1.1
  have hb := hX.1.2.1
  have hl : lv_has ls 6 [(0, .ref (a 0)), (1, .int y)] := hl
  refine lv_aload_n hx hb dX10_text_0 rfl (lv_at hl 0 rfl) ?_
  refine lv_iload_n hx hb dX10_text_1 rfl (lv_at hl 1 rfl) ?_
  refine call_S (n := 1) (As := [.int y]) (rest := [.ref (a 0)]) hX hB (o_X10_isTable κ l (mw κ a r f q (tb a) w) y) yk_X10_isTable wm_5_186 wm_5_187 wm_1_6 wm_5_188 ⟨Nat.le_of_ble_eq_true rfl, Nat.le_of_ble_eq_true rfl⟩ ⟨Nat.le_of_ble_eq_true rfl, Nat.le_of_ble_eq_true rfl⟩ rfl hl.1 rfl (Nat.le_of_ble_eq_true rfl) dX10_text_2 (fun o w' H locs hp hB => ?_)
  obtain ⟨z1, rfl, hf2, hw9⟩ := hp
  replace hB : Bd κ A s (mw κ a r f q (tb a) w) H locs := by rw [hw9] at hB; exact hB
  rcases hf2 with rfl | ⟨rfl, hz3a, hz3b⟩
  · refine W.eq (g2 := F0 m 5 ls [.int 0, .ref (a 0)]) rfl ?_
    refine lv_if_ne (tgt := 12) hx hb dX10_text_5 (by decide) (fun c4 => False.elim (by revert c4; decide)) (fun _ => ?_)
    refine lv_iconst (v := 1) hx hb dX10_text_8 (by decide) ?_
    refine lv_goto (tgt := 13) hx hb dX10_text_9 (by decide) ?_
    refine call_V (n := 1) (k0 := 0) (As := [.int 1]) (rest := []) hX hB (o_X10_isThrown__ κ l (mw κ a r f q (tb a) w) 0 (a 0) (a 1) (q 0) (q 1) (q 2) (q 3) 1 (mw0x (a := a) (r := r) (f := f) (q := q) (T := tb a) (w := w) rfl)) ⟨rfl, yk_X10_isThrown__⟩ wm_6_15 wm_6_17 wp_33 wm_1_6 wm_6_18 ⟨Nat.le_of_ble_eq_true rfl, Nat.le_of_ble_eq_true rfl⟩ ⟨Nat.le_of_ble_eq_true rfl, Nat.le_of_ble_eq_true rfl⟩ (mw0x (a := a) (r := r) (f := f) (q := q) (T := tb a) (w := w) rfl) rfl rfl rfl hl.1 rfl (Nat.le_of_ble_eq_true rfl) dX10_text_13 (fun o w' H locs hp hB => ?_)
    obtain ⟨x5, t6, rfl, hf7, hw9⟩ := hp
    replace hB : Bd κ A s (mw κ a r f (va_up q 3 t6) (tb a) w) H locs := by exact Bd_eq (mwQ3x rfl _) (by rw [hw9] at hB; exact hB)
    obtain rfl : x5 = 1 := hf7.trans (by decide)
    refine W.eq (g2 := F0 m 16 ls [.int 1]) rfl ?_
    refine lv_if_eq (tgt := 22) hx hb dX10_text_16 (by decide) (fun c8 => False.elim (by revert c8; decide)) (fun _ => ?_)
    refine ldcT (i := 0) hX hX.2.1.2.2.1.2.1.1 dX10_text_19 ?_
    rw [← hQ]
    exact end_a hX hB hA3 rfl (Or.inr ⟨_, rfl⟩) ⟨(adK κ 0), (va_up q 3 t6), rfl, ⟨rfl, rfl, rfl⟩, rfl⟩ (Nat.le_of_ble_eq_true rfl) (Nat.le_of_ble_eq_true rfl) dX10_text_21
  · refine W.eq (g2 := F0 m 5 ls [.int 1, .ref (a 0)]) rfl ?_
    refine lv_if_ne (tgt := 12) hx hb dX10_text_5 (by decide) (fun _ => ?_) (fun c9 => False.elim (by revert c9; decide))
    refine lv_iconst (v := 0) hx hb dX10_text_12 (by decide) ?_
    refine call_V (n := 1) (k0 := 0) (As := [.int 0]) (rest := []) hX hB (o_X10_isThrown__ κ l (mw κ a r f q (tb a) w) 0 (a 0) (a 1) (q 0) (q 1) (q 2) (q 3) 0 (mw0x (a := a) (r := r) (f := f) (q := q) (T := tb a) (w := w) rfl)) ⟨rfl, yk_X10_isThrown__⟩ wm_6_15 wm_6_17 wp_33 wm_1_6 wm_6_18 ⟨Nat.le_of_ble_eq_true rfl, Nat.le_of_ble_eq_true rfl⟩ ⟨Nat.le_of_ble_eq_true rfl, Nat.le_of_ble_eq_true rfl⟩ (mw0x (a := a) (r := r) (f := f) (q := q) (T := tb a) (w := w) rfl) rfl rfl rfl hl.1 rfl (Nat.le_of_ble_eq_true rfl) dX10_text_13 (fun o w' H locs hp hB => ?_)
    obtain ⟨x10, t11, rfl, hf12, hw9⟩ := hp
    replace hB : Bd κ A s (mw κ a r f (va_up q 3 t11) (tb a) w) H locs := by exact Bd_eq (mwQ3x rfl _) (by rw [hw9] at hB; exact hB)
    obtain rfl : x10 = 0 := hf12.trans (by decide)
    refine W.eq (g2 := F0 m 16 ls [.int 0]) rfl ?_
    refine lv_if_eq (tgt := 22) hx hb dX10_text_16 (by decide) (fun _ => ?_) (fun c13 => False.elim (by revert c13; decide))
    refine newO (fs := [.null, .int 0, .int 0, .int 0]) hX hB (ci := 1) rfl inJ4 tyJ4_ok wm_7_35 wm_3_231 wm_1_18 df1 (Nat.le_of_ble_eq_true rfl) (Nat.le_of_ble_eq_true rfl) dX10_text_22 (fun q14 H hB => ?_)
    refine lv_dup hx hb dX10_text_25 rfl ?_
    refine call_I (n := 0) (As := []) (rest := [.ref q14]) hX hB (k_J4_init_da8c8 κ l (mw κ a r f (va_up q 3 t11) (tb a) w) q14 ) yk_J4_init_da8c8 rfl wm_7_36 wm_3_233 wm_1_18 wm_3_234 ⟨Nat.le_of_ble_eq_true rfl, Nat.le_of_ble_eq_true rfl⟩ ⟨Nat.le_of_ble_eq_true rfl, Nat.le_of_ble_eq_true rfl⟩ rfl hl.1 rfl (Nat.le_of_ble_eq_true rfl) dX10_text_26 (fun o w' H locs hp hB => ?_)
    obtain ⟨b15, rfl, hw9⟩ := hp
    replace hB : Bd κ A s (bA κ b15 16 (fun _ => 0) :: (q14, .inr (1, [.ref b15, .int 0, .int 0, .int (nI 0)])) :: mw κ a r f (va_up q 3 t11) (tb a) w) H locs := by rw [hw9] at hB; exact hB
    refine W.eq (g2 := F0 m 29 ls [.ref q14]) rfl ?_
    refine lv_astore_n (lv' := [(2, .ref q14), (0, .ref (a 0)), (1, .int y)]) hx hb dX10_text_29 rfl hl (by decide) rfl (fun ls hl => ?_)
    refine lv_aload_n hx hb dX10_text_30 rfl (lv_at hl 1 rfl) ?_
    refine gf (k0 := 2) hX hB (mw0x (a := a) (r := r) (f := f) (q := (va_up q 3 t11)) (T := tb a) (w := w) rfl) rfl in10 0 (by decide) wm_5_162 rfl rfl dX10_text_31 ?_
    refine lv_iload_n hx hb dX10_text_34 rfl (lv_at hl 2 rfl) ?_
    refine aaldM (k0 := 3) hX hB (mw1 (a := a) (r := r) (f := f) (q := (va_up q 3 t11)) (T := tb a) (w := w)) (vp_in_mk (by assumption) (by assumption)) rfl dX10_text_35 ?_
    have hb16 := mok_r hm y.toNatClampNeg (by omega)
    refine lv_astore_n (lv' := [(3, .ref (a (2 + 2 * y.toNatClampNeg))), (2, .ref q14), (0, .ref (a 0)), (1, .int y)]) hx hb dX10_text_36 rfl hl (by decide) rfl (fun ls hl => ?_)
    refine lv_iconst (v := 0) hx hb dX10_text_37 (by decide) ?_
    refine lv_istore (lv' := [(4, .int 0), (3, .ref (a (2 + 2 * y.toNatClampNeg))), (2, .ref q14), (0, .ref (a 0)), (1, .int y)]) hx hb dX10_text_38 hl (by decide) rfl (fun ls hl => ?_)
    have lp40 : ∀ (nn : Nat) (y4_40 : Nat) (Pb_40 : Nat) (Pc_40 : Nat) (Pn_40 : Nat) (bs_40 : Nat → Int32) (H : Heap) (locs : List Loc), (y4_40 ≤ (r (2 * y.toNatClampNeg))) → (Pc_40 ≤ Pn_40 ∧ Pn_40 ≤ 1000 ∧ Pn_40 ≤ 2 * Pc_40 + 16 ∧ Pc_40 ≤ y4_40 * 48) → (sb_Fit bs_40) → (r (2 * y.toNatClampNeg)) + 1 - y4_40 < nn → Bd κ A s (bA κ Pb_40 Pn_40 bs_40 :: (q14, .inr (1, [.ref Pb_40, .int 0, .int 0, .int (nI Pc_40)])) :: mw κ a r f (va_up q 3 t11) (tb a) w) H locs → ∀ ls : Array Slot, lv_has ls 6 [(4, .int (nI y4_40)), (3, .ref (a (2 + 2 * y.toNatClampNeg))), (2, .ref q14), (0, .ref (a 0)), (1, .int y)] → W p l e (Rm 6 171 36 28248) s m args below meth c H locs (2 + y4_40 * 8) (1004 + y4_40 * 6560) Q (F0 m 40 ls []) := by
      intro nn
      induction nn with
      | zero => intro y4_40 Pb_40 Pc_40 Pn_40 bs_40 H locs hn4_40 hsb40 hfb40 hμ; exact absurd hμ (Nat.not_lt_zero _)
      | succ nn ih40 =>
        intro y4_40 Pb_40 Pc_40 Pn_40 bs_40 H locs hn4_40 hsb40 hfb40 hμ40 hB ls hl
        refine lv_iload hx hb dX10_text_40 (lv_at hl 0 rfl) ?_
        refine lv_aload_n hx hb dX10_text_42 rfl (lv_at hl 1 rfl) ?_
        refine gf (k0 := 2 + 2 * y.toNatClampNeg + 2) hX hB (mwG (i := y.toNatClampNeg) (a := a) (r := r) (f := f) (q := (va_up q 3 t11)) (T := tb a) (w := w) (by omega)) rfl in7 0 (by decide) wm_5_148 rfl rfl dX10_text_43 ?_
        refine lv_icmp_ge (tgt := 111) hx hb dX10_text_46 (by decide) (fun c208 => ?_) (fun c208 => ?_)
        · rw [nleP (a := r (2 * y.toNatClampNeg)) (b := y4_40) (by omega) (by omega)] at c208
          refine W.widen (k := 34) (n := 27244) (by omega) (by omega) ?_
          refine lv_aload_n hx hb dX10_text_111 rfl (lv_at hl 2 rfl) ?_
          refine call_V (n := 0) (k0 := 1) (As := []) (rest := []) hX hB (k_J4_toString_0e30d κ l (mw κ a r f (va_up q 3 t11) (tb a) w) q14 Pb_40 Pn_40 Pc_40 0 bs_40 (by omega) (by omega) hfb40) ⟨rfl, yk_J4_toString_0e30d⟩ wm_7_67 wm_4_147 wm_4_148 wm_1_18 wm_4_149 ⟨Nat.le_of_ble_eq_true rfl, Nat.le_of_ble_eq_true rfl⟩ ⟨Nat.le_of_ble_eq_true rfl, Nat.le_of_ble_eq_true rfl⟩ rfl rfl rfl rfl hl.1 rfl (Nat.le_of_ble_eq_true rfl) dX10_text_112 (fun o w' H locs hp hB => ?_)
          obtain ⟨q209, rfl, hw9⟩ := hp
          replace hB : Bd κ A s (bA κ Pb_40 Pn_40 bs_40 :: (q14, .inr (1, [.ref Pb_40, .int 0, .int 0, .int (nI Pc_40)])) :: mw κ a r f (va_up q 3 t11) (tb a) w) H locs := by rw [hw9] at hB; exact hB
          refine W.eq (g2 := F0 m 115 ls [.ref q209]) rfl ?_
          replace hB : Bd κ A s (mw κ a r f (va_up q 3 t11) (tb a) w) H locs := Bd_tail (Bd_tail hB)
          rw [← hQ]
          exact end_a hX hB hA3 rfl (Or.inr ⟨_, rfl⟩) ⟨q209, (va_up q 3 t11), rfl, ⟨rfl, rfl, rfl⟩, rfl⟩ (Nat.le_of_ble_eq_true rfl) (Nat.le_of_ble_eq_true rfl) dX10_text_115
        · rw [nleP (a := r (2 * y.toNatClampNeg)) (b := y4_40) (by omega) (by omega)] at c208
          refine lv_iconst (v := 0) hx hb dX10_text_49 (by decide) ?_
          refine lv_istore (lv' := [(5, .int 0), (4, .int (nI y4_40)), (3, .ref (a (2 + 2 * y.toNatClampNeg))), (2, .ref q14), (0, .ref (a 0)), (1, .int y)]) hx hb dX10_text_50 hl (by decide) rfl (fun ls hl => ?_)
          have lp52 : ∀ (nn : Nat) (y5_52 : Nat) (Pb_52 : Nat) (Pc_52 : Nat) (Pn_52 : Nat) (bs_52 : Nat → Int32) (H : Heap) (locs : List Loc), (y5_52 ≤ (r (2 * y.toNatClampNeg + 1))) → (Pc_52 ≤ Pn_52 ∧ Pn_52 ≤ 1000 ∧ Pn_52 ≤ 2 * Pc_52 + 16 ∧ Pc_52 ≤ y4_40 * 48 + y5_52 * 12) → (sb_Fit bs_52) → (r (2 * y.toNatClampNeg + 1)) + 1 - y5_52 < nn → Bd κ A s (bA κ Pb_52 Pn_52 bs_52 :: (q14, .inr (1, [.ref Pb_52, .int 0, .int 0, .int (nI Pc_52)])) :: mw κ a r f (va_up q 3 t11) (tb a) w) H locs → ∀ ls : Array Slot, lv_has ls 6 [(5, .int (nI y5_52)), (4, .int (nI y4_40)), (3, .ref (a (2 + 2 * y.toNatClampNeg))), (2, .ref q14), (0, .ref (a 0)), (1, .int y)] → W p l e (Rm 6 171 36 28248) s m args below meth c H locs (2 + y4_40 * 8 + y5_52 * 2) (1004 + y4_40 * 6560 + y5_52 * 1640) Q (F0 m 52 ls []) := by
            intro nn
            induction nn with
            | zero => intro y5_52 Pb_52 Pc_52 Pn_52 bs_52 H locs hn5_52 hsb52 hfb52 hμ; exact absurd hμ (Nat.not_lt_zero _)
            | succ nn ih52 =>
              intro y5_52 Pb_52 Pc_52 Pn_52 bs_52 H locs hn5_52 hsb52 hfb52 hμ52 hB ls hl
              refine lv_iload hx hb dX10_text_52 (lv_at hl 0 rfl) ?_
              refine lv_aload_n hx hb dX10_text_54 rfl (lv_at hl 2 rfl) ?_
              refine gf (k0 := 2 + 2 * y.toNatClampNeg + 2) hX hB (mwG (i := y.toNatClampNeg) (a := a) (r := r) (f := f) (q := (va_up q 3 t11)) (T := tb a) (w := w) (by omega)) rfl in7 1 (by decide) wm_5_152 rfl rfl dX10_text_55 ?_
              refine lv_icmp_ge (tgt := 105) hx hb dX10_text_58 (by decide) (fun c281 => ?_) (fun c281 => ?_)
              · rw [nleP (a := r (2 * y.toNatClampNeg + 1)) (b := y5_52) (by omega) (by omega)] at c281
                refine W.widen (k := 10 + y4_40 * 8) (n := 7564 + y4_40 * 6560) (by omega) (by omega) ?_
                refine lv_iinc (v := nI (y4_40 + 1)) (lv' := [(4, .int (nI (y4_40 + 1))), (5, .int (nI y5_52)), (3, .ref (a (2 + 2 * y.toNatClampNeg))), (2, .ref q14), (0, .ref (a 0)), (1, .int y)]) hx hb dX10_text_105 hl (k := 1) rfl (nI_add y4_40 1) (by decide) rfl (fun ls hl => ?_)
                refine lv_goto (tgt := 40) hx hb dX10_text_108 (by decide) ?_
                refine W.widen (k := 2 + (y4_40 + 1) * 8) (n := 1004 + (y4_40 + 1) * 6560) (by omega) (by omega) ?_
                exact ih40 (y4_40 + 1) Pb_52 Pc_52 Pn_52 bs_52 _ _ (by omega) (⟨by omega, by omega, by omega, by omega⟩) hfb52 (by omega) hB _ (lv_sub hl [0, 2, 3, 4, 5] rfl)
              · rw [nleP (a := r (2 * y.toNatClampNeg + 1)) (b := y5_52) (by omega) (by omega)] at c281
                refine lv_aload_n hx hb dX10_text_61 rfl (lv_at hl 3 rfl) ?_
                refine lv_iload hx hb dX10_text_62 (lv_at hl 0 rfl) ?_
                refine lv_if_le (tgt := 72) hx hb dX10_text_64 (by decide) (fun c282 => ?_) (fun c282 => ?_)
                · replace c282 : nI y5_52 ≤ nI 0 := c282
                  rw [nleP (by omega) (by omega)] at c282
                  refine lv_iload hx hb dX10_text_72 (lv_at hl 1 rfl) ?_
                  refine lv_if_le (tgt := 82) hx hb dX10_text_74 (by decide) (fun c283 => ?_) (fun c283 => ?_)
                  · replace c283 : nI y4_40 ≤ nI 0 := c283
                    rw [nleP (by omega) (by omega)] at c283
                    refine ldcT (i := 0) hX hX.2.1.2.2.1.2.1.1 dX10_text_82 ?_
                    refine call_V (n := 1) (k0 := 1) (As := [.ref (adK κ 0)]) (rest := []) hX hB (k_J4_append_15ec4 κ l (mw κ a r f (va_up q 3 t11) (tb a) w) 0 q14 Pb_52 Pn_52 Pc_52 0 bs_52 (by omega) (by omega) hfb52 (by omega) (by omega) (by omega)) ⟨rfl, yk_J4_append_15ec4⟩ wm_7_39 wm_4_188 wm_4_189 wm_1_18 wm_4_190 ⟨Nat.le_of_ble_eq_true rfl, Nat.le_of_ble_eq_true rfl⟩ ⟨by dsimp only [Rm]; omega, by dsimp only [Rm]; omega⟩ rfl rfl rfl rfl hl.1 rfl (Nat.le_of_ble_eq_true rfl) dX10_text_84 (fun o w' H locs hp hB => ?_)
                    obtain ⟨q284, n285, F286, c287, rfl, hf288, hf289, hw9⟩ := hp
                    replace hB : Bd κ A s (bA κ q284 n285 F286 :: (q14, .inr (1, [.ref q284, .int 0, .int 0, .int (nI c287)])) :: mw κ a r f (va_up q 3 t11) (tb a) w) H locs := by rw [hw9] at hB; exact hB
                    have hsl290 := sL_le (i := 0) (by omega)
                    refine W.eq (g2 := F0 m 87 ls [.ref q14]) rfl ?_
                    refine lv_aload_n hx hb dX10_text_87 rfl (lv_at hl 2 rfl) ?_
                    refine lv_iload hx hb dX10_text_88 (lv_at hl 1 rfl) ?_
                    refine lv_iload hx hb dX10_text_90 (lv_at hl 0 rfl) ?_
                    refine call_V (n := 2) (k0 := (2 + 2 * y.toNatClampNeg + 2)) (As := [.int (nI y4_40), .int (nI y5_52)]) (rest := [.ref q14]) hX hB (k_X7_at κ l (bA κ q284 n285 F286 :: (q14, .inr (1, [.ref q284, .int 0, .int 0, .int (nI c287)])) :: mw κ a r f (va_up q 3 t11) (tb a) w) (2 + 2 * y.toNatClampNeg + 2) (3 + 2 * y.toNatClampNeg + 2) (a (2 + 2 * y.toNatClampNeg)) (a (3 + 2 * y.toNatClampNeg)) (r (2 * y.toNatClampNeg)) (r (2 * y.toNatClampNeg + 1)) (f y.toNatClampNeg) (nI y4_40) y4_40 (nI y5_52) y5_52 (mwG (i := y.toNatClampNeg) (a := a) (r := r) (f := f) (q := (va_up q 3 t11)) (T := tb a) (w := w) (by omega)) (mwA (i := y.toNatClampNeg) (a := a) (r := r) (f := f) (q := (va_up q 3 t11)) (T := tb a) (w := w) (by omega)) (mok_shp (i := y.toNatClampNeg) hm (by omega)) rfl rfl (by omega)) ⟨rfl, yk_X7_at⟩ wm_5_237 wm_5_238 wm_5_239 wm_1_7 wm_6_0 ⟨Nat.le_of_ble_eq_true rfl, Nat.le_of_ble_eq_true rfl⟩ ⟨by dsimp only [Rm]; omega, by dsimp only [Rm]; omega⟩ (mwG (i := y.toNatClampNeg) (a := a) (r := r) (f := f) (q := (va_up q 3 t11)) (T := tb a) (w := w) (by omega)) rfl rfl rfl hl.1 rfl (Nat.le_of_ble_eq_true rfl) dX10_text_92 (fun o w' H locs hp hB => ?_)
                    obtain ⟨rfl, hw9⟩ := hp
                    replace hB : Bd κ A s (bA κ q284 n285 F286 :: (q14, .inr (1, [.ref q284, .int 0, .int 0, .int (nI c287)])) :: mw κ a r f (va_up q 3 t11) (tb a) w) H locs := by rw [hw9] at hB; exact hB
                    refine W.eq (g2 := F0 m 95 ls [.long ((f y.toNatClampNeg) (y4_40 * 5 + y5_52)), .ref q14]) rfl ?_
                    refine call_V (n := 1) (k0 := 1) (As := [.long ((f y.toNatClampNeg) (y4_40 * 5 + y5_52))]) (rest := []) hX hB (k_J4_append_f7089 κ l (mw κ a r f (va_up q 3 t11) (tb a) w) q14 q284 n285 c287 0 F286 ((f y.toNatClampNeg) (y4_40 * 5 + y5_52)) (by omega) (by omega) hf289 (by omega) (by omega) ((hm _ (by omega)).2 _ (by omega))) ⟨rfl, yk_J4_append_f7089⟩ wm_7_40 wm_7_41 wm_7_42 wm_1_18 wm_7_43 ⟨Nat.le_of_ble_eq_true rfl, Nat.le_of_ble_eq_true rfl⟩ ⟨by dsimp only [Rm]; omega, by dsimp only [Rm]; omega⟩ rfl rfl rfl rfl hl.1 rfl (Nat.le_of_ble_eq_true rfl) dX10_text_95 (fun o w' H locs hp hB => ?_)
                    obtain ⟨q291, n292, F293, c294, rfl, hf295, hf296, hw9⟩ := hp
                    replace hB : Bd κ A s (bA κ q291 n292 F293 :: (q14, .inr (1, [.ref q291, .int 0, .int 0, .int (nI c294)])) :: mw κ a r f (va_up q 3 t11) (tb a) w) H locs := by rw [hw9] at hB; exact hB
                    refine W.eq (g2 := F0 m 98 ls [.ref q14]) rfl ?_
                    refine lv_pop hx hb dX10_text_98 rfl ?_
                    refine lv_iinc (v := nI (y5_52 + 1)) (lv' := [(5, .int (nI (y5_52 + 1))), (4, .int (nI y4_40)), (3, .ref (a (2 + 2 * y.toNatClampNeg))), (2, .ref q14), (0, .ref (a 0)), (1, .int y)]) hx hb dX10_text_99 hl (k := 0) rfl (nI_add y5_52 1) (by decide) rfl (fun ls hl => ?_)
                    refine lv_goto (tgt := 52) hx hb dX10_text_102 (by decide) ?_
                    refine W.widen (k := 2 + y4_40 * 8 + (y5_52 + 1) * 2) (n := 1004 + y4_40 * 6560 + (y5_52 + 1) * 1640) (by omega) (by omega) ?_
                    exact ih52 (y5_52 + 1) q291 c294 n292 F293 _ _ (by omega) (⟨by omega, by omega, by omega, by omega⟩) hf296 (by omega) hB _ hl
                  · replace c283 : ¬ nI y4_40 ≤ nI 0 := c283
                    rw [nleP (by omega) (by omega)] at c283
                    refine ldcT (i := 2) hX hX.2.1.2.2.1.2.1.2.2.1 dX10_text_77 ?_
                    refine lv_goto (tgt := 84) hx hb dX10_text_79 (by decide) ?_
                    refine call_V (n := 1) (k0 := 1) (As := [.ref (adK κ 2)]) (rest := []) hX hB (k_J4_append_15ec4 κ l (mw κ a r f (va_up q 3 t11) (tb a) w) 2 q14 Pb_52 Pn_52 Pc_52 0 bs_52 (by omega) (by omega) hfb52 (by omega) (by omega) (by omega)) ⟨rfl, yk_J4_append_15ec4⟩ wm_7_39 wm_4_188 wm_4_189 wm_1_18 wm_4_190 ⟨Nat.le_of_ble_eq_true rfl, Nat.le_of_ble_eq_true rfl⟩ ⟨by dsimp only [Rm]; omega, by dsimp only [Rm]; omega⟩ rfl rfl rfl rfl hl.1 rfl (Nat.le_of_ble_eq_true rfl) dX10_text_84 (fun o w' H locs hp hB => ?_)
                    obtain ⟨q297, n298, F299, c300, rfl, hf301, hf302, hw9⟩ := hp
                    replace hB : Bd κ A s (bA κ q297 n298 F299 :: (q14, .inr (1, [.ref q297, .int 0, .int 0, .int (nI c300)])) :: mw κ a r f (va_up q 3 t11) (tb a) w) H locs := by rw [hw9] at hB; exact hB
                    have hsl303 := sL_le (i := 2) (by omega)
                    refine W.eq (g2 := F0 m 87 ls [.ref q14]) rfl ?_
                    refine lv_aload_n hx hb dX10_text_87 rfl (lv_at hl 2 rfl) ?_
                    refine lv_iload hx hb dX10_text_88 (lv_at hl 1 rfl) ?_
                    refine lv_iload hx hb dX10_text_90 (lv_at hl 0 rfl) ?_
                    refine call_V (n := 2) (k0 := (2 + 2 * y.toNatClampNeg + 2)) (As := [.int (nI y4_40), .int (nI y5_52)]) (rest := [.ref q14]) hX hB (k_X7_at κ l (bA κ q297 n298 F299 :: (q14, .inr (1, [.ref q297, .int 0, .int 0, .int (nI c300)])) :: mw κ a r f (va_up q 3 t11) (tb a) w) (2 + 2 * y.toNatClampNeg + 2) (3 + 2 * y.toNatClampNeg + 2) (a (2 + 2 * y.toNatClampNeg)) (a (3 + 2 * y.toNatClampNeg)) (r (2 * y.toNatClampNeg)) (r (2 * y.toNatClampNeg + 1)) (f y.toNatClampNeg) (nI y4_40) y4_40 (nI y5_52) y5_52 (mwG (i := y.toNatClampNeg) (a := a) (r := r) (f := f) (q := (va_up q 3 t11)) (T := tb a) (w := w) (by omega)) (mwA (i := y.toNatClampNeg) (a := a) (r := r) (f := f) (q := (va_up q 3 t11)) (T := tb a) (w := w) (by omega)) (mok_shp (i := y.toNatClampNeg) hm (by omega)) rfl rfl (by omega)) ⟨rfl, yk_X7_at⟩ wm_5_237 wm_5_238 wm_5_239 wm_1_7 wm_6_0 ⟨Nat.le_of_ble_eq_true rfl, Nat.le_of_ble_eq_true rfl⟩ ⟨by dsimp only [Rm]; omega, by dsimp only [Rm]; omega⟩ (mwG (i := y.toNatClampNeg) (a := a) (r := r) (f := f) (q := (va_up q 3 t11)) (T := tb a) (w := w) (by omega)) rfl rfl rfl hl.1 rfl (Nat.le_of_ble_eq_true rfl) dX10_text_92 (fun o w' H locs hp hB => ?_)
                    obtain ⟨rfl, hw9⟩ := hp
                    replace hB : Bd κ A s (bA κ q297 n298 F299 :: (q14, .inr (1, [.ref q297, .int 0, .int 0, .int (nI c300)])) :: mw κ a r f (va_up q 3 t11) (tb a) w) H locs := by rw [hw9] at hB; exact hB
                    refine W.eq (g2 := F0 m 95 ls [.long ((f y.toNatClampNeg) (y4_40 * 5 + y5_52)), .ref q14]) rfl ?_
                    refine call_V (n := 1) (k0 := 1) (As := [.long ((f y.toNatClampNeg) (y4_40 * 5 + y5_52))]) (rest := []) hX hB (k_J4_append_f7089 κ l (mw κ a r f (va_up q 3 t11) (tb a) w) q14 q297 n298 c300 0 F299 ((f y.toNatClampNeg) (y4_40 * 5 + y5_52)) (by omega) (by omega) hf302 (by omega) (by omega) ((hm _ (by omega)).2 _ (by omega))) ⟨rfl, yk_J4_append_f7089⟩ wm_7_40 wm_7_41 wm_7_42 wm_1_18 wm_7_43 ⟨Nat.le_of_ble_eq_true rfl, Nat.le_of_ble_eq_true rfl⟩ ⟨by dsimp only [Rm]; omega, by dsimp only [Rm]; omega⟩ rfl rfl rfl rfl hl.1 rfl (Nat.le_of_ble_eq_true rfl) dX10_text_95 (fun o w' H locs hp hB => ?_)
                    obtain ⟨q304, n305, F306, c307, rfl, hf308, hf309, hw9⟩ := hp
                    replace hB : Bd κ A s (bA κ q304 n305 F306 :: (q14, .inr (1, [.ref q304, .int 0, .int 0, .int (nI c307)])) :: mw κ a r f (va_up q 3 t11) (tb a) w) H locs := by rw [hw9] at hB; exact hB
                    refine W.eq (g2 := F0 m 98 ls [.ref q14]) rfl ?_
                    refine lv_pop hx hb dX10_text_98 rfl ?_
                    refine lv_iinc (v := nI (y5_52 + 1)) (lv' := [(5, .int (nI (y5_52 + 1))), (4, .int (nI y4_40)), (3, .ref (a (2 + 2 * y.toNatClampNeg))), (2, .ref q14), (0, .ref (a 0)), (1, .int y)]) hx hb dX10_text_99 hl (k := 0) rfl (nI_add y5_52 1) (by decide) rfl (fun ls hl => ?_)
                    refine lv_goto (tgt := 52) hx hb dX10_text_102 (by decide) ?_
                    refine W.widen (k := 2 + y4_40 * 8 + (y5_52 + 1) * 2) (n := 1004 + y4_40 * 6560 + (y5_52 + 1) * 1640) (by omega) (by omega) ?_
                    exact ih52 (y5_52 + 1) q304 c307 n305 F306 _ _ (by omega) (⟨by omega, by omega, by omega, by omega⟩) hf309 (by omega) hB _ hl
                · replace c282 : ¬ nI y5_52 ≤ nI 0 := c282
                  rw [nleP (by omega) (by omega)] at c282
                  refine ldcT (i := 1) hX hX.2.1.2.2.1.2.1.2.1 dX10_text_67 ?_
                  refine lv_goto (tgt := 84) hx hb dX10_text_69 (by decide) ?_
                  refine call_V (n := 1) (k0 := 1) (As := [.ref (adK κ 1)]) (rest := []) hX hB (k_J4_append_15ec4 κ l (mw κ a r f (va_up q 3 t11) (tb a) w) 1 q14 Pb_52 Pn_52 Pc_52 0 bs_52 (by omega) (by omega) hfb52 (by omega) (by omega) (by omega)) ⟨rfl, yk_J4_append_15ec4⟩ wm_7_39 wm_4_188 wm_4_189 wm_1_18 wm_4_190 ⟨Nat.le_of_ble_eq_true rfl, Nat.le_of_ble_eq_true rfl⟩ ⟨by dsimp only [Rm]; omega, by dsimp only [Rm]; omega⟩ rfl rfl rfl rfl hl.1 rfl (Nat.le_of_ble_eq_true rfl) dX10_text_84 (fun o w' H locs hp hB => ?_)
                  obtain ⟨q310, n311, F312, c313, rfl, hf314, hf315, hw9⟩ := hp
                  replace hB : Bd κ A s (bA κ q310 n311 F312 :: (q14, .inr (1, [.ref q310, .int 0, .int 0, .int (nI c313)])) :: mw κ a r f (va_up q 3 t11) (tb a) w) H locs := by rw [hw9] at hB; exact hB
                  have hsl316 := sL_le (i := 1) (by omega)
                  refine W.eq (g2 := F0 m 87 ls [.ref q14]) rfl ?_
                  refine lv_aload_n hx hb dX10_text_87 rfl (lv_at hl 2 rfl) ?_
                  refine lv_iload hx hb dX10_text_88 (lv_at hl 1 rfl) ?_
                  refine lv_iload hx hb dX10_text_90 (lv_at hl 0 rfl) ?_
                  refine call_V (n := 2) (k0 := (2 + 2 * y.toNatClampNeg + 2)) (As := [.int (nI y4_40), .int (nI y5_52)]) (rest := [.ref q14]) hX hB (k_X7_at κ l (bA κ q310 n311 F312 :: (q14, .inr (1, [.ref q310, .int 0, .int 0, .int (nI c313)])) :: mw κ a r f (va_up q 3 t11) (tb a) w) (2 + 2 * y.toNatClampNeg + 2) (3 + 2 * y.toNatClampNeg + 2) (a (2 + 2 * y.toNatClampNeg)) (a (3 + 2 * y.toNatClampNeg)) (r (2 * y.toNatClampNeg)) (r (2 * y.toNatClampNeg + 1)) (f y.toNatClampNeg) (nI y4_40) y4_40 (nI y5_52) y5_52 (mwG (i := y.toNatClampNeg) (a := a) (r := r) (f := f) (q := (va_up q 3 t11)) (T := tb a) (w := w) (by omega)) (mwA (i := y.toNatClampNeg) (a := a) (r := r) (f := f) (q := (va_up q 3 t11)) (T := tb a) (w := w) (by omega)) (mok_shp (i := y.toNatClampNeg) hm (by omega)) rfl rfl (by omega)) ⟨rfl, yk_X7_at⟩ wm_5_237 wm_5_238 wm_5_239 wm_1_7 wm_6_0 ⟨Nat.le_of_ble_eq_true rfl, Nat.le_of_ble_eq_true rfl⟩ ⟨by dsimp only [Rm]; omega, by dsimp only [Rm]; omega⟩ (mwG (i := y.toNatClampNeg) (a := a) (r := r) (f := f) (q := (va_up q 3 t11)) (T := tb a) (w := w) (by omega)) rfl rfl rfl hl.1 rfl (Nat.le_of_ble_eq_true rfl) dX10_text_92 (fun o w' H locs hp hB => ?_)
                  obtain ⟨rfl, hw9⟩ := hp
                  replace hB : Bd κ A s (bA κ q310 n311 F312 :: (q14, .inr (1, [.ref q310, .int 0, .int 0, .int (nI c313)])) :: mw κ a r f (va_up q 3 t11) (tb a) w) H locs := by rw [hw9] at hB; exact hB
                  refine W.eq (g2 := F0 m 95 ls [.long ((f y.toNatClampNeg) (y4_40 * 5 + y5_52)), .ref q14]) rfl ?_
                  refine call_V (n := 1) (k0 := 1) (As := [.long ((f y.toNatClampNeg) (y4_40 * 5 + y5_52))]) (rest := []) hX hB (k_J4_append_f7089 κ l (mw κ a r f (va_up q 3 t11) (tb a) w) q14 q310 n311 c313 0 F312 ((f y.toNatClampNeg) (y4_40 * 5 + y5_52)) (by omega) (by omega) hf315 (by omega) (by omega) ((hm _ (by omega)).2 _ (by omega))) ⟨rfl, yk_J4_append_f7089⟩ wm_7_40 wm_7_41 wm_7_42 wm_1_18 wm_7_43 ⟨Nat.le_of_ble_eq_true rfl, Nat.le_of_ble_eq_true rfl⟩ ⟨by dsimp only [Rm]; omega, by dsimp only [Rm]; omega⟩ rfl rfl rfl rfl hl.1 rfl (Nat.le_of_ble_eq_true rfl) dX10_text_95 (fun o w' H locs hp hB => ?_)
                  obtain ⟨q317, n318, F319, c320, rfl, hf321, hf322, hw9⟩ := hp
                  replace hB : Bd κ A s (bA κ q317 n318 F319 :: (q14, .inr (1, [.ref q317, .int 0, .int 0, .int (nI c320)])) :: mw κ a r f (va_up q 3 t11) (tb a) w) H locs := by rw [hw9] at hB; exact hB
                  refine W.eq (g2 := F0 m 98 ls [.ref q14]) rfl ?_
                  refine lv_pop hx hb dX10_text_98 rfl ?_
                  refine lv_iinc (v := nI (y5_52 + 1)) (lv' := [(5, .int (nI (y5_52 + 1))), (4, .int (nI y4_40)), (3, .ref (a (2 + 2 * y.toNatClampNeg))), (2, .ref q14), (0, .ref (a 0)), (1, .int y)]) hx hb dX10_text_99 hl (k := 0) rfl (nI_add y5_52 1) (by decide) rfl (fun ls hl => ?_)
                  refine lv_goto (tgt := 52) hx hb dX10_text_102 (by decide) ?_
                  refine W.widen (k := 2 + y4_40 * 8 + (y5_52 + 1) * 2) (n := 1004 + y4_40 * 6560 + (y5_52 + 1) * 1640) (by omega) (by omega) ?_
                  exact ih52 (y5_52 + 1) q317 c320 n318 F319 _ _ (by omega) (⟨by omega, by omega, by omega, by omega⟩) hf322 (by omega) hB _ hl
          refine W.widen (k := 2 + y4_40 * 8 + 0 * 2) (n := 1004 + y4_40 * 6560 + 0 * 1640) (by omega) (by omega) ?_
          exact lp52 _ 0 Pb_40 Pc_40 Pn_40 bs_40 _ _ (by omega) (⟨by omega, by omega, by omega, by omega⟩) hfb40 (Nat.lt_succ_self _) hB _ hl
    refine W.widen (k := 2 + 0 * 8) (n := 1004 + 0 * 6560) (by omega) (by omega) ?_
    exact lp40 _ 0 b15 0 16 (fun _ => 0) _ _ (by omega) (⟨by omega, by omega, by omega, by omega⟩) sb_fit0 (Nat.lt_succ_self _) hB _ hl
set_option maxHeartbeats 4000000 in
set_option maxRecDepth 100000 in
theorem k_X10_rest (κ : Kt) (l : Launch) (w : va_W) (a r : Nat → Nat) (f : Nat → Nat → Int64) (q : Nat → Int32) (y : Int32) (z : Int32) (hm : mok r f) : CM κ l yX10_rest cX10_rest 9 (some (.object "java/lang/String")) 8 209 18 8622 [.ref (a 0), .int y, .int z] (mw κ a r f q (tb a) w) (fun o w' => ∃ (q1 : Nat) (q' : Nat → Int32), o = some (.ref q1) ∧ (q' 2 = q 2 ∧ q' 0 = q 0 ∧ q' 1 = q 1) ∧ w' = mw κ a r f q' (tb a) w) := by
  refine CM_begin (plainFor_of_name pn_RX10) (Nat.le_of_ble_eq_true rfl) ?_
  intro p e s m args below meth c A Q hX hnm hA3 hQ hB ls hl
  have hx := hX.1.1
  have hb := hX.1.2.1
  have hl : lv_has ls 9 [(0, .ref (a 0)), (1, .int y), (2, .int z)] := hl
  refine lv_aload_n hx hb dX10_rest_0 rfl (lv_at hl 0 rfl) ?_
  refine lv_iload_n hx hb dX10_rest_1 rfl (lv_at hl 1 rfl) ?_
  refine call_S (n := 1) (As := [.int y]) (rest := [.ref (a 0)]) hX hB (o_X10_isTable κ l (mw κ a r f q (tb a) w) y) yk_X10_isTable wm_5_186 wm_5_187 wm_1_6 wm_5_188 ⟨Nat.le_of_ble_eq_true rfl, Nat.le_of_ble_eq_true rfl⟩ ⟨Nat.le_of_ble_eq_true rfl, Nat.le_of_ble_eq_true rfl⟩ rfl hl.1 rfl (Nat.le_of_ble_eq_true rfl) dX10_rest_2 (fun o w' H locs hp hB => ?_)
  obtain ⟨z1, rfl, hf2, hw9⟩ := hp
  replace hB : Bd κ A s (mw κ a r f q (tb a) w) H locs := by rw [hw9] at hB; exact hB
  rcases hf2 with rfl | ⟨rfl, hz3a, hz3b⟩
  · refine W.eq (g2 := F0 m 5 ls [.int 0, .ref (a 0)]) rfl ?_
    refine lv_if_ne (tgt := 12) hx hb dX10_rest_5 (by decide) (fun c4 => False.elim (by revert c4; decide)) (fun _ => ?_)
    refine lv_iconst (v := 1) hx hb dX10_rest_8 (by decide) ?_
    refine lv_goto (tgt := 13) hx hb dX10_rest_9 (by decide) ?_
    refine call_V (n := 1) (k0 := 0) (As := [.int 1]) (rest := []) hX hB (o_X10_isThrown__ κ l (mw κ a r f q (tb a) w) 0 (a 0) (a 1) (q 0) (q 1) (q 2) (q 3) 1 (mw0x (a := a) (r := r) (f := f) (q := q) (T := tb a) (w := w) rfl)) ⟨rfl, yk_X10_isThrown__⟩ wm_6_15 wm_6_17 wp_33 wm_1_6 wm_6_18 ⟨Nat.le_of_ble_eq_true rfl, Nat.le_of_ble_eq_true rfl⟩ ⟨Nat.le_of_ble_eq_true rfl, Nat.le_of_ble_eq_true rfl⟩ (mw0x (a := a) (r := r) (f := f) (q := q) (T := tb a) (w := w) rfl) rfl rfl rfl hl.1 rfl (Nat.le_of_ble_eq_true rfl) dX10_rest_13 (fun o w' H locs hp hB => ?_)
    obtain ⟨x5, t6, rfl, hf7, hw9⟩ := hp
    replace hB : Bd κ A s (mw κ a r f (va_up q 3 t6) (tb a) w) H locs := by exact Bd_eq (mwQ3x rfl _) (by rw [hw9] at hB; exact hB)
    obtain rfl : x5 = 1 := hf7.trans (by decide)
    refine W.eq (g2 := F0 m 16 ls [.int 1]) rfl ?_
    refine lv_if_eq (tgt := 22) hx hb dX10_rest_16 (by decide) (fun c8 => False.elim (by revert c8; decide)) (fun _ => ?_)
    refine ldcT (i := 0) hX hX.2.1.2.2.1.2.1.1 dX10_rest_19 ?_
    rw [← hQ]
    exact end_a hX hB hA3 rfl (Or.inr ⟨_, rfl⟩) ⟨(adK κ 0), (va_up q 3 t6), rfl, ⟨rfl, rfl, rfl⟩, rfl⟩ (Nat.le_of_ble_eq_true rfl) (Nat.le_of_ble_eq_true rfl) dX10_rest_21
  · refine W.eq (g2 := F0 m 5 ls [.int 1, .ref (a 0)]) rfl ?_
    refine lv_if_ne (tgt := 12) hx hb dX10_rest_5 (by decide) (fun _ => ?_) (fun c9 => False.elim (by revert c9; decide))
    refine lv_iconst (v := 0) hx hb dX10_rest_12 (by decide) ?_
    refine call_V (n := 1) (k0 := 0) (As := [.int 0]) (rest := []) hX hB (o_X10_isThrown__ κ l (mw κ a r f q (tb a) w) 0 (a 0) (a 1) (q 0) (q 1) (q 2) (q 3) 0 (mw0x (a := a) (r := r) (f := f) (q := q) (T := tb a) (w := w) rfl)) ⟨rfl, yk_X10_isThrown__⟩ wm_6_15 wm_6_17 wp_33 wm_1_6 wm_6_18 ⟨Nat.le_of_ble_eq_true rfl, Nat.le_of_ble_eq_true rfl⟩ ⟨Nat.le_of_ble_eq_true rfl, Nat.le_of_ble_eq_true rfl⟩ (mw0x (a := a) (r := r) (f := f) (q := q) (T := tb a) (w := w) rfl) rfl rfl rfl hl.1 rfl (Nat.le_of_ble_eq_true rfl) dX10_rest_13 (fun o w' H locs hp hB => ?_)
    obtain ⟨x10, t11, rfl, hf12, hw9⟩ := hp
    replace hB : Bd κ A s (mw κ a r f (va_up q 3 t11) (tb a) w) H locs := by exact Bd_eq (mwQ3x rfl _) (by rw [hw9] at hB; exact hB)
    obtain rfl : x10 = 0 := hf12.trans (by decide)
    refine W.eq (g2 := F0 m 16 ls [.int 0]) rfl ?_
    refine lv_if_eq (tgt := 22) hx hb dX10_rest_16 (by decide) (fun _ => ?_) (fun c13 => False.elim (by revert c13; decide))
    refine lv_aload_n hx hb dX10_rest_22 rfl (lv_at hl 0 rfl) ?_
    refine gf (k0 := 0) hX hB (mw0x (a := a) (r := r) (f := f) (q := (va_up q 3 t11)) (T := tb a) (w := w) rfl) rfl in10 0 (by decide) wm_5_162 rfl rfl dX10_rest_23 ?_
    refine lv_iload_n hx hb dX10_rest_26 rfl (lv_at hl 1 rfl) ?_
    refine aaldM (k0 := 1) hX hB (mw1 (a := a) (r := r) (f := f) (q := (va_up q 3 t11)) (T := tb a) (w := w)) (vp_in_mk (by assumption) (by assumption)) rfl dX10_rest_27 ?_
    have hb14 := mok_r hm y.toNatClampNeg (by omega)
    refine call_S (n := 1) (As := [.ref (a (2 + 2 * y.toNatClampNeg))]) (rest := []) hX hB (o_X10_leaving κ l (mw κ a r f (va_up q 3 t11) (tb a) w) (2 + 2 * y.toNatClampNeg) (3 + 2 * y.toNatClampNeg) (a (2 + 2 * y.toNatClampNeg)) (a (3 + 2 * y.toNatClampNeg)) (r (2 * y.toNatClampNeg)) (r (2 * y.toNatClampNeg + 1)) (f y.toNatClampNeg) (mwG (i := y.toNatClampNeg) (a := a) (r := r) (f := f) (q := (va_up q 3 t11)) (T := tb a) (w := w) (by omega)) (mwA (i := y.toNatClampNeg) (a := a) (r := r) (f := f) (q := (va_up q 3 t11)) (T := tb a) (w := w) (by omega)) (mok_shp (i := y.toNatClampNeg) hm (by omega)) (by omega) (fun k hk => sm_ng ((hm _ (by omega)).2 k hk))) yk_X10_leaving wm_7_148 wm_7_149 wm_1_6 wm_7_150 ⟨Nat.le_of_ble_eq_true rfl, Nat.le_of_ble_eq_true rfl⟩ ⟨Nat.le_of_ble_eq_true rfl, Nat.le_of_ble_eq_true rfl⟩ rfl hl.1 rfl (Nat.le_of_ble_eq_true rfl) dX10_rest_28 (fun o w' H locs hp hB => ?_)
    rcases hp with ⟨rfl, hw9⟩ | ⟨q15, q16, R17, C18, F19, rfl, ⟨hd20r, hd20c, hd20e, hd20n⟩, hw9⟩
    · replace hB : Bd κ A s (mw κ a r f (va_up q 3 t11) (tb a) w) H locs := by rw [hw9] at hB; exact hB
      refine W.eq (g2 := F0 m 31 ls [.null]) rfl ?_
      refine lv_astore_nN (lv' := [(3, .null), (0, .ref (a 0)), (1, .int y), (2, .int z)]) hx hb dX10_rest_31 rfl hl (by decide) rfl (fun ls hl => ?_)
      refine lv_aload_n hx hb dX10_rest_32 rfl (lv_at hl 1 rfl) ?_
      refine lv_iconst (v := 0) hx hb dX10_rest_33 (by decide) ?_
      refine lv_aload_nN hx hb dX10_rest_34 rfl (lv_at hl 0 rfl) ?_
      refine lv_ifnonnullN hx hb dX10_rest_35 ?_
      refine lv_iconst (v := 1) hx hb dX10_rest_38 (by decide) ?_
      refine lv_goto (tgt := 43) hx hb dX10_rest_39 (by decide) ?_
      refine lv_aload_nN hx hb dX10_rest_43 rfl (lv_at hl 0 rfl) ?_
      refine lv_ifnullN (tgt := 73) hx hb dX10_rest_44 (by decide) ?_
      refine lv_iconst (v := 0) hx hb dX10_rest_73 (by decide) ?_
      refine call_V (n := 3) (k0 := 0) (As := [.int 0, .int 1, .int 0]) (rest := []) hX hB (o_X10_isThrown κ l (mw κ a r f (va_up q 3 t11) (tb a) w) 0 (a 0) (a 1) ((va_up q 3 t11) 0) ((va_up q 3 t11) 1) ((va_up q 3 t11) 2) ((va_up q 3 t11) 3) 0 1 0 (mw0x (a := a) (r := r) (f := f) (q := (va_up q 3 t11)) (T := tb a) (w := w) rfl)) ⟨rfl, yk_X10_isThrown⟩ wm_5_196 wm_5_198 wp_28 wm_1_6 wm_5_199 ⟨Nat.le_of_ble_eq_true rfl, Nat.le_of_ble_eq_true rfl⟩ ⟨Nat.le_of_ble_eq_true rfl, Nat.le_of_ble_eq_true rfl⟩ (mw0x (a := a) (r := r) (f := f) (q := (va_up q 3 t11)) (T := tb a) (w := w) rfl) rfl rfl rfl hl.1 rfl (Nat.le_of_ble_eq_true rfl) dX10_rest_74 (fun o w' H locs hp hB => ?_)
      obtain ⟨x21, t22, rfl, hf23, hw9⟩ := hp
      replace hB : Bd κ A s (mw κ a r f (va_up (va_up q 3 t11) 3 t22) (tb a) w) H locs := by exact Bd_eq (mwQ3x rfl _) (by rw [hw9] at hB; exact hB)
      obtain rfl : x21 = 1 := hf23.trans (by decide)
      refine W.eq (g2 := F0 m 77 ls [.int 1]) rfl ?_
      refine lv_if_eq (tgt := 83) hx hb dX10_rest_77 (by decide) (fun c24 => False.elim (by revert c24; decide)) (fun _ => ?_)
      refine ldcT (i := 0) hX hX.2.1.2.2.1.2.1.1 dX10_rest_80 ?_
      rw [← hQ]
      exact end_a hX hB hA3 rfl (Or.inr ⟨_, rfl⟩) ⟨(adK κ 0), (va_up (va_up q 3 t11) 3 t22), rfl, ⟨rfl, rfl, rfl⟩, rfl⟩ (Nat.le_of_ble_eq_true rfl) (Nat.le_of_ble_eq_true rfl) dX10_rest_82
    · replace hB : Bd κ A s (lA κ q16 (R17 * 5) F19 :: gO q15 R17 C18 q16 :: mw κ a r f (va_up q 3 t11) (tb a) w) H locs := by rw [hw9] at hB; exact hB
      refine W.eq (g2 := F0 m 31 ls [.ref q15]) rfl ?_
      refine lv_astore_n (lv' := [(3, .ref q15), (0, .ref (a 0)), (1, .int y), (2, .int z)]) hx hb dX10_rest_31 rfl hl (by decide) rfl (fun ls hl => ?_)
      refine lv_aload_n hx hb dX10_rest_32 rfl (lv_at hl 1 rfl) ?_
      refine lv_iconst (v := 0) hx hb dX10_rest_33 (by decide) ?_
      refine lv_aload_n hx hb dX10_rest_34 rfl (lv_at hl 0 rfl) ?_
      refine lv_ifnonnull (tgt := 42) hx hb dX10_rest_35 (by decide) ?_
      refine lv_iconst (v := 0) hx hb dX10_rest_42 (by decide) ?_
      refine lv_aload_n hx hb dX10_rest_43 rfl (lv_at hl 0 rfl) ?_
      refine lv_ifnull hx hb dX10_rest_44 ?_
      refine lv_iload_n hx hb dX10_rest_47 rfl (lv_at hl 3 rfl) ?_
      refine lv_if_lt (tgt := 69) hx hb dX10_rest_48 (by decide) (fun c25 => ?_) (fun c25 => ?_)
      · refine lv_iconst (v := 1) hx hb dX10_rest_69 (by decide) ?_
        refine lv_goto (tgt := 74) hx hb dX10_rest_70 (by decide) ?_
        refine call_V (n := 3) (k0 := 2) (As := [.int 0, .int 0, .int 1]) (rest := []) hX hB (o_X10_isThrown κ l (lA κ q16 (R17 * 5) F19 :: gO q15 R17 C18 q16 :: mw κ a r f (va_up q 3 t11) (tb a) w) 2 (a 0) (a 1) ((va_up q 3 t11) 0) ((va_up q 3 t11) 1) ((va_up q 3 t11) 2) ((va_up q 3 t11) 3) 0 0 1 (mw0x (a := a) (r := r) (f := f) (q := (va_up q 3 t11)) (T := tb a) (w := w) rfl)) ⟨rfl, yk_X10_isThrown⟩ wm_5_196 wm_5_198 wp_28 wm_1_6 wm_5_199 ⟨Nat.le_of_ble_eq_true rfl, Nat.le_of_ble_eq_true rfl⟩ ⟨Nat.le_of_ble_eq_true rfl, Nat.le_of_ble_eq_true rfl⟩ (mw0x (a := a) (r := r) (f := f) (q := (va_up q 3 t11)) (T := tb a) (w := w) rfl) rfl rfl rfl hl.1 rfl (Nat.le_of_ble_eq_true rfl) dX10_rest_74 (fun o w' H locs hp hB => ?_)
        obtain ⟨x26, t27, rfl, hf28, hw9⟩ := hp
        replace hB : Bd κ A s (lA κ q16 (R17 * 5) F19 :: gO q15 R17 C18 q16 :: mw κ a r f (va_up (va_up q 3 t11) 3 t27) (tb a) w) H locs := by exact Bd_eq (congrArg (List.cons _) (congrArg (List.cons _) (mwQ3x rfl _))) (by rw [hw9] at hB; exact hB)
        obtain rfl : x26 = 1 := hf28.trans (by decide)
        refine W.eq (g2 := F0 m 77 ls [.int 1]) rfl ?_
        refine lv_if_eq (tgt := 83) hx hb dX10_rest_77 (by decide) (fun c29 => False.elim (by revert c29; decide)) (fun _ => ?_)
        refine ldcT (i := 0) hX hX.2.1.2.2.1.2.1.1 dX10_rest_80 ?_
        replace hB : Bd κ A s (lA κ q16 (R17 * 5) F19 :: mw κ a r f (va_up (va_up q 3 t11) 3 t27) (tb a) w) H locs := Bd_del 1 hB
        replace hB : Bd κ A s (mw κ a r f (va_up (va_up q 3 t11) 3 t27) (tb a) w) H locs := Bd_del 0 hB
        rw [← hQ]
        exact end_a hX hB hA3 rfl (Or.inr ⟨_, rfl⟩) ⟨(adK κ 0), (va_up (va_up q 3 t11) 3 t27), rfl, ⟨rfl, rfl, rfl⟩, rfl⟩ (Nat.le_of_ble_eq_true rfl) (Nat.le_of_ble_eq_true rfl) dX10_rest_82
      · refine lv_iload_n hx hb dX10_rest_51 rfl (lv_at hl 3 rfl) ?_
        refine lv_i2l hx hb dX10_rest_52 rfl ?_
        refine lv_aload_n hx hb dX10_rest_53 rfl (lv_at hl 1 rfl) ?_
        refine gf (k0 := 2) hX hB (mw0x (a := a) (r := r) (f := f) (q := (va_up q 3 t11)) (T := tb a) (w := w) rfl) rfl in10 0 (by decide) wm_5_162 rfl rfl dX10_rest_54 ?_
        refine lv_iload_n hx hb dX10_rest_57 rfl (lv_at hl 2 rfl) ?_
        refine aaldM (k0 := 3) hX hB (mw1 (a := a) (r := r) (f := f) (q := (va_up q 3 t11)) (T := tb a) (w := w)) (vp_in_mk (by assumption) (by assumption)) rfl dX10_rest_58 ?_
        have hb30 := mok_r hm y.toNatClampNeg (by omega)
        refine call_S (n := 1) (As := [.ref (a (2 + 2 * y.toNatClampNeg))]) (rest := [.long ((z).toInt64), .int 0, .int 0, .ref (a 0)]) hX hB (k_X10_determinantOf κ l (lA κ q16 (R17 * 5) F19 :: gO q15 R17 C18 q16 :: mw κ a r f (va_up q 3 t11) (tb a) w) (2 + 2 * y.toNatClampNeg + 2) (3 + 2 * y.toNatClampNeg + 2) (a (2 + 2 * y.toNatClampNeg)) (a (3 + 2 * y.toNatClampNeg)) (r (2 * y.toNatClampNeg)) (r (2 * y.toNatClampNeg + 1)) (f y.toNatClampNeg) (mwG (i := y.toNatClampNeg) (a := a) (r := r) (f := f) (q := (va_up q 3 t11)) (T := tb a) (w := w) (by omega)) (mwA (i := y.toNatClampNeg) (a := a) (r := r) (f := f) (q := (va_up q 3 t11)) (T := tb a) (w := w) (by omega)) (mok_shp (i := y.toNatClampNeg) hm (by omega)) (by omega)) yk_X10_determinantOf wm_7_76 wm_7_77 wm_1_6 wm_7_78 ⟨Nat.le_of_ble_eq_true rfl, Nat.le_of_ble_eq_true rfl⟩ ⟨Nat.le_of_ble_eq_true rfl, Nat.le_of_ble_eq_true rfl⟩ rfl hl.1 rfl (Nat.le_of_ble_eq_true rfl) dX10_rest_59 (fun o w' H locs hp hB => ?_)
        obtain ⟨rfl, hw9⟩ := hp
        replace hB : Bd κ A s (lA κ q16 (R17 * 5) F19 :: gO q15 R17 C18 q16 :: mw κ a r f (va_up q 3 t11) (tb a) w) H locs := by rw [hw9] at hB; exact hB
        refine W.eq (g2 := F0 m 62 ls [.long (mnv (f y.toNatClampNeg) (r (2 * y.toNatClampNeg + 1)) (r (2 * y.toNatClampNeg)) (2 ^ (r (2 * y.toNatClampNeg)) - 1) (2 ^ (r (2 * y.toNatClampNeg + 1)) - 1)), .long ((z).toInt64), .int 0, .int 0, .ref (a 0)]) rfl ?_
        refine va_mabs_long hx hb (by rw [hX.1.2.2.1]; exact hl.1.symm) hX.1.2.2.2.1 (hX.1.2.2.2.2 _ wm_7_109) (hX.1.2.2.2.2 _ wm_1_237) (hX.1.2.2.2.2 _ wm_1_14) (hX.1.2.2.2.2 _ wm_1_238) (Nat.le_of_ble_eq_true rfl) (Nat.le_of_ble_eq_true rfl) (Nat.le_of_ble_eq_true rfl) (Nat.le_of_ble_eq_true rfl) dX10_rest_62 ?_
        refine lv_topl (fun t31 et31 => ?_)
        refine W.lcmp hx hb dX10_rest_65 ?_
        refine lv_if_lt (tgt := 73) hx hb dX10_rest_66 (by decide) (fun c32 => ?_) (fun c32 => ?_)
        · refine lv_iconst (v := 0) hx hb dX10_rest_73 (by decide) ?_
          refine call_V (n := 3) (k0 := 2) (As := [.int 0, .int 0, .int 0]) (rest := []) hX hB (o_X10_isThrown κ l (lA κ q16 (R17 * 5) F19 :: gO q15 R17 C18 q16 :: mw κ a r f (va_up q 3 t11) (tb a) w) 2 (a 0) (a 1) ((va_up q 3 t11) 0) ((va_up q 3 t11) 1) ((va_up q 3 t11) 2) ((va_up q 3 t11) 3) 0 0 0 (mw0x (a := a) (r := r) (f := f) (q := (va_up q 3 t11)) (T := tb a) (w := w) rfl)) ⟨rfl, yk_X10_isThrown⟩ wm_5_196 wm_5_198 wp_28 wm_1_6 wm_5_199 ⟨Nat.le_of_ble_eq_true rfl, Nat.le_of_ble_eq_true rfl⟩ ⟨Nat.le_of_ble_eq_true rfl, Nat.le_of_ble_eq_true rfl⟩ (mw0x (a := a) (r := r) (f := f) (q := (va_up q 3 t11)) (T := tb a) (w := w) rfl) rfl rfl rfl hl.1 rfl (Nat.le_of_ble_eq_true rfl) dX10_rest_74 (fun o w' H locs hp hB => ?_)
          obtain ⟨x33, t34, rfl, hf35, hw9⟩ := hp
          replace hB : Bd κ A s (lA κ q16 (R17 * 5) F19 :: gO q15 R17 C18 q16 :: mw κ a r f (va_up (va_up q 3 t11) 3 t34) (tb a) w) H locs := by exact Bd_eq (congrArg (List.cons _) (congrArg (List.cons _) (mwQ3x rfl _))) (by rw [hw9] at hB; exact hB)
          obtain rfl : x33 = 0 := hf35.trans (by decide)
          refine W.eq (g2 := F0 m 77 ls [.int 0]) rfl ?_
          refine lv_if_eq (tgt := 83) hx hb dX10_rest_77 (by decide) (fun _ => ?_) (fun c36 => False.elim (by revert c36; decide))
          have hdN := hd20n
          refine lv_aload_n hx hb dX10_rest_83 rfl (lv_at hl 0 rfl) ?_
          refine gf (k0 := 1) hX hB rfl rfl in7 0 (by decide) wm_5_148 rfl rfl dX10_rest_84 ?_
          refine newA (t0 := 4) (ty := .int) (N := R17) (mx := 4) (a0 := (R17, .inl (fun _ => 0))) hX hB rfl rfl (fun h => h) wm_7_152 (fun _ => rfl) (nI_pos (n := R17) (by omega)) (nI_clamp (n := R17) (by omega)) (by omega) (Nat.le_of_ble_eq_true rfl) (Nat.le_of_ble_eq_true rfl) (Nat.le_of_ble_eq_true rfl) dX10_rest_87 (fun q37 H hB => ?_)
          refine lv_astore (lv' := [(4, .ref q37), (3, .ref q15), (0, .ref (a 0)), (1, .int y), (2, .int z)]) hx hb dX10_rest_89 hl (by decide) rfl (fun ls hl => ?_)
          refine lv_iload_n hx hb dX10_rest_91 rfl (lv_at hl 4 rfl) ?_
          refine lv_i2l hx hb dX10_rest_92 rfl ?_
          refine lv_lstore (lv' := [(5, .long ((z).toInt64)), (4, .ref q37), (3, .ref q15), (0, .ref (a 0)), (1, .int y), (2, .int z)]) hx hb dX10_rest_93 hl (by decide) rfl (fun ls hl => ?_)
          refine lv_aload_n hx hb dX10_rest_95 rfl (lv_at hl 2 rfl) ?_
          refine gf (k0 := 2) hX hB rfl rfl in7 0 (by decide) wm_5_148 rfl rfl dX10_rest_96 ?_
          refine lv_iconst (v := 1) hx hb dX10_rest_99 (by decide) ?_
          refine lv_isub hx hb dX10_rest_100 ?_
          refine eqi (y := nI (R17 - 1)) (nI_sub (a := R17) (b := 1) (by omega)) ?_
          refine lv_istore (lv' := [(7, .int (nI (R17 - 1))), (5, .long ((z).toInt64)), (4, .ref q37), (3, .ref q15), (0, .ref (a 0)), (1, .int y), (2, .int z)]) hx hb dX10_rest_101 hl (by decide) rfl (fun ls hl => ?_)
          have lp103 : ∀ (nn : Nat) (y7_103 : Int32) (y5_103 : Int64) (bq37_103 : Nat → Int32) (H : Heap) (locs : List Loc), (¬ nI R17 ≤ y7_103) → gapd y7_103 < nn → Bd κ A s (iA κ q37 R17 bq37_103 :: lA κ q16 (R17 * 5) F19 :: gO q15 R17 C18 q16 :: mw κ a r f (va_up (va_up q 3 t11) 3 t34) (tb a) w) H locs → ∀ ls : Array Slot, lv_has ls 9 [(7, .int y7_103), (5, .long y5_103), (4, .ref q37), (3, .ref q15), (0, .ref (a 0)), (1, .int y), (2, .int z)] → W p l e (Rm 8 209 18 8622) s m args below meth c H locs (6) (54) Q (F0 m 103 ls []) := by
            intro nn
            induction nn with
            | zero => intro y7_103 y5_103 bq37_103 H locs hcb hμ; exact absurd hμ (Nat.not_lt_zero _)
            | succ nn ih103 =>
              intro y7_103 y5_103 bq37_103 H locs hcb hμ103 hB ls hl
              refine lv_iload hx hb dX10_rest_103 (lv_at hl 0 rfl) ?_
              refine lv_if_lt (tgt := 144) hx hb dX10_rest_105 (by decide) (fun c121 => ?_) (fun c121 => ?_)
              · refine newO (fs := [.null, .int 0, .int 0, .int 0]) hX hB (ci := 1) rfl inJ4 tyJ4_ok wm_7_35 wm_3_231 wm_1_18 df1 (Nat.le_of_ble_eq_true rfl) (Nat.le_of_ble_eq_true rfl) dX10_rest_144 (fun q122 H hB => ?_)
                refine lv_dup hx hb dX10_rest_147 rfl ?_
                refine call_I (n := 0) (As := []) (rest := [.ref q122]) hX hB (k_J4_init_da8c8 κ l (iA κ q37 R17 bq37_103 :: lA κ q16 (R17 * 5) F19 :: gO q15 R17 C18 q16 :: mw κ a r f (va_up (va_up q 3 t11) 3 t34) (tb a) w) q122 ) yk_J4_init_da8c8 rfl wm_7_36 wm_3_233 wm_1_18 wm_3_234 ⟨Nat.le_of_ble_eq_true rfl, Nat.le_of_ble_eq_true rfl⟩ ⟨Nat.le_of_ble_eq_true rfl, Nat.le_of_ble_eq_true rfl⟩ rfl hl.1 rfl (Nat.le_of_ble_eq_true rfl) dX10_rest_148 (fun o w' H locs hp hB => ?_)
                obtain ⟨b123, rfl, hw9⟩ := hp
                replace hB : Bd κ A s (bA κ b123 16 (fun _ => 0) :: (q122, .inr (1, [.ref b123, .int 0, .int 0, .int (nI 0)])) :: iA κ q37 R17 bq37_103 :: lA κ q16 (R17 * 5) F19 :: gO q15 R17 C18 q16 :: mw κ a r f (va_up (va_up q 3 t11) 3 t34) (tb a) w) H locs := by rw [hw9] at hB; exact hB
                refine W.eq (g2 := F0 m 151 ls [.ref q122]) rfl ?_
                refine lv_astore (lv' := [(7, .ref q122), (5, .long y5_103), (4, .ref q37), (3, .ref q15), (0, .ref (a 0)), (1, .int y), (2, .int z)]) hx hb dX10_rest_151 hl (by decide) rfl (fun ls hl => ?_)
                refine lv_iconst (v := 0) hx hb dX10_rest_153 (by decide) ?_
                refine lv_istore (lv' := [(8, .int 0), (7, .ref q122), (5, .long y5_103), (4, .ref q37), (3, .ref q15), (0, .ref (a 0)), (1, .int y), (2, .int z)]) hx hb dX10_rest_154 hl (by decide) rfl (fun ls hl => ?_)
                have lp156 : ∀ (nn : Nat) (y8_156 : Nat) (Pb_156 : Nat) (Pc_156 : Nat) (Pn_156 : Nat) (bs_156 : Nat → Int32) (H : Heap) (locs : List Loc), (y8_156 ≤ R17) → (Pc_156 ≤ Pn_156 ∧ Pn_156 ≤ 1000 ∧ Pn_156 ≤ 2 * Pc_156 + 16 ∧ Pc_156 ≤ y8_156 * 12) → (sb_Fit bs_156) → R17 + 1 - y8_156 < nn → Bd κ A s (bA κ Pb_156 Pn_156 bs_156 :: (q122, .inr (1, [.ref Pb_156, .int 0, .int 0, .int (nI Pc_156)])) :: iA κ q37 R17 bq37_103 :: lA κ q16 (R17 * 5) F19 :: gO q15 R17 C18 q16 :: mw κ a r f (va_up (va_up q 3 t11) 3 t34) (tb a) w) H locs → ∀ ls : Array Slot, lv_has ls 9 [(8, .int (nI y8_156)), (7, .ref q122), (5, .long y5_103), (4, .ref q37), (3, .ref q15), (0, .ref (a 0)), (1, .int y), (2, .int z)] → W p l e (Rm 8 209 18 8622) s m args below meth c H locs (8 + y8_156 * 2) (1058 + y8_156 * 1640) Q (F0 m 156 ls []) := by
                  intro nn
                  induction nn with
                  | zero => intro y8_156 Pb_156 Pc_156 Pn_156 bs_156 H locs hn8_156 hsb156 hfb156 hμ; exact absurd hμ (Nat.not_lt_zero _)
                  | succ nn ih156 =>
                    intro y8_156 Pb_156 Pc_156 Pn_156 bs_156 H locs hn8_156 hsb156 hfb156 hμ156 hB ls hl
                    refine lv_iload hx hb dX10_rest_156 (lv_at hl 0 rfl) ?_
                    refine lv_aload_n hx hb dX10_rest_158 rfl (lv_at hl 4 rfl) ?_
                    refine gf (k0 := 4) hX hB rfl rfl in7 0 (by decide) wm_5_148 rfl rfl dX10_rest_159 ?_
                    refine lv_icmp_ge (tgt := 197) hx hb dX10_rest_162 (by decide) (fun c172 => ?_) (fun c172 => ?_)
                    · rw [nleP (a := R17) (b := y8_156) (by omega) (by omega)] at c172
                      refine W.widen (k := 16) (n := 7618) (by omega) (by omega) ?_
                      refine lv_aload hx hb dX10_rest_197 (lv_at hl 1 rfl) ?_
                      refine call_V (n := 0) (k0 := 1) (As := []) (rest := []) hX hB (k_J4_toString_0e30d κ l (iA κ q37 R17 bq37_103 :: lA κ q16 (R17 * 5) F19 :: gO q15 R17 C18 q16 :: mw κ a r f (va_up (va_up q 3 t11) 3 t34) (tb a) w) q122 Pb_156 Pn_156 Pc_156 0 bs_156 (by omega) (by omega) hfb156) ⟨rfl, yk_J4_toString_0e30d⟩ wm_7_67 wm_4_147 wm_4_148 wm_1_18 wm_4_149 ⟨Nat.le_of_ble_eq_true rfl, Nat.le_of_ble_eq_true rfl⟩ ⟨Nat.le_of_ble_eq_true rfl, Nat.le_of_ble_eq_true rfl⟩ rfl rfl rfl rfl hl.1 rfl (Nat.le_of_ble_eq_true rfl) dX10_rest_199 (fun o w' H locs hp hB => ?_)
                      obtain ⟨q173, rfl, hw9⟩ := hp
                      replace hB : Bd κ A s (bA κ Pb_156 Pn_156 bs_156 :: (q122, .inr (1, [.ref Pb_156, .int 0, .int 0, .int (nI Pc_156)])) :: iA κ q37 R17 bq37_103 :: lA κ q16 (R17 * 5) F19 :: gO q15 R17 C18 q16 :: mw κ a r f (va_up (va_up q 3 t11) 3 t34) (tb a) w) H locs := by rw [hw9] at hB; exact hB
                      refine W.eq (g2 := F0 m 202 ls [.ref q173]) rfl ?_
                      replace hB : Bd κ A s (iA κ q37 R17 bq37_103 :: lA κ q16 (R17 * 5) F19 :: gO q15 R17 C18 q16 :: mw κ a r f (va_up (va_up q 3 t11) 3 t34) (tb a) w) H locs := Bd_tail (Bd_tail hB)
                      replace hB : Bd κ A s (iA κ q37 R17 bq37_103 :: lA κ q16 (R17 * 5) F19 :: mw κ a r f (va_up (va_up q 3 t11) 3 t34) (tb a) w) H locs := Bd_del 2 hB
                      replace hB : Bd κ A s (iA κ q37 R17 bq37_103 :: mw κ a r f (va_up (va_up q 3 t11) 3 t34) (tb a) w) H locs := Bd_del 1 hB
                      replace hB : Bd κ A s (mw κ a r f (va_up (va_up q 3 t11) 3 t34) (tb a) w) H locs := Bd_del 0 hB
                      rw [← hQ]
                      exact end_a hX hB hA3 rfl (Or.inr ⟨_, rfl⟩) ⟨q173, (va_up (va_up q 3 t11) 3 t34), rfl, ⟨rfl, rfl, rfl⟩, rfl⟩ (Nat.le_of_ble_eq_true rfl) (Nat.le_of_ble_eq_true rfl) dX10_rest_202
                    · rw [nleP (a := R17) (b := y8_156) (by omega) (by omega)] at c172
                      refine lv_aload hx hb dX10_rest_165 (lv_at hl 1 rfl) ?_
                      refine lv_iload hx hb dX10_rest_167 (lv_at hl 0 rfl) ?_
                      refine lv_if_ne (tgt := 177) hx hb dX10_rest_169 (by decide) (fun c174 => ?_) (fun c174 => ?_)
                      · replace c174 : ¬ nI y8_156 = nI 0 := c174
                        rw [neqP (by omega) (by omega)] at c174
                        refine ldcT (i := 1) hX hX.2.1.2.2.1.2.1.2.1 dX10_rest_177 ?_
                        refine call_V (n := 1) (k0 := 1) (As := [.ref (adK κ 1)]) (rest := []) hX hB (k_J4_append_15ec4 κ l (iA κ q37 R17 bq37_103 :: lA κ q16 (R17 * 5) F19 :: gO q15 R17 C18 q16 :: mw κ a r f (va_up (va_up q 3 t11) 3 t34) (tb a) w) 1 q122 Pb_156 Pn_156 Pc_156 0 bs_156 (by omega) (by omega) hfb156 (by omega) (by omega) (by omega)) ⟨rfl, yk_J4_append_15ec4⟩ wm_7_39 wm_4_188 wm_4_189 wm_1_18 wm_4_190 ⟨Nat.le_of_ble_eq_true rfl, Nat.le_of_ble_eq_true rfl⟩ ⟨by dsimp only [Rm]; omega, by dsimp only [Rm]; omega⟩ rfl rfl rfl rfl hl.1 rfl (Nat.le_of_ble_eq_true rfl) dX10_rest_179 (fun o w' H locs hp hB => ?_)
                        obtain ⟨q175, n176, F177, c178, rfl, hf179, hf180, hw9⟩ := hp
                        replace hB : Bd κ A s (bA κ q175 n176 F177 :: (q122, .inr (1, [.ref q175, .int 0, .int 0, .int (nI c178)])) :: iA κ q37 R17 bq37_103 :: lA κ q16 (R17 * 5) F19 :: gO q15 R17 C18 q16 :: mw κ a r f (va_up (va_up q 3 t11) 3 t34) (tb a) w) H locs := by rw [hw9] at hB; exact hB
                        have hsl181 := sL_le (i := 1) (by omega)
                        refine W.eq (g2 := F0 m 182 ls [.ref q122]) rfl ?_
                        refine lv_aload hx hb dX10_rest_182 (lv_at hl 3 rfl) ?_
                        refine lv_iload hx hb dX10_rest_184 (lv_at hl 0 rfl) ?_
                        refine ialdN (k0 := 2) (k := y8_156) hX hB rfl (by omega) (by omega) dX10_rest_186 ?_
                        refine lv_topi (fun u182 eu182 => ?_)
                        refine call_V (n := 1) (k0 := 1) (As := [.int u182]) (rest := []) hX hB (k_J4_append_bf812 κ l (iA κ q37 R17 bq37_103 :: lA κ q16 (R17 * 5) F19 :: gO q15 R17 C18 q16 :: mw κ a r f (va_up (va_up q 3 t11) 3 t34) (tb a) w) q122 q175 n176 c178 0 F177 u182 (by omega) (by omega) hf180 (by omega) (by omega)) ⟨rfl, yk_J4_append_bf812⟩ wm_7_151 wm_4_113 wm_4_114 wm_1_18 wm_4_115 ⟨Nat.le_of_ble_eq_true rfl, Nat.le_of_ble_eq_true rfl⟩ ⟨by dsimp only [Rm]; omega, by dsimp only [Rm]; omega⟩ rfl rfl rfl rfl hl.1 rfl (Nat.le_of_ble_eq_true rfl) dX10_rest_187 (fun o w' H locs hp hB => ?_)
                        obtain ⟨q183, n184, F185, c186, rfl, hf187, hf188, hw9⟩ := hp
                        replace hB : Bd κ A s (bA κ q183 n184 F185 :: (q122, .inr (1, [.ref q183, .int 0, .int 0, .int (nI c186)])) :: iA κ q37 R17 bq37_103 :: lA κ q16 (R17 * 5) F19 :: gO q15 R17 C18 q16 :: mw κ a r f (va_up (va_up q 3 t11) 3 t34) (tb a) w) H locs := by rw [hw9] at hB; exact hB
                        refine W.eq (g2 := F0 m 190 ls [.ref q122]) rfl ?_
                        refine lv_pop hx hb dX10_rest_190 rfl ?_
                        refine lv_iinc (v := nI (y8_156 + 1)) (lv' := [(8, .int (nI (y8_156 + 1))), (7, .ref q122), (5, .long y5_103), (4, .ref q37), (3, .ref q15), (0, .ref (a 0)), (1, .int y), (2, .int z)]) hx hb dX10_rest_191 hl (k := 0) rfl (nI_add y8_156 1) (by decide) rfl (fun ls hl => ?_)
                        refine lv_goto (tgt := 156) hx hb dX10_rest_194 (by decide) ?_
                        refine W.widen (k := 8 + (y8_156 + 1) * 2) (n := 1058 + (y8_156 + 1) * 1640) (by omega) (by omega) ?_
                        exact ih156 (y8_156 + 1) q183 c186 n184 F185 _ _ (by omega) (⟨by omega, by omega, by omega, by omega⟩) hf188 (by omega) hB _ hl
                      · replace c174 : nI y8_156 = nI 0 := c174
                        rw [neqP (by omega) (by omega)] at c174
                        refine ldcT (i := 0) hX hX.2.1.2.2.1.2.1.1 dX10_rest_172 ?_
                        refine lv_goto (tgt := 179) hx hb dX10_rest_174 (by decide) ?_
                        refine call_V (n := 1) (k0 := 1) (As := [.ref (adK κ 0)]) (rest := []) hX hB (k_J4_append_15ec4 κ l (iA κ q37 R17 bq37_103 :: lA κ q16 (R17 * 5) F19 :: gO q15 R17 C18 q16 :: mw κ a r f (va_up (va_up q 3 t11) 3 t34) (tb a) w) 0 q122 Pb_156 Pn_156 Pc_156 0 bs_156 (by omega) (by omega) hfb156 (by omega) (by omega) (by omega)) ⟨rfl, yk_J4_append_15ec4⟩ wm_7_39 wm_4_188 wm_4_189 wm_1_18 wm_4_190 ⟨Nat.le_of_ble_eq_true rfl, Nat.le_of_ble_eq_true rfl⟩ ⟨by dsimp only [Rm]; omega, by dsimp only [Rm]; omega⟩ rfl rfl rfl rfl hl.1 rfl (Nat.le_of_ble_eq_true rfl) dX10_rest_179 (fun o w' H locs hp hB => ?_)
                        obtain ⟨q189, n190, F191, c192, rfl, hf193, hf194, hw9⟩ := hp
                        replace hB : Bd κ A s (bA κ q189 n190 F191 :: (q122, .inr (1, [.ref q189, .int 0, .int 0, .int (nI c192)])) :: iA κ q37 R17 bq37_103 :: lA κ q16 (R17 * 5) F19 :: gO q15 R17 C18 q16 :: mw κ a r f (va_up (va_up q 3 t11) 3 t34) (tb a) w) H locs := by rw [hw9] at hB; exact hB
                        have hsl195 := sL_le (i := 0) (by omega)
                        refine W.eq (g2 := F0 m 182 ls [.ref q122]) rfl ?_
                        refine lv_aload hx hb dX10_rest_182 (lv_at hl 3 rfl) ?_
                        refine lv_iload hx hb dX10_rest_184 (lv_at hl 0 rfl) ?_
                        refine ialdN (k0 := 2) (k := y8_156) hX hB rfl (by omega) (by omega) dX10_rest_186 ?_
                        refine lv_topi (fun u196 eu196 => ?_)
                        refine call_V (n := 1) (k0 := 1) (As := [.int u196]) (rest := []) hX hB (k_J4_append_bf812 κ l (iA κ q37 R17 bq37_103 :: lA κ q16 (R17 * 5) F19 :: gO q15 R17 C18 q16 :: mw κ a r f (va_up (va_up q 3 t11) 3 t34) (tb a) w) q122 q189 n190 c192 0 F191 u196 (by omega) (by omega) hf194 (by omega) (by omega)) ⟨rfl, yk_J4_append_bf812⟩ wm_7_151 wm_4_113 wm_4_114 wm_1_18 wm_4_115 ⟨Nat.le_of_ble_eq_true rfl, Nat.le_of_ble_eq_true rfl⟩ ⟨by dsimp only [Rm]; omega, by dsimp only [Rm]; omega⟩ rfl rfl rfl rfl hl.1 rfl (Nat.le_of_ble_eq_true rfl) dX10_rest_187 (fun o w' H locs hp hB => ?_)
                        obtain ⟨q197, n198, F199, c200, rfl, hf201, hf202, hw9⟩ := hp
                        replace hB : Bd κ A s (bA κ q197 n198 F199 :: (q122, .inr (1, [.ref q197, .int 0, .int 0, .int (nI c200)])) :: iA κ q37 R17 bq37_103 :: lA κ q16 (R17 * 5) F19 :: gO q15 R17 C18 q16 :: mw κ a r f (va_up (va_up q 3 t11) 3 t34) (tb a) w) H locs := by rw [hw9] at hB; exact hB
                        refine W.eq (g2 := F0 m 190 ls [.ref q122]) rfl ?_
                        refine lv_pop hx hb dX10_rest_190 rfl ?_
                        refine lv_iinc (v := nI (y8_156 + 1)) (lv' := [(8, .int (nI (y8_156 + 1))), (7, .ref q122), (5, .long y5_103), (4, .ref q37), (3, .ref q15), (0, .ref (a 0)), (1, .int y), (2, .int z)]) hx hb dX10_rest_191 hl (k := 0) rfl (nI_add y8_156 1) (by decide) rfl (fun ls hl => ?_)
                        refine lv_goto (tgt := 156) hx hb dX10_rest_194 (by decide) ?_
                        refine W.widen (k := 8 + (y8_156 + 1) * 2) (n := 1058 + (y8_156 + 1) * 1640) (by omega) (by omega) ?_
                        exact ih156 (y8_156 + 1) q197 c200 n198 F199 _ _ (by omega) (⟨by omega, by omega, by omega, by omega⟩) hf202 (by omega) hB _ hl
                refine W.widen (k := 8 + 0 * 2) (n := 1058 + 0 * 1640) (by omega) (by omega) ?_
                exact lp156 _ 0 b123 0 16 (fun _ => 0) _ _ (by omega) (⟨by omega, by omega, by omega, by omega⟩) sb_fit0 (Nat.lt_succ_self _) hB _ hl
              · have hcn := nlt_of c121 (by omega) hcb
                refine lv_aload hx hb dX10_rest_108 (lv_at hl 2 rfl) ?_
                refine lv_iload hx hb dX10_rest_110 (lv_at hl 0 rfl) ?_
                refine lv_lload hx hb dX10_rest_112 (lv_at hl 1 rfl) ?_
                refine lv_aload_n hx hb dX10_rest_114 rfl (lv_at hl 3 rfl) ?_
                refine lv_iload hx hb dX10_rest_115 (lv_at hl 0 rfl) ?_
                refine lv_iload hx hb dX10_rest_117 (lv_at hl 0 rfl) ?_
                refine call_V (n := 2) (k0 := 2) (As := [.int y7_103, .int y7_103]) (rest := [.long y5_103, .int y7_103, .ref q37]) hX hB (k_X7_at κ l (iA κ q37 R17 bq37_103 :: lA κ q16 (R17 * 5) F19 :: gO q15 R17 C18 q16 :: mw κ a r f (va_up (va_up q 3 t11) 3 t34) (tb a) w) 2 1 q15 q16 R17 C18 F19 y7_103 ((y7_103).toNatClampNeg) y7_103 ((y7_103).toNatClampNeg) rfl rfl ⟨by omega, by omega, by omega, by omega⟩ (nI_rep (Int32.not_lt.mp (by assumption))) (nI_rep (Int32.not_lt.mp (by assumption))) (by omega)) ⟨rfl, yk_X7_at⟩ wm_5_237 wm_5_238 wm_5_239 wm_1_7 wm_6_0 ⟨Nat.le_of_ble_eq_true rfl, Nat.le_of_ble_eq_true rfl⟩ ⟨Nat.le_of_ble_eq_true rfl, Nat.le_of_ble_eq_true rfl⟩ rfl rfl rfl rfl hl.1 rfl (Nat.le_of_ble_eq_true rfl) dX10_rest_119 (fun o w' H locs hp hB => ?_)
                obtain ⟨rfl, hw9⟩ := hp
                replace hB : Bd κ A s (iA κ q37 R17 bq37_103 :: lA κ q16 (R17 * 5) F19 :: gO q15 R17 C18 q16 :: mw κ a r f (va_up (va_up q 3 t11) 3 t34) (tb a) w) H locs := by rw [hw9] at hB; exact hB
                refine W.eq (g2 := F0 m 122 ls [.long (F19 (((y7_103).toNatClampNeg) * 5 + ((y7_103).toNatClampNeg))), .long y5_103, .int y7_103, .ref q37]) rfl ?_
                refine lv_lrem hx hb dX10_rest_122 (hdN _ (by omega)) ?_
                refine lv_l2i hx hb dX10_rest_123 rfl ?_
                refine iastG (k0 := 0) hX hB rfl (vp_in_c (by assumption) hcn) (w1 := iA κ q37 R17 (upd bq37_103 y7_103.toNatClampNeg (((y5_103 - y5_103 / (F19 (((y7_103).toNatClampNeg) * 5 + ((y7_103).toNatClampNeg))) * (F19 (((y7_103).toNatClampNeg) * 5 + ((y7_103).toNatClampNeg))))).toInt32)) :: lA κ q16 (R17 * 5) F19 :: gO q15 R17 C18 q16 :: mw κ a r f (va_up (va_up q 3 t11) 3 t34) (tb a) w) rfl dX10_rest_124 (fun H locs hB => ?_)
                refine lv_lload hx hb dX10_rest_125 (lv_at hl 1 rfl) ?_
                refine lv_aload_n hx hb dX10_rest_127 rfl (lv_at hl 3 rfl) ?_
                refine lv_iload hx hb dX10_rest_128 (lv_at hl 0 rfl) ?_
                refine lv_iload hx hb dX10_rest_130 (lv_at hl 0 rfl) ?_
                refine call_V (n := 2) (k0 := 2) (As := [.int y7_103, .int y7_103]) (rest := [.long y5_103]) hX hB (k_X7_at κ l (iA κ q37 R17 (upd bq37_103 y7_103.toNatClampNeg (((y5_103 - y5_103 / (F19 (((y7_103).toNatClampNeg) * 5 + ((y7_103).toNatClampNeg))) * (F19 (((y7_103).toNatClampNeg) * 5 + ((y7_103).toNatClampNeg))))).toInt32)) :: lA κ q16 (R17 * 5) F19 :: gO q15 R17 C18 q16 :: mw κ a r f (va_up (va_up q 3 t11) 3 t34) (tb a) w) 2 1 q15 q16 R17 C18 F19 y7_103 ((y7_103).toNatClampNeg) y7_103 ((y7_103).toNatClampNeg) rfl rfl ⟨by omega, by omega, by omega, by omega⟩ (nI_rep (Int32.not_lt.mp (by assumption))) (nI_rep (Int32.not_lt.mp (by assumption))) (by omega)) ⟨rfl, yk_X7_at⟩ wm_5_237 wm_5_238 wm_5_239 wm_1_7 wm_6_0 ⟨Nat.le_of_ble_eq_true rfl, Nat.le_of_ble_eq_true rfl⟩ ⟨Nat.le_of_ble_eq_true rfl, Nat.le_of_ble_eq_true rfl⟩ rfl rfl rfl rfl hl.1 rfl (Nat.le_of_ble_eq_true rfl) dX10_rest_132 (fun o w' H locs hp hB => ?_)
                obtain ⟨rfl, hw9⟩ := hp
                replace hB : Bd κ A s (iA κ q37 R17 (upd bq37_103 y7_103.toNatClampNeg (((y5_103 - y5_103 / (F19 (((y7_103).toNatClampNeg) * 5 + ((y7_103).toNatClampNeg))) * (F19 (((y7_103).toNatClampNeg) * 5 + ((y7_103).toNatClampNeg))))).toInt32)) :: lA κ q16 (R17 * 5) F19 :: gO q15 R17 C18 q16 :: mw κ a r f (va_up (va_up q 3 t11) 3 t34) (tb a) w) H locs := by rw [hw9] at hB; exact hB
                refine W.eq (g2 := F0 m 135 ls [.long (F19 (((y7_103).toNatClampNeg) * 5 + ((y7_103).toNatClampNeg))), .long y5_103]) rfl ?_
                refine lv_ldiv hx hb dX10_rest_135 (hdN _ (by omega)) ?_
                refine lv_lstore (lv' := [(5, .long (y5_103 / (F19 (((y7_103).toNatClampNeg) * 5 + ((y7_103).toNatClampNeg))))), (7, .int y7_103), (4, .ref q37), (3, .ref q15), (0, .ref (a 0)), (1, .int y), (2, .int z)]) hx hb dX10_rest_136 hl (by decide) rfl (fun ls hl => ?_)
                refine lv_iinc (v := y7_103 + -1) (lv' := [(7, .int (y7_103 + -1)), (5, .long (y5_103 / (F19 (((y7_103).toNatClampNeg) * 5 + ((y7_103).toNatClampNeg))))), (4, .ref q37), (3, .ref q15), (0, .ref (a 0)), (1, .int y), (2, .int z)]) hx hb dX10_rest_138 hl (k := 1) rfl rfl (by decide) rfl (fun ls hl => ?_)
                refine lv_goto (tgt := 103) hx hb dX10_rest_141 (by decide) ?_
                exact ih103 (y7_103 + -1) (y5_103 / (F19 (((y7_103).toNatClampNeg) * 5 + ((y7_103).toNatClampNeg)))) (upd bq37_103 y7_103.toNatClampNeg (((y5_103 - y5_103 / (F19 (((y7_103).toNatClampNeg) * 5 + ((y7_103).toNatClampNeg))) * (F19 (((y7_103).toNatClampNeg) * 5 + ((y7_103).toNatClampNeg))))).toInt32)) _ _ (dec_lt hcb c121) (gapd_step c121 hμ103) hB _ hl
          exact lp103 _ (nI (R17 - 1)) ((z).toInt64) (fun _ => 0) _ _ (by rw [nleP (by omega) (by omega)]; omega) (Nat.lt_succ_self _) hB _ hl
        · refine lv_iconst (v := 1) hx hb dX10_rest_69 (by decide) ?_
          refine lv_goto (tgt := 74) hx hb dX10_rest_70 (by decide) ?_
          refine call_V (n := 3) (k0 := 2) (As := [.int 0, .int 0, .int 1]) (rest := []) hX hB (o_X10_isThrown κ l (lA κ q16 (R17 * 5) F19 :: gO q15 R17 C18 q16 :: mw κ a r f (va_up q 3 t11) (tb a) w) 2 (a 0) (a 1) ((va_up q 3 t11) 0) ((va_up q 3 t11) 1) ((va_up q 3 t11) 2) ((va_up q 3 t11) 3) 0 0 1 (mw0x (a := a) (r := r) (f := f) (q := (va_up q 3 t11)) (T := tb a) (w := w) rfl)) ⟨rfl, yk_X10_isThrown⟩ wm_5_196 wm_5_198 wp_28 wm_1_6 wm_5_199 ⟨Nat.le_of_ble_eq_true rfl, Nat.le_of_ble_eq_true rfl⟩ ⟨Nat.le_of_ble_eq_true rfl, Nat.le_of_ble_eq_true rfl⟩ (mw0x (a := a) (r := r) (f := f) (q := (va_up q 3 t11)) (T := tb a) (w := w) rfl) rfl rfl rfl hl.1 rfl (Nat.le_of_ble_eq_true rfl) dX10_rest_74 (fun o w' H locs hp hB => ?_)
          obtain ⟨x203, t204, rfl, hf205, hw9⟩ := hp
          replace hB : Bd κ A s (lA κ q16 (R17 * 5) F19 :: gO q15 R17 C18 q16 :: mw κ a r f (va_up (va_up q 3 t11) 3 t204) (tb a) w) H locs := by exact Bd_eq (congrArg (List.cons _) (congrArg (List.cons _) (mwQ3x rfl _))) (by rw [hw9] at hB; exact hB)
          obtain rfl : x203 = 1 := hf205.trans (by decide)
          refine W.eq (g2 := F0 m 77 ls [.int 1]) rfl ?_
          refine lv_if_eq (tgt := 83) hx hb dX10_rest_77 (by decide) (fun c206 => False.elim (by revert c206; decide)) (fun _ => ?_)
          refine ldcT (i := 0) hX hX.2.1.2.2.1.2.1.1 dX10_rest_80 ?_
          replace hB : Bd κ A s (lA κ q16 (R17 * 5) F19 :: mw κ a r f (va_up (va_up q 3 t11) 3 t204) (tb a) w) H locs := Bd_del 1 hB
          replace hB : Bd κ A s (mw κ a r f (va_up (va_up q 3 t11) 3 t204) (tb a) w) H locs := Bd_del 0 hB
          rw [← hQ]
          exact end_a hX hB hA3 rfl (Or.inr ⟨_, rfl⟩) ⟨(adK κ 0), (va_up (va_up q 3 t11) 3 t204), rfl, ⟨rfl, rfl, rfl⟩, rfl⟩ (Nat.le_of_ble_eq_true rfl) (Nat.le_of_ble_eq_true rfl) dX10_rest_82
set_option maxHeartbeats 4000000 in
set_option maxRecDepth 100000 in
theorem k_X10_thrown (κ : Kt) (l : Launch) (w : va_W) (a r : Nat → Nat) (f : Nat → Nat → Int64) (q : Nat → Int32) (hm : mok r f) : CM κ l yX10_thrown cX10_thrown 1 (some .int) 0 0 0 0 [.ref (a 0)] (mw κ a r f q (tb a) w) (fun o w' => o = some (.int (q 3)) ∧ w' = mw κ a r f q (tb a) w) := by
  refine CM_begin (plainFor_of_name pn_RX10) (Nat.le_of_ble_eq_true rfl) ?_
  intro p e s m args below meth c A Q hX hnm hA3 hQ hB ls hl
  have hx := hX.1.1
  have hb := hX.1.2.1
  have hl : lv_has ls 1 [(0, .ref (a 0))] := hl
  refine lv_aload_n hx hb dX10_thrown_0 rfl (lv_at hl 0 rfl) ?_
  refine gf (k0 := 0) hX hB (mw0x (a := a) (r := r) (f := f) (q := q) (T := tb a) (w := w) rfl) rfl in10 4 (by decide) wm_5_166 rfl rfl dX10_thrown_1 ?_
  rw [← hQ]
  exact end_i hX hB hA3 rfl rfl ⟨rfl, rfl⟩ (Nat.le_of_ble_eq_true rfl) (Nat.le_of_ble_eq_true rfl) dX10_thrown_4
end
