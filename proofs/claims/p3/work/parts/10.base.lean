/-! ===== The plumbing: a world is a list of cells; a contract over it; a call ===== -/
/-- the constants of a run: the tables' classes, the arrays' classes, where the start's heap ends -/
abbrev Kt : Type := va_G × (Nat → ClassId) × Nat
def tysK (κ : Kt) : List (ClassId × FieldType) := [(κ.2.1 0, .long), (κ.2.1 1, .object "Gridmender$Grid"), (κ.2.1 2, .object "GridmenderModel$Grid"), (κ.2.1 3, .byte), (κ.2.1 4, .int)]
def Nst (U : State) : Prop := ∀ w ∈ wNest, va_Nw w U
theorem Nst.use {U : State} {w : Cond} (h : Nst U) (hw : w ∈ wNest) : va_Nw w U := h w hw
theorem Nst.warm {s U : State} (hW : s.WarmedH U.vm) (h : Nst s) : Nst U := by
  intro w hw
  have h1 := h w hw
  have h2 := (List.mem_filter.mp hw).2
  cases w <;> first | (simp [wNk] at h2; done) | exact va_Nw.warmF hW h1 | exact va_Nw.warmM hW h1 | exact va_Nw.warmC hW h1 | exact va_Nw.warmD hW h1 | exact Cond.privateMethod_warm (args := #[]) (args' := #[]) hW h1 | exact va_tabs rfl (rfl : (s.setVm U.vm).vm = U.vm) (by rw [Cond.native_setVm hW.alike]; exact h1)
theorem Nst.same {u U : State} (hv : u.vm = U.vm) (h : Nst u) : Nst U := by
  intro w hw
  have h1 := h w hw
  have h2 := (List.mem_filter.mp hw).2
  cases w <;> first | (simp [wNk] at h2; done) | exact va_Nw.same rfl hv h1
abbrev Az (κ : Kt) : Nat → Prop := fun q => κ.2.2 ≤ q
/-- the texts that the exceptions of the class are made with, by their places -/
def strs : List (Nat × String) := [(273, "no such table"), (276, "no such row or column"), (280, "not allowed here"), (283, "the table does not allow it"), (225, "the steps are great")]
/-- an exception of one of these classes isn't of the other -/
def Ncs (U : State) : Prop := va_Nc "java/lang/IllegalArgumentException" "java/lang/IndexOutOfBoundsException" U ∧ va_Nc "java/lang/IllegalStateException" "java/lang/IndexOutOfBoundsException" U ∧ va_Nc "java/lang/IllegalStateException" "java/lang/IllegalArgumentException" U ∧ va_Nc "java/lang/IllegalArgumentException" "java/lang/IllegalStateException" U
theorem Ncs.moved {u U : State} (hv : u.vm.Alike U.vm) (h : Ncs u) : Ncs U := ⟨h.1.moved hv, h.2.1.moved hv, h.2.2.1.moved hv, h.2.2.2.moved hv⟩
def Sn (U : State) : Prop := (∀ x ∈ strs, ∃ a, vk_R "Gridmender" x.1 x.2 a U) ∧ va_AO "Gridmender$Grid" U ∧ va_AO "GridmenderModel$Grid" U ∧ Ncs U
theorem Sn.warm {s U : State} (hW : s.WarmedH U.vm) (h : Sn s) : Sn U := ⟨fun x hx => by
  obtain ⟨a, ha⟩ := h.1 x hx
  exact ⟨a, ha.warm hW⟩, h.2.1.moved hW.alike, h.2.2.1.moved hW.alike, h.2.2.2.moved hW.alike⟩
theorem Sn.same {u U : State} (hv : u.vm = U.vm) (h : Sn u) : Sn U := by
  have e : u.vm.Alike U.vm := by rw [hv]; exact Vm.Alike.refl _
  refine ⟨fun x hx => ?_, h.2.1.moved e, h.2.2.1.moved e, h.2.2.2.moved e⟩
  obtain ⟨a, ha⟩ := h.1 x hx
  exact ⟨a, vk_R.same hv.symm ha⟩
/-- statics of the JDK that are read, and the texts of the reference -/
def Zs (κ : Kt) (U : State) (H : Heap) : Prop :=
  vx_Zq Bundle.tN "UNASSIGNED_STACK" Bundle.steD (Az κ) U H ∧ vx_Zq Bundle.tN "SUPPRESSED_SENTINEL" Bundle.listD (Az κ) U H ∧ va_Z "java/lang/String" "COMPACT_STRINGS" "Z" (.int 1) (Az κ) U H ∧
  (∃ (t : Nat) (f : Nat → Int32), va_Z "java/lang/Integer" "DigitTens" "[B" (.ref t) (Az κ) U H ∧ va_T .byte t 100 (fun j => .int (f j)) (Az κ) U H) ∧
  (∃ (t : Nat) (f : Nat → Int32), va_Z "java/lang/Integer" "DigitOnes" "[B" (.ref t) (Az κ) U H ∧ va_T .byte t 100 (fun j => .int (f j)) (Az κ) U H)
theorem Zs.moved {κ : Kt} {u U : State} {H : Heap} (hv : u.vm.Alike U.vm) (h : Zs κ u H) : Zs κ U H := by
  obtain ⟨h1, h2, h3, ⟨t, f, h4, h5⟩, t', f', h6, h7⟩ := h
  exact ⟨h1.moved hv, h2.moved hv, h3.moved hv, ⟨t, f, h4.moved hv, h5.moved hv⟩, t', f', h6.moved hv, h7.moved hv⟩
theorem Zs.kept {κ : Kt} {U : State} {H H1 : Heap} (h : Zs κ U H) (hq : ∀ a : Nat, a < H.size → ¬ κ.2.2 ≤ a → H1[a]? = H[a]?) : Zs κ U H1 := by
  obtain ⟨h1, h2, h3, ⟨t, f, h4, h5⟩, t', f', h6, h7⟩ := h
  exact ⟨h1.kept hq, h2.kept hq, h3.kept hq, ⟨t, f, h4.kept hq, h5.kept hq⟩, t', f', h6.kept hq, h7.kept hq⟩
/-- where the texts of the reference lie -/
abbrev adK (κ : Kt) : Nat → Nat := κ.1.2 100
abbrev adV (κ : Kt) : Nat → Nat := κ.1.2 101
def Zt (κ : Kt) (U : State) (H : Heap) : Prop := vk_R "GridmenderModel" 205 "" (adK κ 0) U ∧ vk_R "GridmenderModel" 210 " " (adK κ 1) U ∧ vk_R "GridmenderModel" 212 "/" (adK κ 2) U ∧ vk_S 3 [0, 1, 1] [[], [32], [47]] (adK κ) (adV κ) (Az κ) U H
theorem Zt.warm {κ : Kt} {s U : State} {H : Heap} (hW : s.WarmedH U.vm) (h : Zt κ s H) : Zt κ U H := by
  obtain ⟨h1, h2, h3, h4⟩ := h
  exact ⟨h1.warm hW, h2.warm hW, h3.warm hW, h4.moved hW.alike⟩
theorem Zt.same {κ : Kt} {u U : State} {H : Heap} (hv : u.vm = U.vm) (h : Zt κ u H) : Zt κ U H := by
  obtain ⟨h1, h2, h3, h4⟩ := h
  exact ⟨vk_R.same hv.symm h1, vk_R.same hv.symm h2, vk_R.same hv.symm h3, h4.moved (by rw [hv]; exact Vm.Alike.refl _)⟩
theorem Zt.kept {κ : Kt} {U : State} {H H1 : Heap} (h : Zt κ U H) (hq : ∀ a : Nat, a < H.size → ¬ κ.2.2 ≤ a → H1[a]? = H[a]?) : Zt κ U H1 := by
  obtain ⟨h1, h2, h3, h4⟩ := h
  exact ⟨h1, h2, h3, h4.kept hq⟩
/-- what every method may ask of the machine -/
def Ev (κ : Kt) (U : State) (H : Heap) : Prop := va_K κ.1 vwCl (tysK κ) U ∧ Nst U ∧ (Zs κ U H ∧ Zt κ U H ∧ Sn U) ∧ κ.2.2 ≤ H.size
theorem Ev.warm {κ : Kt} {s U : State} {H : Heap} (hW : s.WarmedH U.vm) (h : Ev κ s H) : Ev κ U H := ⟨h.1.moved hW.alike, h.2.1.warm hW, ⟨h.2.2.1.1.moved hW.alike, h.2.2.1.2.1.warm hW, h.2.2.1.2.2.warm hW⟩, h.2.2.2⟩
theorem Ev.same {κ : Kt} {s U : State} {H : Heap} (hv : s.vm = U.vm) (h : Ev κ s H) : Ev κ U H := by
  have hA : s.vm.Alike U.vm := by rw [hv]; exact Vm.Alike.refl _
  exact ⟨h.1.moved hA, h.2.1.same hv, ⟨h.2.2.1.1.moved hA, h.2.2.1.2.1.same hv, h.2.2.1.2.2.same hv⟩, h.2.2.2⟩
theorem Ev.kept {κ : Kt} {U : State} {H H1 : Heap} (h : Ev κ U H) (hz : H.size ≤ H1.size) (hq : ∀ a : Nat, a < H.size → ¬ κ.2.2 ≤ a → H1[a]? = H[a]?) : Ev κ U H1 := ⟨h.1, h.2.1, ⟨h.2.2.1.1.kept hq, h.2.2.1.2.1.kept hq, h.2.2.1.2.2⟩, Nat.le_trans h.2.2.2 hz⟩
/-- the addresses of a world -/
def Fw (w : va_W) (q : Nat) : Prop := ∃ e : va_E, (q, e) ∈ w
theorem Fw_at {w : va_W} {q : Nat} (h : Fw w q) : ∃ (k : Nat) (e : va_E), w[k]? = some (q, e) := by
  obtain ⟨e, h⟩ := h
  obtain ⟨k, hk⟩ := List.getElem?_of_mem h
  exact ⟨k, e, hk⟩
theorem D_of {A : Nat → Prop} {w : va_W} (hD : va_D A w) {q : Nat} (h : Fw w q) : A q := by
  obtain ⟨k, e, hk⟩ := Fw_at h
  exact hD.2 k _ hk
theorem P_kept {D : va_G} {cl : List vw_C} {w : va_W} {H H1 : Heap} (h : va_P D cl w H) (hq : ∀ q, Fw w q → H1[q]? = H[q]?) : va_P D cl w H1 := fun k q hk => (h k q hk).kept (hq q.1 ⟨q.2, List.mem_of_getElem? hk⟩)
theorem P_lt {D : va_G} {cl : List vw_C} {w : va_W} {H : Heap} (h : va_P D cl w H) {q : Nat} (hf : Fw w q) : q < H.size := by
  obtain ⟨k, e, hk⟩ := Fw_at hf
  exact (h k _ hk).lt
abbrev Ac (w : va_W) (sz : Nat) : Nat → Prop := fun q => Fw w q ∨ sz ≤ q
/-- a method's end: its answer, its world -/
def Qm (κ : Kt) (w : va_W) (post : Option Value → va_W → Prop) (sz : Nat) : Array Value → State → Outcome → State → Prop := fun _ st oc t =>
  (∃ (r : Option Value) (w' : va_W), oc = .returned r ∧ post r w' ∧ va_P κ.1 vwCl w' t.heap ∧ va_D (Ac w sz) w') ∧ va_F (Ac w sz) st t
def Pm (κ : Kt) (av : List Value) (w : va_W) (sz : Nat) : Array Value → State → Prop := va_Pc av (fun U => U.heap.size = sz ∧ Ev κ U U.heap ∧ va_P κ.1 vwCl w U.heap ∧ va_D (Az κ) w)
abbrev Rm (fr lo mc ms : Nat) : Room := { frames := fr, cells := mc, slots := ms, locals := lo }
/-- a contract: from the world w with these arguments the method returns, with 'post' of its answer and of the world behind it -/
def CM (κ : Kt) (l : Launch) (y : MethodName) (cc : ByteArray) (n : Nat) (ret : Option FieldType) (fr lo mc ms : Nat) (av : List Value) (w : va_W) (post : Option Value → va_W → Prop) : Prop :=
  ∀ sz : Nat, Met l y (Cond.code y cc n ret :: wAll) (Rm fr lo mc ms) (Pm κ av w sz) (Qm κ w post sz) mc ms (Ac w sz)
theorem gAll {y : MethodName} {cc : ByteArray} {n : Nat} {ret : Option FieldType} (h : Cond.code y cc n ret ∈ wAll) : GoodIn wAll (Cond.code y cc n ret :: wAll) := fun w hw => by
  rcases List.mem_cons.mp hw with rfl | hw
  · exact ⟨h, good_of_word (wAll_good h)⟩
  · exact ⟨hw, good_of_word (wAll_good hw)⟩
theorem gAll1 {ws : List Cond} {w : Cond} (h : w ∈ wAll) (g : GoodIn wAll ws) : GoodIn wAll (w :: ws) := fun x hx => by
  rcases List.mem_cons.mp hx with rfl | hx
  · exact ⟨h, good_of_word (wAll_good h)⟩
  · exact g x hx
theorem Pm_blind {κ : Kt} {av : List Value} {w : va_W} {sz : Nat} : FrameBlind (Pm κ av w sz) := by
  intro a U g mk h
  obtain ⟨h1, h2, h3, h4, h5⟩ := h
  exact ⟨h1, h2, Ev.same (s := U) rfl h3, h4, h5⟩
section GMW
variable {p : Program} {l : Launch} {e : Env} {R : Room} {s : State} {m : MethodId} {args : Array Value} {below : List Frame} {meth : Method} {c : Code} {H : Heap} {locs : List Loc} {cells slots : Nat} {Q : State → Prop}
/-- what stays true all through a method's body -/
def Cx (κ : Kt) (p : Program) (m : MethodId) (c : Code) (cc : ByteArray) (nL : Nat) (s : State) (args : Array Value) (own : String) (meth : Method) (ret : Option FieldType) (A : Nat → Prop) : Prop :=
  CallFix p m c cc nL s args wAll own ∧ Ev κ s s.heap ∧ (∀ q, A q → κ.2.2 ≤ q) ∧ (∀ q, s.heap.size ≤ q → A q) ∧ meth.sig.returnType = ret ∧ meth.locks = false
/-- the world within the body, now -/
def Bd (κ : Kt) (A : Nat → Prop) (s : State) (w : va_W) (H : Heap) (locs : List Loc) : Prop := va_P κ.1 vwCl w H ∧ va_D A w ∧ va_S A s.heap H locs
variable {κ : Kt} {cc : ByteArray} {nL : Nat} {own : String} {ret : Option FieldType} {A : Nat → Prop} {w : va_W}
theorem Cx.env (hX : Cx κ p m c cc nL s args own meth ret A) (hS : va_S A s.heap H locs) : Ev κ s H := hX.2.1.kept hS.1 (fun a h1 h2 => hS.2.1 a h1 (fun h => h2 (hX.2.2.1 a h)))
theorem Cx.D (hX : Cx κ p m c cc nL s args own meth ret A) (hD : va_D A w) : va_D (Az κ) w := hD.weaken (fun _ q _ h => hX.2.2.1 q.1 h)

/-- the end of a body -/
def Zm (κ : Kt) (below : List Frame) (w0 : va_W) (post : Option Value → va_W → Prop) (a : Array Value) (s : State) (mc ms : Nat) : State → Prop := MQ below (Qm κ w0 post s.heap.size) a s mc ms (Ac w0 s.heap.size)
theorem CM_start {y : MethodName} {fr lo mc ms : Nat} {av : List Value} {post : Option Value → va_W → Prop} (hy : plainFor y = true) (hn : (lg_sl av).length ≤ nL)
    (body : ∀ (p : Program) (e : Env) (s : State) (m : MethodId) (below : List Frame) (meth : Method) (c : Code) (A : Nat → Prop), Cx κ p m c cc nL s av.toArray y.cls meth ret A → meth.name = y.name → (∀ q, A q → Fw w q ∨ s.heap.size ≤ q) → Bd κ A s w s.heap [] → ∀ ls : Array Slot, lv_has ls nL (lv_args 0 av) →
      W p l e (Rm fr lo mc ms) s m av.toArray below meth c s.heap [] 0 0 (Zm κ below w post av.toArray s mc ms) (F0 m 0 ls [])) : CM κ l y cc nL ret fr lo mc ms av w post := by
  intro sz
  refine va_MetF (cc := cc) (maxL := nL) (ret := ret) hy rfl ?_
  intro p e s m args below meth c s₁ B hml hv
  obtain ⟨rfl, hsz, hE, hP, hD⟩ := hv
  subst hsz
  have hts := atoms_spec (ws := Cond.code y cc nL ret :: wAll) B.pre
  have hown : s.vm.findClass y.cls = some m.cls := findClass_of_methodNamed B.named
  have hl := lv_entry av hn
  rw [lg_entry_eq]
  generalize (lg_sl av ++ List.replicate (nL - (lg_sl av).length) Slot.unset).toArray = ls at hl ⊢
  exact body p e s m below meth c (Ac w s.heap.size) ⟨⟨B.exec, B.bytes, hml, hown, fun x hx => hts x (List.mem_cons_of_mem _ hx)⟩, hE, fun q hq => hq.elim (fun h => D_of hD h) (fun h => Nat.le_trans hE.2.2.2 h), fun q h => Or.inr h, B.returns, B.notSynchronized⟩ (name_of_methodNamed B.named B.method).1 (fun q h => h) ⟨hP, ⟨hD.1, fun k q hk => Or.inl ⟨q.2, List.mem_of_getElem? hk⟩⟩, va_S.rf⟩ ls hl
theorem CM_begin {y : MethodName} {fr lo mc ms : Nat} {av : List Value} {post : Option Value → va_W → Prop} (hy : plainFor y = true) (hn : (lg_sl av).length ≤ nL)
    (body : ∀ (p : Program) (e : Env) (s : State) (m : MethodId) (args : Array Value) (below : List Frame) (meth : Method) (c : Code) (A : Nat → Prop) (Q : State → Prop), Cx κ p m c cc nL s args y.cls meth ret A → meth.name = y.name → (∀ q, A q → Fw w q ∨ s.heap.size ≤ q) → Zm κ below w post args s mc ms = Q → Bd κ A s w s.heap [] → ∀ ls : Array Slot, lv_has ls nL (lv_args 0 av) →
      W p l e (Rm fr lo mc ms) s m args below meth c s.heap [] 0 0 Q (F0 m 0 ls [])) : CM κ l y cc nL ret fr lo mc ms av w post :=
  CM_start hy hn (fun p e s m below meth c A hX hnm hA3 hB ls hl => body p e s m _ below meth c A _ hX hnm hA3 rfl hB ls hl)
/-- behind a call -/
theorem CM_after {post : Option Value → va_W → Prop} {mc ms pc : Nat} {ls : Array Slot} {rest st0 : List Value} {a : Array Value} (hX : Cx κ p m c cc nL s args own meth ret A) (hB : Bd κ A s w H locs)
    (hr : va_Run p l e R s m args below meth c H locs cells slots mc ms (F0 m pc ls st0) rest (Qm κ w post H.size a) (Ac w H.size))
    (kk : ∀ (r : Option Value) (w' : va_W) (H1 : Heap) (locs1 : List Loc), post r w' → Bd κ A s w' H1 locs1 → W p l e R s m args below meth c H1 locs1 (cells + mc) (slots + ms) Q (F0 m (pc + 3) ls (r.toList ++ rest))) : W p l e R s m args below meth c H locs cells slots Q (F0 m pc ls st0) := by
  intro T hT X
  obtain ⟨v, st₀, t, T', L, h0, X', hL, e1, e2, ⟨⟨r, w', hv, hp, hP, hD⟩, hz, hk⟩, st⟩ := hr T hT X
  cases hv
  rw [h0] at hz hk
  obtain ⟨hP0, hD0, hS⟩ := hB
  have hf : ∀ q, Ac w H.size q → A q := fun q h => h.elim (fun h => D_of hD0 h) (fun h => hX.2.2.2.1 q (Nat.le_trans hS.1 h))
  obtain ⟨t2, a1, b1⟩ := kk v w' T'.heap (locs ++ L) hp ⟨by rw [e1]; exact hP, hD.weaken (fun _ q _ h => hf q.1 h), ⟨Nat.le_trans hS.1 (by rw [e1]; exact hz), fun q h1 h2 => by rw [e1, hk q (Nat.lt_of_lt_of_le h1 hS.1) (fun z => h2 (hf q z))]; exact hS.2.1 q h1 h2, fun q hq => by
      rcases List.mem_append.mp hq with h | h
      · exact hS.2.2 q h
      · exact hf _ (hL q h)⟩⟩ T' rfl X'
  exact ⟨t2, st t2 a1, b1⟩
theorem Pm_at (hX : Cx κ p m c cc nL s args own meth ret A) (hB : Bd κ A s w H locs) {av : List Value} : ∀ U : State, U.heap = H → s.WarmedH U.vm → Pm κ av w H.size av.toArray U := by
  intro U hU hW
  obtain ⟨hP, hD, hS⟩ := hB
  subst hU
  exact ⟨rfl, rfl, (Cx.env hX hS).warm hW, hP, Cx.D hX hD⟩
/-- what the compiler says of a callee -/
abbrev Yk (y : MethodName) (n : Nat) : Prop := y.cls ≠ "java/lang/invoke/MethodHandle" ∧ y.cls ≠ "java/lang/invoke/VarHandle" ∧ (parseMethodDescriptor y.desc).map (fun d => d.parameters.length) = some n
theorem call_V {post : Option Value → va_W → Prop} {y : MethodName} {C : String} {bytes : ByteArray} {maxL fr lo mc ms n index pc b : Nat} {rt : Option FieldType} {ls : Array Slot} {As rest st0 : List Value} (hX : Cx κ p m c cc nL s args own meth ret A) (hB : Bd κ A s w H locs)
    (hM : CM κ l y bytes maxL rt fr lo mc ms (.ref b :: As) w post) (hy : y.cls = C ∧ Yk y n) (m1 : Cond.methodLink own index y ∈ wAll) (m2 : Cond.instanceMethod y ∈ wAll) (m3 : Cond.selects C y y ∈ wAll) (m4 : Cond.initialized C ∈ wAll) (m5 : Cond.code y bytes maxL rt ∈ wAll)
    (hR : fr + 1 ≤ R.frames ∧ 8 + (maxL + 11) + lo ≤ R.locals) (hf : cells + mc ≤ R.cells ∧ slots + ms ≤ R.slots) {k0 ci : Nat} {q : vw_C} {fs : List Value} (he : w[k0]? = some (b, .inr (ci, fs))) (hc : vwCl[ci]? = some q) (hq : q.1 = C)
    (hn : As.length = n) (hl : ls.size = nL) (hst : st0 = As.reverse ++ .ref b :: rest) (hcat : (rest.map fun v => v.category).sum ≤ 8) (hdg : decode cc pc = .ok (.invokevirtual index, 3))
    (kk : ∀ (r : Option Value) (w' : va_W) (H1 : Heap) (locs1 : List Loc), post r w' → Bd κ A s w' H1 locs1 → W p l e R s m args below meth c H1 locs1 (cells + mc) (slots + ms) Q (F0 m (pc + 3) ls (r.toList ++ rest))) : W p l e R s m args below meth c H locs cells slots Q (F0 m pc ls st0) := by
  refine CM_after hX hB (va_runV (As := As) (rest := rest) (nL := nL) (own := own) (C := C) (b := b) hX.1 (hM H.size) (cwV n hX.1.2.2.2.2 (gAll1 m1 (gAll1 m2 (gAll1 m3 (gAll1 m4 (gAll m5))))) rfl rfl rfl ⟨hy.1, hy.2⟩ hR) ⟨Pm_blind, ?_, Pm_at hX hB⟩ rfl hn hl hst (lv_room hcat) hdg hf) kk
  obtain ⟨cell, z1, z2, z3⟩ := va_recv hX.2.1.1 hB.1 hc he
  exact ⟨cell, z1, z2, by rw [← hq]; exact z3⟩
theorem call_S {post : Option Value → va_W → Prop} {y : MethodName} {bytes : ByteArray} {maxL fr lo mc ms n index pc : Nat} {rt : Option FieldType} {ls : Array Slot} {As rest st0 : List Value} (hX : Cx κ p m c cc nL s args own meth ret A) (hB : Bd κ A s w H locs)
    (hM : CM κ l y bytes maxL rt fr lo mc ms As w post) (hy : Yk y n) (m1 : Cond.methodLink own index y ∈ wAll) (m2 : Cond.static y ∈ wAll) (m4 : Cond.initialized y.cls ∈ wAll) (m5 : Cond.code y bytes maxL rt ∈ wAll)
    (hR : fr + 1 ≤ R.frames ∧ 8 + (maxL + 11) + lo ≤ R.locals) (hf : cells + mc ≤ R.cells ∧ slots + ms ≤ R.slots)
    (hn : As.length = n) (hl : ls.size = nL) (hst : st0 = As.reverse ++ rest) (hcat : (rest.map fun v => v.category).sum ≤ 8) (hdg : decode cc pc = .ok (.invokestatic index, 3))
    (kk : ∀ (r : Option Value) (w' : va_W) (H1 : Heap) (locs1 : List Loc), post r w' → Bd κ A s w' H1 locs1 → W p l e R s m args below meth c H1 locs1 (cells + mc) (slots + ms) Q (F0 m (pc + 3) ls (r.toList ++ rest))) : W p l e R s m args below meth c H locs cells slots Q (F0 m pc ls st0) := by
  have ht := hX.1.2.2.2.2
  exact CM_after hX hB (va_runS (As := As) (rest := rest) (nL := nL) (own := own) hX.1 (hM H.size) ⟨callB_of n ht (gAll m5) rfl rfl rfl (ht _ m4) (ht _ m1) hy hR, ht _ m2⟩ ⟨Pm_blind, Pm_at hX hB⟩ rfl hn hl hst (lv_room hcat) hdg hf) kk
theorem call_SN {post : Option Value → va_W → Prop} {y : MethodName} {host : String} {bytes : ByteArray} {maxL fr lo mc ms n index pc : Nat} {rt : Option FieldType} {ls : Array Slot} {As rest st0 : List Value} (hX : Cx κ p m c cc nL s args own meth ret A) (hB : Bd κ A s w H locs)
    (hM : CM κ l y bytes maxL rt fr lo mc ms As w post) (hy : Yk y n) (m1 : Cond.methodLinkNest own index y host ∈ wNest) (m2 : Cond.static y ∈ wAll) (m4 : Cond.initialized y.cls ∈ wAll) (m5 : Cond.code y bytes maxL rt ∈ wAll)
    (hR : fr + 1 ≤ R.frames ∧ 8 + (maxL + 11) + lo ≤ R.locals) (hf : cells + mc ≤ R.cells ∧ slots + ms ≤ R.slots)
    (hn : As.length = n) (hl : ls.size = nL) (hst : st0 = As.reverse ++ rest) (hcat : (rest.map fun v => v.category).sum ≤ 8) (hdg : decode cc pc = .ok (.invokestatic index, 3))
    (kk : ∀ (r : Option Value) (w' : va_W) (H1 : Heap) (locs1 : List Loc), post r w' → Bd κ A s w' H1 locs1 → W p l e R s m args below meth c H1 locs1 (cells + mc) (slots + ms) Q (F0 m (pc + 3) ls (r.toList ++ rest))) : W p l e R s m args below meth c H locs cells slots Q (F0 m pc ls st0) := by
  have ht := hX.1.2.2.2.2
  exact CM_after hX hB (va_runSN (As := As) (rest := rest) (nL := nL) (own := own) (host := host) hX.1 (hM H.size) ⟨va_cnB n ht (gAll m5) rfl rfl rfl (hX.2.1.2.1.use m1) (ht _ m4) hy hR, ht _ m2, trivial⟩ ⟨Pm_blind, Pm_at hX hB⟩ rfl hn hl hst (lv_room hcat) hdg hf) kk
theorem call_I {post : Option Value → va_W → Prop} {y : MethodName} {bytes : ByteArray} {maxL fr lo mc ms n index pc b : Nat} {ls : Array Slot} {As rest st0 : List Value} (hX : Cx κ p m c cc nL s args own meth ret A) (hB : Bd κ A s w H locs)
    (hM : CM κ l y bytes maxL none fr lo mc ms (.ref b :: As) w post) (hy : Yk y n) (hy1 : y.name = "<init>") (m1 : Cond.methodLink own index y ∈ wAll) (m2 : Cond.instanceMethod y ∈ wAll) (m4 : Cond.initialized y.cls ∈ wAll) (m5 : Cond.code y bytes maxL none ∈ wAll)
    (hR : fr + 1 ≤ R.frames ∧ 8 + (maxL + 11) + lo ≤ R.locals) (hf : cells + mc ≤ R.cells ∧ slots + ms ≤ R.slots)
    (hn : As.length = n) (hl : ls.size = nL) (hst : st0 = As.reverse ++ .ref b :: rest) (hcat : (rest.map fun v => v.category).sum ≤ 8) (hdg : decode cc pc = .ok (.invokespecial index, 3))
    (kk : ∀ (r : Option Value) (w' : va_W) (H1 : Heap) (locs1 : List Loc), post r w' → Bd κ A s w' H1 locs1 → W p l e R s m args below meth c H1 locs1 (cells + mc) (slots + ms) Q (F0 m (pc + 3) ls (r.toList ++ rest))) : W p l e R s m args below meth c H locs cells slots Q (F0 m pc ls st0) := by
  have ht := hX.1.2.2.2.2
  exact CM_after hX hB (va_runI (As := As) (rest := rest) (nL := nL) (own := own) (b := b) hX.1 (hM H.size) ⟨callB_of n ht (gAll m5) rfl rfl rfl (ht _ m4) (ht _ m1) hy hR, hy1, ht _ m2⟩ ⟨Pm_blind, Pm_at hX hB⟩ rfl hn hl hst (lv_room hcat) hdg hf) kk
theorem call_IN {post : Option Value → va_W → Prop} {y : MethodName} {host : String} {bytes : ByteArray} {maxL fr lo mc ms n index pc b : Nat} {ls : Array Slot} {As rest st0 : List Value} (hX : Cx κ p m c cc nL s args own meth ret A) (hB : Bd κ A s w H locs)
    (hM : CM κ l y bytes maxL none fr lo mc ms (.ref b :: As) w post) (hy : Yk y n) (hy1 : y.name = "<init>") (m1 : Cond.methodLinkNest own index y host ∈ wNest) (m2 : Cond.instanceMethod y ∈ wAll) (m4 : Cond.initialized y.cls ∈ wAll) (m5 : Cond.code y bytes maxL none ∈ wAll)
    (hR : fr + 1 ≤ R.frames ∧ 8 + (maxL + 11) + lo ≤ R.locals) (hf : cells + mc ≤ R.cells ∧ slots + ms ≤ R.slots)
    (hn : As.length = n) (hl : ls.size = nL) (hst : st0 = As.reverse ++ .ref b :: rest) (hcat : (rest.map fun v => v.category).sum ≤ 8) (hdg : decode cc pc = .ok (.invokespecial index, 3))
    (kk : ∀ (r : Option Value) (w' : va_W) (H1 : Heap) (locs1 : List Loc), post r w' → Bd κ A s w' H1 locs1 → W p l e R s m args below meth c H1 locs1 (cells + mc) (slots + ms) Q (F0 m (pc + 3) ls (r.toList ++ rest))) : W p l e R s m args below meth c H locs cells slots Q (F0 m pc ls st0) := by
  have ht := hX.1.2.2.2.2
  exact CM_after hX hB (va_runIN (As := As) (rest := rest) (nL := nL) (own := own) (host := host) (b := b) hX.1 (hM H.size) ⟨va_cnB n ht (gAll m5) rfl rfl rfl (hX.2.1.2.1.use m1) (ht _ m4) hy hR, hy1, ht _ m2⟩ ⟨Pm_blind, Pm_at hX hB⟩ rfl hn hl hst (lv_room hcat) hdg hf) kk
end GMW
