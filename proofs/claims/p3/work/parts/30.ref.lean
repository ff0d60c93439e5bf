/-! ===== The reference: rows over a world that grows; its grids ===== -/
section RFR
variable {p : Program} {l : Launch} {e : Env} {R : Room} {s : State} {m : MethodId} {args : Array Value} {below : List Frame} {meth : Method} {c : Code} {H : Heap} {locs : List Loc} {cells slots : Nat} {Q : State → Prop}
variable {κ : Kt} {cc : ByteArray} {nL : Nat} {own : String} {ret : Option FieldType} {A : Nat → Prop} {w : va_W}
variable {pc : Nat} {ls : Array Slot} {rest : List Value}
theorem Bd_pick {w1 : va_W} (pl : Nat → Nat) (hi : ∀ i j, pl i = pl j → i = j) (h : ∀ k q, w1[k]? = some q → w[pl k]? = some q) (hB : Bd κ A s w H locs) : Bd κ A s w1 H locs :=
  ⟨fun k q hk => hB.1 _ q (h k q hk), ⟨fun i j p q h1 h2 e => hi _ _ (hB.2.1.1 _ _ p q (h i p h1) (h j q h2) e), fun k q hk => hB.2.1.2 _ q (h k q hk)⟩, hB.2.2⟩
theorem Bd_tail {x : Nat × va_E} (hB : Bd κ A s (x :: w) H locs) : Bd κ A s w H locs := Bd_pick (fun k => k + 1) (fun i j h => Nat.succ.inj h) (fun k q h => h) hB
/-- the second cell goes -/
theorem Bd_tail2 {x y : Nat × va_E} (hB : Bd κ A s (x :: y :: w) H locs) : Bd κ A s (x :: w) H locs := Bd_pick (fun k => if k = 0 then 0 else k + 1) (fun i j h => by split at h <;> split at h <;> omega) (fun k q h => by
  cases k with
  | zero => exact h
  | succ n => exact h) hB
theorem Bd_rot {x : Nat × va_E} (hB : Bd κ A s (w ++ [x]) H locs) : Bd κ A s (x :: w) H locs := by
  refine Bd_pick (fun k => if k = 0 then w.length else if k - 1 < w.length then k - 1 else k) (fun i j h => ?_) (fun k q h => ?_) hB
  · repeat' split at h
    all_goals omega
  · cases k with
    | zero =>
      simp only [if_true]
      rw [List.getElem?_append_right (Nat.le_refl _), Nat.sub_self]
      exact h
    | succ n =>
      have h1 : w[n]? = some q := h
      have h2 := (List.getElem?_eq_some_iff.mp h1).1
      rw [if_neg (Nat.succ_ne_zero n), show n + 1 - 1 = n from rfl, if_pos h2]
      rw [List.getElem?_append_left h2]
      exact h1
theorem newO {C : String} {T : u_T} {N ci index : Nat} {fs : List Value} {ty : Nat → FieldType} (hX : Cx κ p m c cc nL s args own meth ret A) (hB : Bd κ A s w H locs) (hc : vwCl[ci]? = some (C, T, N)) (hin : ∀ x ∈ u_ws C T N, x ∈ wAll) (hty : ∀ k, k < N → parseFieldDescriptor (T k).2.2.1 = some (ty k)) (m1 : Cond.classLink own index C ∈ wAll) (m2 : Cond.instantiable C N ∈ wAll) (m3 : Cond.initialized C ∈ wAll) (hfs : ∀ j, j < N → defaultValue (ty j) = vp_V fs j) (hcells : cells + 1 ≤ R.cells) (hslots : slots + N ≤ R.slots) (hdg : decode cc pc = .ok (.new index, 3))
    (kk : ∀ (q : Nat) (H1 : Heap), Bd κ A s ((q, .inr (ci, fs)) :: w) H1 locs → W p l e R s m args below meth c H1 locs (cells + 1) (slots + N) Q (F0 m (pc + 3) ls (.ref q :: rest))) : W p l e R s m args below meth c H locs cells slots Q (F0 m pc ls rest) := by
  have ht := hX.1.2.2.2.2
  exact va_new (own := own) (C := C) (tys := tysK κ) (c0 := c) hX.1.1 hX.1.2.1 ht hin ty hty hX.1.2.2.2.1 (ht _ m1) (ht _ m2) (ht _ m3) hX.2.1.1 hB.1 hB.2.1 hB.2.2 hX.2.2.2.1 hc hfs hcells hslots hdg (fun q H1 h1 h2 h3 => kk q H1 (Bd_rot ⟨h1, h2, h3⟩))
/-- an array of a kind that the run's constants name -/
theorem newA {atype : ArrayType} {ty : FieldType} {cA : ClassId} {t0 N mx : Nat} {n : Int32} {a0 : vp_A} (hX : Cx κ p m c cc nL s args own meth ret A) (hB : Bd κ A s w H locs) (hty : newarray.typeOf atype = ty) (ht : (tysK κ)[t0]? = some (cA, ty)) (hRA : va_RA s cA ty → s.vm.findClass ("[" ++ ty.toString) = some cA) (m1 : Cond.arrayClass ty ∈ wAll) (ha : ∀ cA : ClassId, vp_cell cA a0 = arrV cA N (fun _ => defaultValue ty)) (hn : ¬ n < 0) (hN : n.toNatClampNeg = N) (hmx : N ≤ mx) (hbytes : mx * componentBytes ty ≤ 536870912) (hcells : cells + 1 ≤ R.cells) (hslots : slots + mx ≤ R.slots) (hdg : decode cc pc = .ok (.newarray atype, 2))
    (kk : ∀ (q : Nat) (H1 : Heap), Bd κ A s ((q, .inl (cA, a0)) :: w) H1 locs → W p l e R s m args below meth c H1 locs (cells + 1) (slots + mx) Q (F0 m (pc + 2) ls (.ref q :: rest))) : W p l e R s m args below meth c H locs cells slots Q (F0 m pc ls (.int n :: rest)) := by
  subst hty
  have hv := hX.1.2.2.2.2
  have h0 := hRA (hX.2.1.1.2 t0 _ ht).2
  have hP := hB.1
  have hS := hB.2.2
  have hs2 : slots + N ≤ R.slots := Nat.le_trans (Nat.add_le_add_left hmx _) hslots
  refine va_newaK hX.1.1 hX.1.2.1 (hv _ m1) rfl hdg rfl hn hN (Nat.le_trans (Nat.mul_le_mul_right _ hmx) hbytes) hcells hs2 rfl fun H1 cB e1 z1 o1 hAr hNm => ?_
  have hcc : cB = cA := Option.some.inj (hNm.symm.trans h0)
  subst hcc
  have hk : ∀ (k : Nat) (x : Nat × va_E), w[k]? = some x → H1[x.1]? = H[x.1]? := fun k x hx => o1 x.1 ((hP k x hx).lt)
  refine W.widen (Nat.le_refl _) (Nat.add_le_add_left hmx _) (kk H.size H1 (Bd_rot ⟨(hP.kept hk).app (fun k x hx => ?_), hB.2.1.push hP rfl (hX.2.2.2.1 _ hS.1), ⟨Nat.le_trans hS.1 (by omega), fun x h1 h2 => (o1 x (Nat.lt_of_lt_of_le h1 hS.1)).trans (hS.2.1 x h1 h2), hS.2.2⟩⟩))
  have hz : k < 1 := (List.getElem?_eq_some_iff.mp hx).1
  rw [show k = 0 by omega] at hx
  cases hx
  show H1[H.size]? = some (vp_cell _ _)
  rw [ha]
  exact e1
theorem pfF {k0 ci N b index : Nat} {C : String} {T : u_T} {fs : List Value} {ty : FieldType} {v : Value} (hX : Cx κ p m c cc nL s args own meth ret A) (hnm0 : meth.name = "<init>") (hB : Bd κ A s w H locs) (he : w[k0]? = some (b, .inr (ci, fs))) (hc : vwCl[ci]? = some (C, T, N)) (hin : ∀ x ∈ u_ws C T N, x ∈ wAll) {ty0 : Nat → FieldType} (hty : ∀ k, k < N → parseFieldDescriptor (T k).2.2.1 = some (ty0 k)) (hnm : ∀ a, a < N → ∀ b, b < N → a ≠ b → (T a).2.1 ≠ (T b).2.1) (k : Nat) (hk : k < N) (hl : Cond.fieldLink own index C (T k).2.1 (T k).2.2.1 ∈ wAll) (hs : (T k).1 = C) (hfin : (T k).2.2.2 = true) (hown : (T k).1 = own) (hd : ty0 k = ty) (hn : narrow ty v = v) (hfit : fits ty v = true) (hlen : k < fs.length) {w1 : va_W} (hw : w.set k0 (b, .inr (ci, fs.set k v)) = w1) (hdg : decode cc pc = .ok (.putfield index, 3))
    (kk : ∀ (H1 : Heap) (locs1 : List Loc), Bd κ A s w1 H1 locs1 → W p l e R s m args below meth c H1 locs1 cells slots Q (F0 m (pc + 3) ls rest)) : W p l e R s m args below meth c H locs cells slots Q (F0 m pc ls (v :: .ref b :: rest)) := by
  subst hw
  exact va_putF (ref := C) (ty := ty) hX.1.1 hX.1.2.1 hX.1.2.2.2.2 hin ty0 hty hnm hX.1.2.2.2.1 hX.2.1.1 hB.1 hB.2.1 hB.2.2 k0 he hc k hk (hX.1.2.2.2.2 _ hl) (fun x h => by rw [hs] at h; exact h) hfin hnm0 hown (by rw [hty k hk, hd]) hn hfit hlen hdg (fun H1 locs1 h1 h2 h3 => kk H1 locs1 ⟨h1, h2, h3⟩)
theorem eqi {x y : Int32} (h : x = y) (kk : W p l e R s m args below meth c H locs cells slots Q (F0 m pc ls (.int y :: rest))) : W p l e R s m args below meth c H locs cells slots Q (F0 m pc ls (.int x :: rest)) := by rw [h]; exact kk
theorem laldN {k0 b n k : Nat} {f : Nat → Int64} (hX : Cx κ p m c cc nL s args own meth ret A) (hB : Bd κ A s w H locs) (he : w[k0]? = some (b, .inl (κ.2.1 0, n, .inr (.inl f)))) (hn : n < 2 ^ 31) (hk : k < n) (hdg : decode cc pc = .ok (.laload, 1))
    (kk : W p l e R s m args below meth c H locs cells slots Q (F0 m (pc + 1) ls (.long (f k) :: rest))) : W p l e R s m args below meth c H locs cells slots Q (F0 m pc ls (.int (nI k) :: .ref b :: rest)) :=
  lald hX hB he (vp_in_nI hk hn) hdg (by rw [nI_clamp (Nat.lt_trans hk hn)]; exact kk)
theorem lastN {k0 b n k : Nat} {f : Nat → Int64} {x : Int64} (hX : Cx κ p m c cc nL s args own meth ret A) (hB : Bd κ A s w H locs) (he : w[k0]? = some (b, .inl (κ.2.1 0, n, .inr (.inl f)))) (hn : n < 2 ^ 31) (hk : k < n) {w1 : va_W} (hw : w.set k0 (b, .inl (κ.2.1 0, n, .inr (.inl (vp_updL f k x)))) = w1) (hdg : decode cc pc = .ok (.lastore, 1))
    (kk : ∀ (H1 : Heap) (locs1 : List Loc), Bd κ A s w1 H1 locs1 → W p l e R s m args below meth c H1 locs1 cells slots Q (F0 m (pc + 1) ls rest)) : W p l e R s m args below meth c H locs cells slots Q (F0 m pc ls (.long x :: .int (nI k) :: .ref b :: rest)) :=
  last hX hB he (vp_in_nI hk hn) (by rw [nI_clamp (Nat.lt_trans hk hn)]; exact hw) hdg kk
end RFR
/-- a grid of the reference; its numbers -/
abbrev gO (g R C b : Nat) : Nat × va_E := (g, .inr (8, [.int (nI R), .int (nI C), .ref b]))
abbrev lA (κ : Kt) (b n : Nat) (f : Nat → Int64) : Nat × va_E := (b, .inl (κ.2.1 0, n, .inr (.inl f)))
/-- the numbers at a place of a world are others -/
abbrev wU (κ : Kt) (w : va_W) (k b n : Nat) (f : Nat → Int64) : va_W := w.set k (lA κ b n f)
section WUS
variable {κ : Kt} {w : va_W} {k1 k2 b n : Nat} {f f1 f2 : Nat → Int64}
theorem wU0 (h2 : w[k2]? = some (lA κ b n f)) : wU κ w k2 b n f = w := by
  apply List.ext_getElem?
  intro j
  by_cases e1 : k2 = j
  · subst e1
    rw [List.getElem?_set_self (List.getElem?_eq_some_iff.mp h2).1, h2]
  · rw [List.getElem?_set_ne e1]
theorem wU1 {g : Nat} {x : Nat × List Value} (h1 : w[k1]? = some (g, .inr x)) (h2 : w[k2]? = some (lA κ b n f)) : (wU κ w k2 b n f1)[k1]? = some (g, .inr x) := by
  rw [List.getElem?_set_ne (fun z => by subst z; rw [h2] at h1; cases h1)]
  exact h1
theorem wU2 (h2 : w[k2]? = some (lA κ b n f)) : (wU κ w k2 b n f1)[k2]? = some (lA κ b n f1) := List.getElem?_set_self (List.getElem?_eq_some_iff.mp h2).1
theorem wUS : (wU κ w k2 b n f1).set k2 (lA κ b n f2) = wU κ w k2 b n f2 := List.set_set _
end WUS
theorem in7 : ∀ x ∈ u_ws RX7 TX7 3, x ∈ wAll := by decide +kernel
theorem in8 : ∀ x ∈ u_ws RX8 TX8 4, x ∈ wAll := by decide +kernel
theorem in9 : ∀ x ∈ u_ws RX9 TX9 7, x ∈ wAll := by decide +kernel
theorem in10 : ∀ x ∈ u_ws RX10 TX10 5, x ∈ wAll := by decide +kernel
theorem nleP {a b : Nat} (ha : a < 2 ^ 31) (hb : b < 2 ^ 31) : (nI a ≤ nI b) = (a ≤ b) := propext (nI_leI ha hb)
theorem nltP {a b : Nat} (ha : a < 2 ^ 31) (hb : b < 2 ^ 31) : (nI a < nI b) = (a < b) := propext (nI_ltI ha hb)
theorem neqP {a b : Nat} (ha : a < 2 ^ 31) (hb : b < 2 ^ 31) : (nI a = nI b) = (a = b) := propext (nI_eq ha hb)
theorem nI_mul (a b : Nat) : nI a * nI b = nI (a * b) := (Int32.ofNat_mul a b).symm
theorem nI_sub {a b : Nat} (h : b ≤ a) : nI a - nI b = nI (a - b) := by
  have e := nI_add (a - b) b
  rw [Nat.sub_add_cancel h] at e
  rw [← e, Int32.add_sub_cancel]
theorem nI_rep {x : Int32} (h : 0 ≤ x) : x = nI x.toNatClampNeg := by
  have h1 := i32_le.mp h
  apply Int32.toInt.inj
  have h2 := Int32.toInt_lt x
  have e : (x.toNatClampNeg : Int) = x.toInt := by
    show ((x.toInt.toNat : Nat) : Int) = _
    rw [show (0 : Int32).toInt = 0 from rfl] at h1
    omega
  rw [nI_toInt (by omega)]
  exact e.symm
/-- the shape of a grid of the reference -/
def shp (R C : Nat) : Prop := 1 ≤ R ∧ R ≤ 4 ∧ 1 ≤ C ∧ C ≤ 5
