section
-- 30.ref
/-! ===== The reference: rows over a world that grows; its grids ===== -/
section RFR
variable {p : Program} {l : Launch} {e : Env} {R : Room} {s : State} {m : MethodId} {args : Array Value} {below : List Frame} {meth : Method} {c : Code} {H : Heap} {locs : List Loc} {cells slots : Nat} {Q : State → Prop}
variable {κ : Kt} {cc : ByteArray} {nL : Nat} {own : String} {ret : Option FieldType} {A : Nat → Prop} {w : va_W}
variable {pc : Nat} {ls : Array Slot} {rest : List Value}
theorem Bd_pick {w1 : va_W} (pl : Nat → Nat) (hi : ∀ i j, pl i = pl j → i = j) (h : ∀ k q, w1[k]? = some q → w[pl k]? = some q) (hB : Bd κ A s w H locs) : Bd κ A s w1 H locs :=
  ⟨fun k q hk => hB.1 _ q (h k q hk), ⟨fun i j p q h1 h2 e => hi _ _ (hB.2.1.1 _ _ p q (h i p h1) (h j q h2) e), fun k q hk => hB.2.1.2 _ q (h k q hk)⟩, hB.2.2⟩
theorem Bd_tail {x : Nat × va_E} (hB : Bd κ A s (x :: w) H locs) : Bd κ A s w H locs := Bd_pick (fun k => k + 1) (fun i j h => Nat.succ.inj h) (fun k q h => h) hB
/-- the second cell goes -/
theorem Bd_tail2 {x y : Nat × va_E} (hB : Bd κ A s (x :: y :: w) H locs) : Bd κ A s (x :: w) H locs := Bd_pick (fun k => if k = 0 then 0 else k + 1) (fun i j h => by split at h <;> split at h <;> omega) (fun k q h => by
  cases k with
  | zero => exact h
  | succ n => exact h) hB
theorem Bd_rot {x : Nat × va_E} (hB : Bd κ A s (w ++ [x]) H locs) : Bd κ A s (x :: w) H locs := by
  refine Bd_pick (fun k => if k = 0 then w.length else if k - 1 < w.length then k - 1 else k) (fun i j h => ?_) (fun k q h => ?_) hB
  · repeat' split at h
    all_goals omega
  · cases k with
    | zero =>
      simp only [if_true]
      rw [List.getElem?_append_right (Nat.le_refl _), Nat.sub_self]
      exact h
    | succ n =>
      have h1 : w[n]? = some q := h
      have h2 := (List.getElem?_eq_some_iff.mp h1).1
      rw [if_neg (Nat.succ_ne_zero n), show n + 1 - 1 = n from rfl, if_pos h2]
      rw [List.getElem?_append_left h2]
      exact h1
theorem newO {C : String} {T : u_T} {N ci index : Nat} {fs : List Value} {ty : Nat → FieldType} (hX : Cx κ p m c cc nL s args own meth ret A) (hB : Bd κ A s w H locs) (hc : vwCl[ci]? = some (C, T, N)) (hin : ∀ x ∈ u_ws C T N, x ∈ wAll) (hty : ∀ k, k < N → parseFieldDescriptor (T k).2.2.1 = some (ty k)) (m1 : Cond.classLink own index C ∈ wAll) (m2 : Cond.instantiable C N ∈ wAll) (m3 : Cond.initialized C ∈ wAll) (hfs : ∀ j, j < N → defaultValue (ty j) = vp_V fs j) (hcells : cells + 1 ≤ R.cells) (hslots : slots + N ≤ R.slots) (hdg : decode cc pc = .ok (.new index, 3))
    (kk : ∀ (q : Nat) (H1 : Heap), Bd κ A s ((q, .inr (ci, fs)) :: w) H1 locs → W p l e R s m args below meth c H1 locs (cells + 1) (slots + N) Q (F0 m (pc + 3) ls (.ref q :: rest))) : W p l e R s m args below meth c H locs cells slots Q (F0 m pc ls rest) := by
  have ht := hX.1.2.2.2.2
  exact va_new (own := own) (C := C) (tys := tysK κ) (c0 := c) hX.1.1 hX.1.2.1 ht hin ty hty hX.1.2.2.2.1 (ht _ m1) (ht _ m2) (ht _ m3) hX.2.1.1 hB.1 hB.2.1 hB.2.2 hX.2.2.2.1 hc hfs hcells hslots hdg (fun q H1 h1 h2 h3 => kk q H1 (Bd_rot ⟨h1, h2, h3⟩))
/-- an array of a kind that the run's constants name -/
theorem newA {atype : ArrayType} {ty : FieldType} {cA : ClassId} {t0 N mx : Nat} {n : Int32} {a0 : vp_A} (hX : Cx κ p m c cc nL s args own meth ret A) (hB : Bd κ A s w H locs) (hty : newarray.typeOf atype = ty) (ht : (tysK κ)[t0]? = some (cA, ty)) (hRA : va_RA s cA ty → s.vm.findClass ("[" ++ ty.toString) = some cA) (m1 : Cond.arrayClass ty ∈ wAll) (ha : ∀ cA : ClassId, vp_cell cA a0 = arrV cA N (fun _ => defaultValue ty)) (hn : ¬ n < 0) (hN : n.toNatClampNeg = N) (hmx : N ≤ mx) (hbytes : mx * componentBytes ty ≤ 536870912) (hcells : cells + 1 ≤ R.cells) (hslots : slots + mx ≤ R.slots) (hdg : decode cc pc = .ok (.newarray atype, 2))
    (kk : ∀ (q : Nat) (H1 : Heap), Bd κ A s ((q, .inl (cA, a0)) :: w) H1 locs → W p l e R s m args below meth c H1 locs (cells + 1) (slots + mx) Q (F0 m (pc + 2) ls (.ref q :: rest))) : W p l e R s m args below meth c H locs cells slots Q (F0 m pc ls (.int n :: rest)) := by
  subst hty
  have hv := hX.1.2.2.2.2
  have h0 := hRA (hX.2.1.1.2 t0 _ ht).2
  have hP := hB.1
  have hS := hB.2.2
  have hs2 : slots + N ≤ R.slots := Nat.le_trans (Nat.add_le_add_left hmx _) hslots
  refine va_newaK hX.1.1 hX.1.2.1 (hv _ m1) rfl hdg rfl hn hN (Nat.le_trans (Nat.mul_le_mul_right _ hmx) hbytes) hcells hs2 rfl fun H1 cB e1 z1 o1 hAr hNm => ?_
  have hcc : cB = cA := Option.some.inj (hNm.symm.trans h0)
  subst hcc
  have hk : ∀ (k : Nat) (x : Nat × va_E), w[k]? = some x → H1[x.1]? = H[x.1]? := fun k x hx => o1 x.1 ((hP k x hx).lt)
  refine W.widen (Nat.le_refl _) (Nat.add_le_add_left hmx _) (kk H.size H1 (Bd_rot ⟨(hP.kept hk).app (fun k x hx => ?_), hB.2.1.push hP rfl (hX.2.2.2.1 _ hS.1), ⟨Nat.le_trans hS.1 (by omega), fun x h1 h2 => (o1 x (Nat.lt_of_lt_of_le h1 hS.1)).trans (hS.2.1 x h1 h2), hS.2.2⟩⟩))
  have hz : k < 1 := (List.getElem?_eq_some_iff.mp hx).1
  rw [show k = 0 by omega] at hx
  cases hx
  show H1[H.size]? = some (vp_cell _ _)
  rw [ha]
  exact e1
theorem pfF {k0 ci N b index : Nat} {C : String} {T : u_T} {fs : List Value} {ty : FieldType} {v : Value} (hX : Cx κ p m c cc nL s args own meth ret A) (hnm0 : meth.name = "<init>") (hB : Bd κ A s w H locs) (he : w[k0]? = some (b, .inr (ci, fs))) (hc : vwCl[ci]? = some (C, T, N)) (hin : ∀ x ∈ u_ws C T N, x ∈ wAll) {ty0 : Nat → FieldType} (hty : ∀ k, k < N → parseFieldDescriptor (T k).2.2.1 = some (ty0 k)) (hnm : ∀ a, a < N → ∀ b, b < N → a ≠ b → (T a).2.1 ≠ (T b).2.1) (k : Nat) (hk : k < N) (hl : Cond.fieldLink own index C (T k).2.1 (T k).2.2.1 ∈ wAll) (hs : (T k).1 = C) (hfin : (T k).2.2.2 = true) (hown : (T k).1 = own) (hd : ty0 k = ty) (hn : narrow ty v = v) (hfit : fits ty v = true) (hlen : k < fs.length) {w1 : va_W} (hw : w.set k0 (b, .inr (ci, fs.set k v)) = w1) (hdg : decode cc pc = .ok (.putfield index, 3))
    (kk : ∀ (H1 : Heap) (locs1 : List Loc), Bd κ A s w1 H1 locs1 → W p l e R s m args below meth c H1 locs1 cells slots Q (F0 m (pc + 3) ls rest)) : W p l e R s m args below meth c H locs cells slots Q (F0 m pc ls (v :: .ref b :: rest)) := by
  subst hw
  exact va_putF (ref := C) (ty := ty) hX.1.1 hX.1.2.1 hX.1.2.2.2.2 hin ty0 hty hnm hX.1.2.2.2.1 hX.2.1.1 hB.1 hB.2.1 hB.2.2 k0 he hc k hk (hX.1.2.2.2.2 _ hl) (fun x h => by rw [hs] at h; exact h) hfin hnm0 hown (by rw [hty k hk, hd]) hn hfit hlen hdg (fun H1 locs1 h1 h2 h3 => kk H1 locs1 ⟨h1, h2, h3⟩)
theorem eqi {x y : Int32} (h : x = y) (kk : W p l e R s m args below meth c H locs cells slots Q (F0 m pc ls (.int y :: rest))) : W p l e R s m args below meth c H locs cells slots Q (F0 m pc ls (.int x :: rest)) := by rw [h]; exact kk
theorem laldN {k0 b n k : Nat} {f : Nat → Int64} (hX : Cx κ p m c cc nL s args own meth ret A) (hB : Bd κ A s w H locs) (he : w[k0]? = some (b, .inl (κ.2.1 0, n, .inr (.inl f)))) (hn : n < 2 ^ 31) (hk : k < n) (hdg : decode cc pc = .ok (.laload, 1))
    (kk : W p l e R s m args below meth c H locs cells slots Q (F0 m (pc + 1) ls (.long (f k) :: rest))) : W p l e R s m args below meth c H locs cells slots Q (F0 m pc ls (.int (nI k) :: .ref b :: rest)) :=
  lald hX hB he (vp_in_nI hk hn) hdg (by rw [nI_clamp (Nat.lt_trans hk hn)]; exact kk)
theorem lastN {k0 b n k : Nat} {f : Nat → Int64} {x : Int64} (hX : Cx κ p m c cc nL s args own meth ret A) (hB : Bd κ A s w H locs) (he : w[k0]? = some (b, .inl (κ.2.1 0, n, .inr (.inl f)))) (hn : n < 2 ^ 31) (hk : k < n) {w1 : va_W} (hw : w.set k0 (b, .inl (κ.2.1 0, n, .inr (.inl (vp_updL f k x)))) = w1) (hdg : decode cc pc = .ok (.lastore, 1))
    (kk : ∀ (H1 : Heap) (locs1 : List Loc), Bd κ A s w1 H1 locs1 → W p l e R s m args below meth c H1 locs1 cells slots Q (F0 m (pc + 1) ls rest)) : W p l e R s m args below meth c H locs cells slots Q (F0 m pc ls (.long x :: .int (nI k) :: .ref b :: rest)) :=
  last hX hB he (vp_in_nI hk hn) (by rw [nI_clamp (Nat.lt_trans hk hn)]; exact hw) hdg kk
end RFR
/-- a grid of the reference; its numbers -/
abbrev gO (g R C b : Nat) : Nat × va_E := (g, .inr (8, [.int (nI R), .int (nI C), .ref b]))
abbrev lA (κ : Kt) (b n : Nat) (f : Nat → Int64) : Nat × va_E := (b, .inl (κ.2.1 0, n, .inr (.inl f)))
/-- the numbers at a place of a world are others -/
abbrev wU (κ : Kt) (w : va_W) (k b n : Nat) (f : Nat → Int64) : va_W := w.set k (lA κ b n f)
section WUS
variable {κ : Kt} {w : va_W} {k1 k2 b n : Nat} {f f1 f2 : Nat → Int64}
theorem wU0 (h2 : w[k2]? = some (lA κ b n f)) : wU κ w k2 b n f = w := by
  apply List.ext_getElem?
  intro j
  by_cases e1 : k2 = j
  · subst e1
    rw [List.getElem?_set_self (List.getElem?_eq_some_iff.mp h2).1, h2]
  · rw [List.getElem?_set_ne e1]
theorem wU1 {g : Nat} {x : Nat × List Value} (h1 : w[k1]? = some (g, .inr x)) (h2 : w[k2]? = some (lA κ b n f)) : (wU κ w k2 b n f1)[k1]? = some (g, .inr x) := by
  rw [List.getElem?_set_ne (fun z => by subst z; rw [h2] at h1; cases h1)]
  exact h1
theorem wU2 (h2 : w[k2]? = some (lA κ b n f)) : (wU κ w k2 b n f1)[k2]? = some (lA κ b n f1) := List.getElem?_set_self (List.getElem?_eq_some_iff.mp h2).1
theorem wUS : (wU κ w k2 b n f1).set k2 (lA κ b n f2) = wU κ w k2 b n f2 := List.set_set _
end WUS
theorem in7 : ∀ x ∈ u_ws RX7 TX7 3, x ∈ wAll := by decide +kernel
theorem in8 : ∀ x ∈ u_ws RX8 TX8 4, x ∈ wAll := by decide +kernel
theorem in9 : ∀ x ∈ u_ws RX9 TX9 7, x ∈ wAll := by decide +kernel
theorem in10 : ∀ x ∈ u_ws RX10 TX10 5, x ∈ wAll := by decide +kernel
theorem nleP {a b : Nat} (ha : a < 2 ^ 31) (hb : b < 2 ^ 31) : (nI a ≤ nI b) = (a ≤ b) := propext (nI_leI ha hb)
theorem nltP {a b : Nat} (ha : a < 2 ^ 31) (hb : b < 2 ^ 31) : (nI a < nI b) = (a < b) := propext (nI_ltI ha hb)
theorem neqP {a b : Nat} (ha : a < 2 ^ 31) (hb : b < 2 ^ 31) : (nI a = nI b) = (a = b) := propext (nI_eq ha hb)
theorem nI_mul (a b : Nat) : nI a * nI b = nI (a * b) := (Int32.ofNat_mul a b).symm
theorem nI_sub {a b : Nat} (h : b ≤ a) : nI a - nI b = nI (a - b) := by
  have e := nI_add (a - b) b
  rw [Nat.sub_add_cancel h] at e
  rw [← e, Int32.add_sub_cancel]
theorem nI_rep {x : Int32} (h : 0 ≤ x) : x = nI x.toNatClampNeg := by
  have h1 := i32_le.mp h
  apply Int32.toInt.inj
  have h2 := Int32.toInt_lt x
  have e : (x.toNatClampNeg : Int) = x.toInt := by
    show ((x.toInt.toNat : Nat) : Int) = _
    rw [show (0 : Int32).toInt = 0 from rfl] at h1
    omega
  rw [nI_toInt (by omega)]
  exact e.symm
/-- the shape of a grid of the reference -/
def shp (R C : Nat) : Prop := 1 ≤ R ∧ R ≤ 4 ∧ 1 ≤ C ∧ C ≤ 5
end
section
-- 31.rgrid
theorem wUU {κ : Kt} {w : va_W} {k b n : Nat} {f1 f2 : Nat → Int64} : wU κ (wU κ w k b n f1) k b n f2 = wU κ w k b n f2 := List.set_set _
theorem df8 : ∀ j, j < 3 → defaultValue (tyX7 j) = vp_V [.int 0, .int 0, .null] j := by
  intro j hj
  match j, hj with
  | 0, _ => rfl
  | 1, _ => rfl
  | 2, _ => rfl
theorem df9 : ∀ j, j < 4 → defaultValue (tyX8 j) = vp_V [.null, .null, .int 0, .int 0] j := by
  intro j hj
  match j, hj with
  | 0, _ => rfl
  | 1, _ => rfl
  | 2, _ => rfl
  | 3, _ => rfl
theorem df10 : ∀ j, j < 7 → defaultValue (tyX9 j) = vp_V [.null, .null, .null, .int 0, .int 0, .int 0, .int 0] j := by
  intro j hj
  match j, hj with
  | 0, _ => rfl
  | 1, _ => rfl
  | 2, _ => rfl
  | 3, _ => rfl
  | 4, _ => rfl
  | 5, _ => rfl
  | 6, _ => rfl
theorem upd_inv {f g : Nat → Int64} {y : Nat} (h : ∀ k, k < y → g k = f k) : ∀ k, k < y + 1 → vp_updL g y (f y) k = f k := by
  intro k hk
  unfold vp_updL
  by_cases e : k = y
  · rw [if_pos e, e]
  · rw [if_neg e]; exact h k (by omega)
theorem upd_01 {g : Nat → Int64} {y : Nat} (h : ∀ k, g k = 0 ∨ g k = 1) : ∀ k, vp_updL g y 1 k = 0 ∨ vp_updL g y 1 k = 1 := by
  intro k
  unfold vp_updL
  by_cases e : k = y
  · rw [if_pos e]; exact Or.inr rfl
  · rw [if_neg e]; exact h k
/-- rows, columns changed: what stands in a grid behind it -/
def xr (C i j : Nat) (f : Nat → Int64) : Nat → Int64 := fun k => if k % 5 < C ∧ k / 5 = i then f (j * 5 + k % 5) else if k % 5 < C ∧ k / 5 = j then f (i * 5 + k % 5) else f k
def xc (R i j : Nat) (f : Nat → Int64) : Nat → Int64 := fun k => if k / 5 < R ∧ k % 5 = i then f (k / 5 * 5 + j) else if k / 5 < R ∧ k % 5 = j then f (k / 5 * 5 + i) else f k
def tr (C i : Nat) (f : Nat → Int64) : Nat → Int64 := fun k => if k % 5 < C ∧ k / 5 = i then -f k else f k
def ar (C i j : Nat) (t : Int64) (f : Nat → Int64) : Nat → Int64 := fun k => if k % 5 < C ∧ k / 5 = i then f k + t * f (j * 5 + k % 5) else f k
def ac (R i j : Nat) (t : Int64) (f : Nat → Int64) : Nat → Int64 := fun k => if k / 5 < R ∧ k % 5 = i then f k + t * f (k / 5 * 5 + j) else f k
section GRL
variable {f : Nat → Int64} {i j y : Nat} {t : Int64}
theorem xr0 : xr 0 i j f = f := by funext k; unfold xr; rw [if_neg (by omega), if_neg (by omega)]
theorem xc0 : xc 0 i j f = f := by funext k; unfold xc; rw [if_neg (by omega), if_neg (by omega)]
theorem tr0 : tr 0 i f = f := by funext k; unfold tr; rw [if_neg (by omega)]
theorem ar0 : ar 0 i j t f = f := by funext k; unfold ar; rw [if_neg (by omega)]
theorem ac0 : ac 0 i j t f = f := by funext k; unfold ac; rw [if_neg (by omega)]
theorem xr_at (a : Nat) : xr y i j f (a * 5 + y) = f (a * 5 + y) ∨ 5 ≤ y := by
  by_cases h : 5 ≤ y
  · exact Or.inr h
  · refine Or.inl ?_
    unfold xr
    rw [if_neg (by omega), if_neg (by omega)]
theorem xr_step (hy : y < 5) (_ : i < 5) (_ : j < 5) : vp_updL (vp_updL (xr y i j f) (i * 5 + y) (xr y i j f (j * 5 + y))) (j * 5 + y) (xr y i j f (i * 5 + y)) = xr (y + 1) i j f := by
  have e1 : xr y i j f (j * 5 + y) = f (j * 5 + y) := (xr_at j).resolve_right (by omega)
  have e2 : xr y i j f (i * 5 + y) = f (i * 5 + y) := (xr_at i).resolve_right (by omega)
  rw [e1, e2]
  funext k
  unfold vp_updL
  by_cases a1 : k = j * 5 + y
  · subst a1
    rw [if_pos rfl]
    unfold xr
    by_cases e : (j * 5 + y) / 5 = i
    · rw [if_pos ⟨by omega, e⟩]
      congr 1
      omega
    · rw [if_neg (fun h => e h.2), if_pos (by omega)]
      congr 1
      omega
  · rw [if_neg a1]
    by_cases a2 : k = i * 5 + y
    · subst a2
      rw [if_pos rfl]
      unfold xr
      rw [if_pos (by omega)]
      congr 1
      omega
    · rw [if_neg a2]
      unfold xr
      by_cases b1 : k % 5 < y ∧ k / 5 = i
      · rw [if_pos b1, if_pos (by omega)]
      · rw [if_neg b1]
        by_cases b2 : k % 5 < y ∧ k / 5 = j
        · rw [if_pos b2, if_neg (by omega), if_pos (by omega)]
        · rw [if_neg b2, if_neg (by omega), if_neg (by omega)]
theorem xc_at (a : Nat) : xc y i j f (y * 5 + a) = f (y * 5 + a) ∨ 5 ≤ a := by
  by_cases h : 5 ≤ a
  · exact Or.inr h
  · refine Or.inl ?_
    unfold xc
    rw [if_neg (by omega), if_neg (by omega)]
theorem xc_step (hi : i < 5) (hj : j < 5) (_ : i < 5) : vp_updL (vp_updL (xc y i j f) (y * 5 + i) (xc y i j f (y * 5 + j))) (y * 5 + j) (xc y i j f (y * 5 + i)) = xc (y + 1) i j f := by
  have e1 : xc y i j f (y * 5 + j) = f (y * 5 + j) := (xc_at j).resolve_right (by omega)
  have e2 : xc y i j f (y * 5 + i) = f (y * 5 + i) := (xc_at i).resolve_right (by omega)
  rw [e1, e2]
  funext k
  unfold vp_updL
  by_cases a1 : k = y * 5 + j
  · subst a1
    rw [if_pos rfl]
    unfold xc
    by_cases e : (y * 5 + j) % 5 = i
    · rw [if_pos ⟨by omega, e⟩]
      congr 1
      omega
    · rw [if_neg (fun h => e h.2), if_pos (by omega)]
      congr 1
      omega
  · rw [if_neg a1]
    by_cases a2 : k = y * 5 + i
    · subst a2
      rw [if_pos rfl]
      unfold xc
      rw [if_pos (by omega)]
      congr 1
      omega
    · rw [if_neg a2]
      unfold xc
      by_cases b1 : k / 5 < y ∧ k % 5 = i
      · rw [if_pos b1, if_pos (by omega)]
      · rw [if_neg b1]
        by_cases b2 : k / 5 < y ∧ k % 5 = j
        · rw [if_pos b2, if_neg (by omega), if_pos (by omega)]
        · rw [if_neg b2, if_neg (by omega), if_neg (by omega)]
theorem tr_step (hy : y < 5) (_ : i < 5) (_ : i < 5) : vp_updL (tr y i f) (i * 5 + y) (-(tr y i f (i * 5 + y))) = tr (y + 1) i f := by
  have e1 : tr y i f (i * 5 + y) = f (i * 5 + y) := by unfold tr; rw [if_neg (by omega)]
  rw [e1]
  funext k
  unfold vp_updL
  by_cases a1 : k = i * 5 + y
  · subst a1
    rw [if_pos rfl]
    unfold tr
    rw [if_pos (by omega)]
  · rw [if_neg a1]
    unfold tr
    by_cases b1 : k % 5 < y ∧ k / 5 = i
    · rw [if_pos b1, if_pos (by omega)]
    · rw [if_neg b1, if_neg (by omega)]
theorem ar_step (hy : y < 5) (hij : i ≠ j) (_ : i < 5) : vp_updL (ar y i j t f) (i * 5 + y) (ar y i j t f (i * 5 + y) + t * ar y i j t f (j * 5 + y)) = ar (y + 1) i j t f := by
  have e1 : ar y i j t f (i * 5 + y) = f (i * 5 + y) := by unfold ar; rw [if_neg (by omega)]
  have e2 : ar y i j t f (j * 5 + y) = f (j * 5 + y) := by unfold ar; rw [if_neg (by omega)]
  rw [e1, e2]
  funext k
  unfold vp_updL
  by_cases a1 : k = i * 5 + y
  · subst a1
    rw [if_pos rfl]
    unfold ar
    rw [if_pos (by omega), show (i * 5 + y) % 5 = y by omega]
  · rw [if_neg a1]
    unfold ar
    by_cases b1 : k % 5 < y ∧ k / 5 = i
    · rw [if_pos b1, if_pos (by omega)]
    · rw [if_neg b1, if_neg (by omega)]
theorem ac_step (hi : i < 5) (hj : j < 5) (hij : i ≠ j) : vp_updL (ac y i j t f) (y * 5 + i) (ac y i j t f (y * 5 + i) + t * ac y i j t f (y * 5 + j)) = ac (y + 1) i j t f := by
  have e1 : ac y i j t f (y * 5 + i) = f (y * 5 + i) := by unfold ac; rw [if_neg (by omega)]
  have e2 : ac y i j t f (y * 5 + j) = f (y * 5 + j) := by unfold ac; rw [if_neg (by omega)]
  rw [e1, e2]
  funext k
  unfold vp_updL
  by_cases a1 : k = y * 5 + i
  · subst a1
    rw [if_pos rfl]
    unfold ac
    rw [if_pos (by omega), show (y * 5 + i) / 5 = y by omega]
  · rw [if_neg a1]
    unfold ac
    by_cases b1 : k / 5 < y ∧ k % 5 = i
    · rw [if_pos b1, if_pos (by omega)]
    · rw [if_neg b1, if_neg (by omega)]
end GRL
/-- not great; let into a table -/
def ng (x : Int64) : Prop := -1000000000 ≤ x ∧ x ≤ 1000000000
def sm (x : Int64) : Prop := -20 ≤ x ∧ x ≤ 20
theorem cmp_le {x y : Int64} (h : lg_cmp x y ≤ 0) : x ≤ y := (lg_cmp_le x y).mp h
theorem cmp_ge {x y : Int64} (h : 0 ≤ lg_cmp x y) : y ≤ x := (lg_cmp_ge x y).mp h
theorem ng_of {x : Int64} (h1 : ¬ 0 < lg_cmp x 1000000000) (h2 : 0 ≤ lg_cmp x (-1000000000)) : ng x := ⟨cmp_ge h2, Int64.not_lt.mp (fun h => h1 ((lg_cmp_gt _ _).mpr h))⟩
theorem sm_of {x : Int64} (h1 : ¬ 0 < lg_cmp x 20) (h2 : 0 ≤ lg_cmp x (-20)) : sm x := ⟨cmp_ge h2, Int64.not_lt.mp (fun h => h1 ((lg_cmp_gt _ _).mpr h))⟩

set_option maxHeartbeats 4000000 in
set_option maxRecDepth 100000 in
theorem k_X7_init (κ : Kt) (l : Launch) (w : va_W) (g : Nat) (xR : Int32) (R : Nat) (xC : Int32) (C : Nat) (hxR : xR = nI R) (hxC : xC = nI C) (hR : R * 5 ≤ 20) : CM κ l yX7_init cX7_init 3 (none) 1 20 1 20 [.ref g, .int xR, .int xC] ((g, .inr (8, [.int 0, .int 0, .null])) :: w) (fun o w' => ∃ (b : Nat), o = none ∧ w' = lA κ b (R * 5) (fun _ => 0) :: gO g R C b :: w) := by
  subst hxR
  subst hxC
  refine CM_begin (plainFor_of_name pn_RX7) (Nat.le_of_ble_eq_true rfl) ?_
  intro p e s m args below meth c A Q hX hnm hA3 hQ hB ls hl
  have hx := hX.1.1
  have hb := hX.1.2.1
  have hl : lv_has ls 3 [(0, .ref g), (1, .int (nI R)), (2, .int (nI C))] := hl
  refine lv_aload_n hx hb dX7_init_0 rfl (lv_at hl 0 rfl) ?_
  refine W.objInit hx hb hX.1.2.2.2.1 (hX.1.2.2.2.2 _ wm_5_144) (hX.1.2.2.2.2 _ wm_1_36) (hX.1.2.2.2.2 _ wm_1_37) rfl (by rw [hX.1.2.2.1]; exact hl.1) rfl dX7_init_1 (Nat.le_of_ble_eq_true rfl) (Nat.le_of_ble_eq_true rfl) ?_
  refine W.eq (g2 := F0 m 4 ls []) rfl ?_
  refine lv_aload_n hx hb dX7_init_4 rfl (lv_at hl 0 rfl) ?_
  refine lv_iload_n hx hb dX7_init_5 rfl (lv_at hl 1 rfl) ?_
  refine pfF (ty := .int) (k0 := 0) hX hnm hB rfl rfl in7 tyX7_ok nmX7 0 (by decide) wm_5_145 rfl rfl rfl rfl rfl rfl (Nat.le_of_ble_eq_true rfl) (w1 := (g, .inr (8, [.int (nI R), .int 0, .null])) :: w) rfl dX7_init_6 (fun H locs hB => ?_)
  refine lv_aload_n hx hb dX7_init_9 rfl (lv_at hl 0 rfl) ?_
  refine lv_iload_n hx hb dX7_init_10 rfl (lv_at hl 2 rfl) ?_
  refine pfF (ty := .int) (k0 := 0) hX hnm hB rfl rfl in7 tyX7_ok nmX7 1 (by decide) wm_5_149 rfl rfl rfl rfl rfl rfl (Nat.le_of_ble_eq_true rfl) (w1 := (g, .inr (8, [.int (nI R), .int (nI C), .null])) :: w) rfl dX7_init_11 (fun H locs hB => ?_)
  refine lv_aload_n hx hb dX7_init_14 rfl (lv_at hl 0 rfl) ?_
  refine lv_iload_n hx hb dX7_init_15 rfl (lv_at hl 1 rfl) ?_
  refine lv_iconst (v := 5) hx hb dX7_init_16 (by decide) ?_
  refine lv_imul hx hb dX7_init_17 ?_
  refine eqi (y := nI (R * 5)) (nI_mul R 5) ?_
  refine newA (t0 := 0) (ty := .long) (N := R * 5) (mx := 20) (a0 := ((R * 5), .inr (.inl (fun _ => 0)))) hX hB rfl rfl (fun h => h) wm_1_65 (fun _ => rfl) (nI_pos (n := R * 5) (by omega)) (nI_clamp (n := R * 5) (by omega)) (by omega) (Nat.le_of_ble_eq_true rfl) (Nat.le_of_ble_eq_true rfl) (Nat.le_of_ble_eq_true rfl) dX7_init_18 (fun q1 H hB => ?_)
  refine pfF (ty := .array .long) (k0 := 1) hX hnm hB rfl rfl in7 tyX7_ok nmX7 2 (by decide) wm_5_153 rfl rfl rfl rfl rfl rfl (Nat.le_of_ble_eq_true rfl) (w1 := lA κ q1 (R * 5) (fun _ => 0) :: gO g R C q1 :: w) rfl dX7_init_20 (fun H locs hB => ?_)
  rw [← hQ]
  exact end_v hX hB hA3 rfl ⟨q1, rfl, rfl⟩ (Nat.le_of_ble_eq_true rfl) (Nat.le_of_ble_eq_true rfl) dX7_init_23
set_option maxHeartbeats 4000000 in
set_option maxRecDepth 100000 in
theorem k_X7_at (κ : Kt) (l : Launch) (w : va_W) (k1 k2 g b R C : Nat) (f : Nat → Int64) (xi : Int32) (i : Nat) (xj : Int32) (j : Nat) (h1 : w[k1]? = some (gO g R C b)) (h2 : w[k2]? = some (lA κ b (R * 5) f)) (hs : shp R C) (hxi : xi = nI i) (hxj : xj = nI j) (hi : i * 5 + j < R * 5) : CM κ l yX7_at cX7_at 3 (some .long) 0 0 0 0 [.ref g, .int xi, .int xj] (w) (fun o w' => o = some (.long (f (i * 5 + j))) ∧ w' = w) := by
  have hs0 := hs
  obtain ⟨hs1, hs2, hs3, hs4⟩ := hs0
  subst hxi
  subst hxj
  refine CM_begin (plainFor_of_name pn_RX7) (Nat.le_of_ble_eq_true rfl) ?_
  intro p e s m args below meth c A Q hX hnm hA3 hQ hB ls hl
  have hx := hX.1.1
  have hb := hX.1.2.1
  have hl : lv_has ls 3 [(0, .ref g), (1, .int (nI i)), (2, .int (nI j))] := hl
  refine lv_aload_n hx hb dX7_at_0 rfl (lv_at hl 0 rfl) ?_
  refine gf (k0 := k1) hX hB h1 rfl in7 2 (by decide) wm_5_153 rfl rfl dX7_at_1 ?_
  refine lv_iload_n hx hb dX7_at_4 rfl (lv_at hl 1 rfl) ?_
  refine lv_iconst (v := 5) hx hb dX7_at_5 (by decide) ?_
  refine lv_imul hx hb dX7_at_6 ?_
  refine eqi (y := nI (i * 5)) (nI_mul i 5) ?_
  refine lv_iload_n hx hb dX7_at_7 rfl (lv_at hl 2 rfl) ?_
  refine lv_iadd hx hb dX7_at_8 ?_
  refine eqi (y := nI ((i * 5) + j)) (nI_add (i * 5) j) ?_
  refine laldN (k0 := k2) (k := (i * 5) + j) hX hB h2 (by omega) (by omega) dX7_at_9 ?_
  rw [← hQ]
  exact end_l hX hB hA3 rfl ⟨rfl, rfl⟩ (Nat.le_of_ble_eq_true rfl) (Nat.le_of_ble_eq_true rfl) dX7_at_10
set_option maxHeartbeats 4000000 in
set_option maxRecDepth 100000 in
theorem k_X7_put (κ : Kt) (l : Launch) (w : va_W) (k1 k2 g b R C : Nat) (f : Nat → Int64) (xi : Int32) (i : Nat) (xj : Int32) (j : Nat) (x : Int64) (h1 : w[k1]? = some (gO g R C b)) (h2 : w[k2]? = some (lA κ b (R * 5) f)) (hs : shp R C) (hxi : xi = nI i) (hxj : xj = nI j) (hi : i * 5 + j < R * 5) : CM κ l yX7_put cX7_put 5 (none) 0 0 0 0 [.ref g, .int xi, .int xj, .long x] (w) (fun o w' => o = none ∧ w' = wU κ w k2 b (R * 5) (vp_updL f (i * 5 + j) x)) := by
  have hs0 := hs
  obtain ⟨hs1, hs2, hs3, hs4⟩ := hs0
  subst hxi
  subst hxj
  refine CM_begin (plainFor_of_name pn_RX7) (Nat.le_of_ble_eq_true rfl) ?_
  intro p e s m args below meth c A Q hX hnm hA3 hQ hB ls hl
  have hx := hX.1.1
  have hb := hX.1.2.1
  have hl : lv_has ls 5 [(0, .ref g), (1, .int (nI i)), (2, .int (nI j)), (3, .long x)] := hl
  have hB : Bd κ A s (wU κ w k2 b (R * 5) f) s.heap [] := by rw [wU0 h2]; exact hB
  
  refine lv_aload_n hx hb dX7_put_0 rfl (lv_at hl 0 rfl) ?_
  refine gf (k0 := k1) hX hB (wU1 h1 h2) rfl in7 2 (by decide) wm_5_153 rfl rfl dX7_put_1 ?_
  refine lv_iload_n hx hb dX7_put_4 rfl (lv_at hl 1 rfl) ?_
  refine lv_iconst (v := 5) hx hb dX7_put_5 (by decide) ?_
  refine lv_imul hx hb dX7_put_6 ?_
  refine eqi (y := nI (i * 5)) (nI_mul i 5) ?_
  refine lv_iload_n hx hb dX7_put_7 rfl (lv_at hl 2 rfl) ?_
  refine lv_iadd hx hb dX7_put_8 ?_
  refine eqi (y := nI ((i * 5) + j)) (nI_add (i * 5) j) ?_
  refine lv_lload_n hx hb dX7_put_9 rfl (lv_at hl 3 rfl) ?_
  refine lastN (k0 := k2) (k := (i * 5) + j) hX hB (wU2 h2) (by omega) (by omega) (w1 := wU κ w k2 b (R * 5) (vp_updL f ((i * 5) + j) x)) wUS dX7_put_10 (fun H locs hB => ?_)
  rw [← hQ]
  exact end_v hX hB hA3 rfl ⟨rfl, rfl⟩ (Nat.le_of_ble_eq_true rfl) (Nat.le_of_ble_eq_true rfl) dX7_put_11
noncomputable def D_X7_copy_18 (R : Nat) (f : Nat → Int64) (nn : Nat) : Nat → (Nat → Int64) → (Nat → Int64) := @Nat.rec (fun _ => Nat → (Nat → Int64) → (Nat → Int64)) (fun _ _ => default) (fun _ lb18 (y2_18 : Nat) (fb2_18 : Nat → Int64) => (if (R * 5) ≤ y2_18 then fb2_18 else (lb18 (y2_18 + 1) (vp_updL fb2_18 y2_18 (f y2_18))))) nn
theorem D_X7_copy_18_s {R : Nat} {f : Nat → Int64} {nn : Nat} {y2_18 : Nat} {fb2_18 : Nat → Int64} : D_X7_copy_18 R f (nn + 1) y2_18 fb2_18 = (if (R * 5) ≤ y2_18 then fb2_18 else ((D_X7_copy_18 R f nn) (y2_18 + 1) (vp_updL fb2_18 y2_18 (f y2_18)))) := rfl
noncomputable def D_X7_copy (R : Nat) (C : Nat) (f : Nat → Int64) : (Nat → Int64) := (D_X7_copy_18 R f ((R * 5) + 1 - 0 + 1) 0 (fun _ => 0))
theorem D_X7_copy_s {R : Nat} {C : Nat} {f : Nat → Int64} : D_X7_copy R C f = (D_X7_copy_18 R f ((R * 5) + 1 - 0 + 1) 0 (fun _ => 0)) := rfl
set_option maxHeartbeats 4000000 in
set_option maxRecDepth 100000 in
theorem k_X7_copy (κ : Kt) (l : Launch) (w : va_W) (k1 k2 g b R C : Nat) (f : Nat → Int64) (h1 : w[k1]? = some (gO g R C b)) (h2 : w[k2]? = some (lA κ b (R * 5) f)) (hs : shp R C) (o_F : Nat → Int64) (hR : D_X7_copy R C f = o_F) : CM κ l yX7_copy cX7_copy 3 (some (.object "GridmenderModel$Grid")) 2 42 2 23 [.ref g] (w) (fun o w' => ∃ (q1 : Nat) (q2 : Nat), o = some (.ref q1) ∧ (∀ k, k < R * 5 → o_F k = f k) ∧ w' = lA κ q2 (R * 5) o_F :: gO q1 R C q2 :: w) := by
  have hs0 := hs
  obtain ⟨hs1, hs2, hs3, hs4⟩ := hs0
  refine CM_begin (plainFor_of_name pn_RX7) (Nat.le_of_ble_eq_true rfl) ?_
  intro p e s m args below meth c A Q hX hnm hA3 hQ hB ls hl
  have hx := hX.1.1
  have hb := hX.1.2.1
  have hl : lv_has ls 3 [(0, .ref g)] := hl
  replace hR := (D_X7_copy_s).symm.trans hR
  refine newO (fs := [.int 0, .int 0, .null]) hX hB (ci := 8) rfl in7 tyX7_ok wm_5_219 wm_5_140 wm_1_7 df8 (Nat.le_of_ble_eq_true rfl) (Nat.le_of_ble_eq_true rfl) dX7_copy_0 (fun q1 H hB => ?_)
  refine lv_dup hx hb dX7_copy_3 rfl ?_
  refine lv_aload_n hx hb dX7_copy_4 rfl (lv_at hl 0 rfl) ?_
  refine gf (k0 := k1 + 1) hX hB h1 rfl in7 0 (by decide) wm_5_145 rfl rfl dX7_copy_5 ?_
  refine lv_aload_n hx hb dX7_copy_8 rfl (lv_at hl 0 rfl) ?_
  refine gf (k0 := k1 + 1) hX hB h1 rfl in7 1 (by decide) wm_5_149 rfl rfl dX7_copy_9 ?_
  refine call_I (n := 2) (As := [.int (nI R), .int (nI C)]) (rest := [.ref q1]) hX hB (k_X7_init κ l (w) q1 (nI R) R (nI C) C rfl rfl (by omega)) yk_X7_init rfl wm_5_220 wm_5_142 wm_1_7 wm_5_143 ⟨Nat.le_of_ble_eq_true rfl, Nat.le_of_ble_eq_true rfl⟩ ⟨Nat.le_of_ble_eq_true rfl, Nat.le_of_ble_eq_true rfl⟩ rfl hl.1 rfl (Nat.le_of_ble_eq_true rfl) dX7_copy_12 (fun o w' H locs hp hB => ?_)
  obtain ⟨b2, rfl, hw9⟩ := hp
  replace hB : Bd κ A s (lA κ b2 (R * 5) (fun _ => 0) :: gO q1 R C b2 :: w) H locs := by rw [hw9] at hB; exact hB
  refine W.eq (g2 := F0 m 15 ls [.ref q1]) rfl ?_
  refine lv_astore_n (lv' := [(1, .ref q1), (0, .ref g)]) hx hb dX7_copy_15 rfl hl (by decide) rfl (fun ls hl => ?_)
  refine lv_iconst (v := 0) hx hb dX7_copy_16 (by decide) ?_
  refine lv_istore_n (lv' := [(2, .int 0), (1, .ref q1), (0, .ref g)]) hx hb dX7_copy_17 rfl hl (by decide) rfl (fun ls hl => ?_)
  have lp18 : ∀ (nn18 : Nat) (y2_18 : Nat) (fb2_18 : Nat → Int64) (H : Heap) (locs : List Loc), (y2_18 ≤ (R * 5)) → (∀ k, k < y2_18 → fb2_18 k = f k) → (R * 5) + 1 - y2_18 < nn18 → D_X7_copy_18 R f nn18 y2_18 fb2_18 = o_F → Bd κ A s (lA κ b2 (R * 5) fb2_18 :: gO q1 R C b2 :: w) H locs → ∀ ls : Array Slot, lv_has ls 3 [(2, .int (nI y2_18)), (1, .ref q1), (0, .ref g)] → W p l e (Rm 2 42 2 23) s m args below meth c H locs (2) (23) Q (F0 m 18 ls []) := by
    intro nn18
    induction nn18 with
    | zero => intro y2_18 fb2_18 H locs hn2_18 hi_18 hμ; exact absurd hμ (Nat.not_lt_zero _)
    | succ nn18 ih18 =>
      intro y2_18 fb2_18 H locs hn2_18 hi_18 hμ18 hR hB ls hl
      replace hR := (D_X7_copy_18_s).symm.trans hR
      refine lv_iload_n hx hb dX7_copy_18 rfl (lv_at hl 0 rfl) ?_
      refine lv_aload_n hx hb dX7_copy_19 rfl (lv_at hl 2 rfl) ?_
      refine gf (k0 := k1 + 2) hX hB h1 rfl in7 2 (by decide) wm_5_153 rfl rfl dX7_copy_20 ?_
      refine alenL (k0 := k2 + 2) (v := nI (R * 5)) hX hB h2 rfl dX7_copy_23 ?_
      refine lv_icmp_ge (tgt := 45) hx hb dX7_copy_24 (by decide) (fun c5 => ?_) (fun c5 => ?_)
      · rw [nleP (a := R * 5) (b := y2_18) (by omega) (by omega)] at c5
        replace hR := ifp c5 hR
        refine lv_aload_n hx hb dX7_copy_45 rfl (lv_at hl 1 rfl) ?_
        rw [← hQ]
        exact end_a hX hB hA3 rfl (Or.inr ⟨_, rfl⟩) (by obtain rfl := hR; exact ⟨q1, b2, rfl, (fun k hk => hi_18 k (by omega)), rfl⟩) (Nat.le_of_ble_eq_true rfl) (Nat.le_of_ble_eq_true rfl) dX7_copy_46
      · rw [nleP (a := R * 5) (b := y2_18) (by omega) (by omega)] at c5
        replace hR := ifn c5 hR
        refine lv_aload_n hx hb dX7_copy_27 rfl (lv_at hl 1 rfl) ?_
        refine gf (k0 := 1) hX hB rfl rfl in7 2 (by decide) wm_5_153 rfl rfl dX7_copy_28 ?_
        refine lv_iload_n hx hb dX7_copy_31 rfl (lv_at hl 0 rfl) ?_
        refine lv_aload_n hx hb dX7_copy_32 rfl (lv_at hl 2 rfl) ?_
        refine gf (k0 := k1 + 2) hX hB h1 rfl in7 2 (by decide) wm_5_153 rfl rfl dX7_copy_33 ?_
        refine lv_iload_n hx hb dX7_copy_36 rfl (lv_at hl 0 rfl) ?_
        refine laldN (k0 := k2 + 2) (k := y2_18) hX hB h2 (by omega) (by omega) dX7_copy_37 ?_
        refine lastN (k0 := 0) (k := y2_18) hX hB rfl (by omega) (by omega) (w1 := lA κ b2 (R * 5) (vp_updL fb2_18 y2_18 (f y2_18)) :: gO q1 R C b2 :: w) rfl dX7_copy_38 (fun H locs hB => ?_)
        refine lv_iinc (v := nI (y2_18 + 1)) (lv' := [(2, .int (nI (y2_18 + 1))), (1, .ref q1), (0, .ref g)]) hx hb dX7_copy_39 hl (k := 0) rfl (nI_add y2_18 1) (by decide) rfl (fun ls hl => ?_)
        refine lv_goto (tgt := 18) hx hb dX7_copy_42 (by decide) ?_
        exact ih18 (y2_18 + 1) (vp_updL fb2_18 y2_18 (f y2_18)) _ _ (by omega) (upd_inv hi_18) (by omega) hR hB _ hl
  exact lp18 _ 0 (fun _ => 0) _ _ (by omega) (fun k hk => absurd hk (by omega)) (Nat.lt_succ_self _) hR hB _ hl
noncomputable def D_X7_unit_12 (n : Nat) (nn : Nat) : Nat → (Nat → Int64) → (Nat → Int64) := @Nat.rec (fun _ => Nat → (Nat → Int64) → (Nat → Int64)) (fun _ _ => default) (fun _ lb12 (y2_12 : Nat) (fb2_12 : Nat → Int64) => (if n ≤ y2_12 then fb2_12 else (lb12 (y2_12 + 1) (vp_updL fb2_12 (y2_12 * 5 + y2_12) 1)))) nn
theorem D_X7_unit_12_s {n : Nat} {nn : Nat} {y2_12 : Nat} {fb2_12 : Nat → Int64} : D_X7_unit_12 n (nn + 1) y2_12 fb2_12 = (if n ≤ y2_12 then fb2_12 else ((D_X7_unit_12 n nn) (y2_12 + 1) (vp_updL fb2_12 (y2_12 * 5 + y2_12) 1))) := rfl
noncomputable def D_X7_unit (n : Nat) : (Nat → Int64) := (D_X7_unit_12 n (n + 1 - 0 + 1) 0 (fun _ => 0))
theorem D_X7_unit_s {n : Nat} : D_X7_unit n = (D_X7_unit_12 n (n + 1 - 0 + 1) 0 (fun _ => 0)) := rfl
set_option maxHeartbeats 4000000 in
set_option maxRecDepth 100000 in
theorem k_X7_unit (κ : Kt) (l : Launch) (w : va_W) (xn : Int32) (n : Nat) (hxn : xn = nI n) (hn : 1 ≤ n) (hn4 : n ≤ 4) (o_F : Nat → Int64) (hR : D_X7_unit n = o_F) : CM κ l yX7_unit cX7_unit 3 (some (.object "GridmenderModel$Grid")) 2 42 2 23 [.int xn] (w) (fun o w' => ∃ (q1 : Nat) (q2 : Nat), o = some (.ref q1) ∧ (∀ k, o_F k = 0 ∨ o_F k = 1) ∧ w' = lA κ q2 (n * 5) o_F :: gO q1 n n q2 :: w) := by
  
  subst hxn
  refine CM_begin (plainFor_of_name pn_RX7) (Nat.le_of_ble_eq_true rfl) ?_
  intro p e s m args below meth c A Q hX hnm hA3 hQ hB ls hl
  have hx := hX.1.1
  have hb := hX.1.2.1
  have hl : lv_has ls 3 [(0, .int (nI n))] := hl
  replace hR := (D_X7_unit_s).symm.trans hR
  refine newO (fs := [.int 0, .int 0, .null]) hX hB (ci := 8) rfl in7 tyX7_ok wm_5_219 wm_5_140 wm_1_7 df8 (Nat.le_of_ble_eq_true rfl) (Nat.le_of_ble_eq_true rfl) dX7_unit_0 (fun q1 H hB => ?_)
  refine lv_dup hx hb dX7_unit_3 rfl ?_
  refine lv_iload_n hx hb dX7_unit_4 rfl (lv_at hl 0 rfl) ?_
  refine lv_iload_n hx hb dX7_unit_5 rfl (lv_at hl 0 rfl) ?_
  refine call_I (n := 2) (As := [.int (nI n), .int (nI n)]) (rest := [.ref q1]) hX hB (k_X7_init κ l (w) q1 (nI n) n (nI n) n rfl rfl (by omega)) yk_X7_init rfl wm_5_220 wm_5_142 wm_1_7 wm_5_143 ⟨Nat.le_of_ble_eq_true rfl, Nat.le_of_ble_eq_true rfl⟩ ⟨Nat.le_of_ble_eq_true rfl, Nat.le_of_ble_eq_true rfl⟩ rfl hl.1 rfl (Nat.le_of_ble_eq_true rfl) dX7_unit_6 (fun o w' H locs hp hB => ?_)
  obtain ⟨b2, rfl, hw9⟩ := hp
  replace hB : Bd κ A s (lA κ b2 (n * 5) (fun _ => 0) :: gO q1 n n b2 :: w) H locs := by rw [hw9] at hB; exact hB
  refine W.eq (g2 := F0 m 9 ls [.ref q1]) rfl ?_
  refine lv_astore_n (lv' := [(1, .ref q1), (0, .int (nI n))]) hx hb dX7_unit_9 rfl hl (by decide) rfl (fun ls hl => ?_)
  refine lv_iconst (v := 0) hx hb dX7_unit_10 (by decide) ?_
  refine lv_istore_n (lv' := [(2, .int 0), (1, .ref q1), (0, .int (nI n))]) hx hb dX7_unit_11 rfl hl (by decide) rfl (fun ls hl => ?_)
  have lp12 : ∀ (nn12 : Nat) (y2_12 : Nat) (fb2_12 : Nat → Int64) (H : Heap) (locs : List Loc), (y2_12 ≤ n) → (∀ k, fb2_12 k = 0 ∨ fb2_12 k = 1) → n + 1 - y2_12 < nn12 → D_X7_unit_12 n nn12 y2_12 fb2_12 = o_F → Bd κ A s (lA κ b2 (n * 5) fb2_12 :: gO q1 n n b2 :: w) H locs → ∀ ls : Array Slot, lv_has ls 3 [(2, .int (nI y2_12)), (1, .ref q1), (0, .int (nI n))] → W p l e (Rm 2 42 2 23) s m args below meth c H locs (2) (23) Q (F0 m 12 ls []) := by
    intro nn12
    induction nn12 with
    | zero => intro y2_12 fb2_12 H locs hn2_12 hi_12 hμ; exact absurd hμ (Nat.not_lt_zero _)
    | succ nn12 ih12 =>
      intro y2_12 fb2_12 H locs hn2_12 hi_12 hμ12 hR hB ls hl
      replace hR := (D_X7_unit_12_s).symm.trans hR
      refine lv_iload_n hx hb dX7_unit_12 rfl (lv_at hl 0 rfl) ?_
      refine lv_iload_n hx hb dX7_unit_13 rfl (lv_at hl 2 rfl) ?_
      refine lv_icmp_ge (tgt := 30) hx hb dX7_unit_14 (by decide) (fun c5 => ?_) (fun c5 => ?_)
      · rw [nleP (a := n) (b := y2_12) (by omega) (by omega)] at c5
        replace hR := ifp c5 hR
        refine lv_aload_n hx hb dX7_unit_30 rfl (lv_at hl 1 rfl) ?_
        rw [← hQ]
        exact end_a hX hB hA3 rfl (Or.inr ⟨_, rfl⟩) (by obtain rfl := hR; exact ⟨q1, b2, rfl, hi_12, rfl⟩) (Nat.le_of_ble_eq_true rfl) (Nat.le_of_ble_eq_true rfl) dX7_unit_31
      · rw [nleP (a := n) (b := y2_12) (by omega) (by omega)] at c5
        replace hR := ifn c5 hR
        refine lv_aload_n hx hb dX7_unit_17 rfl (lv_at hl 1 rfl) ?_
        refine lv_iload_n hx hb dX7_unit_18 rfl (lv_at hl 0 rfl) ?_
        refine lv_iload_n hx hb dX7_unit_19 rfl (lv_at hl 0 rfl) ?_
        refine lv_lconst (v := 1) hx hb dX7_unit_20 (by decide) ?_
        refine call_V (n := 3) (k0 := 1) (As := [.int (nI y2_12), .int (nI y2_12), .long 1]) (rest := []) hX hB (k_X7_put κ l (lA κ b2 (n * 5) fb2_12 :: gO q1 n n b2 :: w) 1 0 q1 b2 n n fb2_12 (nI y2_12) y2_12 (nI y2_12) y2_12 1 rfl rfl ⟨by omega, by omega, by omega, by omega⟩ rfl rfl (by omega)) ⟨rfl, yk_X7_put⟩ wm_5_221 wm_5_222 wm_5_223 wm_1_7 wm_5_224 ⟨Nat.le_of_ble_eq_true rfl, Nat.le_of_ble_eq_true rfl⟩ ⟨Nat.le_of_ble_eq_true rfl, Nat.le_of_ble_eq_true rfl⟩ rfl rfl rfl rfl hl.1 rfl (Nat.le_of_ble_eq_true rfl) dX7_unit_21 (fun o w' H locs hp hB => ?_)
        obtain ⟨rfl, hw9⟩ := hp
        replace hB : Bd κ A s (lA κ b2 (n * 5) (vp_updL fb2_12 (y2_12 * 5 + y2_12) 1) :: gO q1 n n b2 :: w) H locs := by rw [hw9] at hB; exact hB
        refine W.eq (g2 := F0 m 24 ls []) rfl ?_
        refine lv_iinc (v := nI (y2_12 + 1)) (lv' := [(2, .int (nI (y2_12 + 1))), (1, .ref q1), (0, .int (nI n))]) hx hb dX7_unit_24 hl (k := 0) rfl (nI_add y2_12 1) (by decide) rfl (fun ls hl => ?_)
        refine lv_goto (tgt := 12) hx hb dX7_unit_27 (by decide) ?_
        exact ih12 (y2_12 + 1) (vp_updL fb2_12 (y2_12 * 5 + y2_12) 1) _ _ (by omega) (upd_01 hi_12) (by omega) hR hB _ hl
  exact lp12 _ 0 (fun _ => 0) _ _ (by omega) (fun k => Or.inl rfl) (Nat.lt_succ_self _) hR hB _ hl
set_option maxHeartbeats 4000000 in
set_option maxRecDepth 100000 in
theorem k_X7_exchangeRows (κ : Kt) (l : Launch) (w : va_W) (k1 k2 g b R C : Nat) (f : Nat → Int64) (xi : Int32) (i : Nat) (xj : Int32) (j : Nat) (h1 : w[k1]? = some (gO g R C b)) (h2 : w[k2]? = some (lA κ b (R * 5) f)) (hs : shp R C) (hxi : xi = nI i) (hxj : xj = nI j) (hi : i < R) (hj : j < R) : CM κ l yX7_exchangeRows cX7_exchangeRows 6 (none) 1 24 0 0 [.ref g, .int xi, .int xj] (w) (fun o w' => o = none ∧ w' = wU κ w k2 b (R * 5) (xr C i j f)) := by
  have hs0 := hs
  obtain ⟨hs1, hs2, hs3, hs4⟩ := hs0
  subst hxi
  subst hxj
  refine CM_begin (plainFor_of_name pn_RX7) (Nat.le_of_ble_eq_true rfl) ?_
  intro p e s m args below meth c A Q hX hnm hA3 hQ hB ls hl
  have hx := hX.1.1
  have hb := hX.1.2.1
  have hl : lv_has ls 6 [(0, .ref g), (1, .int (nI i)), (2, .int (nI j))] := hl
  have hB : Bd κ A s (wU κ w k2 b (R * 5) f) s.heap [] := by rw [wU0 h2]; exact hB
  
  refine lv_iconst (v := 0) hx hb dX7_exchangeRows_0 (by decide) ?_
  refine lv_istore_n (lv' := [(3, .int 0), (0, .ref g), (1, .int (nI i)), (2, .int (nI j))]) hx hb dX7_exchangeRows_1 rfl hl (by decide) rfl (fun ls hl => ?_)
  have lp2 : ∀ (nn2 : Nat) (y3_2 : Nat) (f_2 : Nat → Int64) (H : Heap) (locs : List Loc), (y3_2 ≤ C) → (f_2 = xr y3_2 i j f) → C + 1 - y3_2 < nn2 → Bd κ A s (wU κ w k2 b (R * 5) f_2) H locs → ∀ ls : Array Slot, lv_has ls 6 [(3, .int (nI y3_2)), (0, .ref g), (1, .int (nI i)), (2, .int (nI j))] → W p l e (Rm 1 24 0 0) s m args below meth c H locs (0) (0) Q (F0 m 2 ls []) := by
    intro nn2
    induction nn2 with
    | zero => intro y3_2 f_2 H locs hn3_2 hi_2 hμ; exact absurd hμ (Nat.not_lt_zero _)
    | succ nn2 ih2 =>
      intro y3_2 f_2 H locs hn3_2 hi_2 hμ2 hB ls hl
      refine lv_iload_n hx hb dX7_exchangeRows_2 rfl (lv_at hl 0 rfl) ?_
      refine lv_aload_n hx hb dX7_exchangeRows_3 rfl (lv_at hl 1 rfl) ?_
      refine gf (k0 := k1) hX hB (wU1 h1 h2) rfl in7 1 (by decide) wm_5_149 rfl rfl dX7_exchangeRows_4 ?_
      refine lv_icmp_ge (tgt := 44) hx hb dX7_exchangeRows_7 (by decide) (fun c3 => ?_) (fun c3 => ?_)
      · rw [nleP (a := C) (b := y3_2) (by omega) (by omega)] at c3
        rw [← hQ]
        exact end_v hX hB hA3 rfl ⟨rfl, (by rw [hi_2, show y3_2 = C by omega])⟩ (Nat.le_of_ble_eq_true rfl) (Nat.le_of_ble_eq_true rfl) dX7_exchangeRows_44
      · rw [nleP (a := C) (b := y3_2) (by omega) (by omega)] at c3
        refine lv_aload_n hx hb dX7_exchangeRows_10 rfl (lv_at hl 1 rfl) ?_
        refine lv_iload_n hx hb dX7_exchangeRows_11 rfl (lv_at hl 2 rfl) ?_
        refine lv_iload_n hx hb dX7_exchangeRows_12 rfl (lv_at hl 0 rfl) ?_
        refine call_V (n := 2) (k0 := k1) (As := [.int (nI i), .int (nI y3_2)]) (rest := []) hX hB (k_X7_at κ l (wU κ w k2 b (R * 5) f_2) k1 k2 g b R C f_2 (nI i) i (nI y3_2) y3_2 (wU1 h1 h2) (wU2 h2) hs rfl rfl (by omega)) ⟨rfl, yk_X7_at⟩ wm_6_50 wm_5_238 wm_5_239 wm_1_7 wm_6_0 ⟨Nat.le_of_ble_eq_true rfl, Nat.le_of_ble_eq_true rfl⟩ ⟨Nat.le_of_ble_eq_true rfl, Nat.le_of_ble_eq_true rfl⟩ (wU1 h1 h2) rfl rfl rfl hl.1 rfl (Nat.le_of_ble_eq_true rfl) dX7_exchangeRows_13 (fun o w' H locs hp hB => ?_)
        obtain ⟨rfl, hw9⟩ := hp
        replace hB : Bd κ A s (wU κ w k2 b (R * 5) f_2) H locs := by rw [hw9] at hB; exact hB
        refine W.eq (g2 := F0 m 16 ls [.long (f_2 (i * 5 + y3_2))]) rfl ?_
        refine lv_lstore (lv' := [(4, .long (f_2 (i * 5 + y3_2))), (3, .int (nI y3_2)), (0, .ref g), (1, .int (nI i)), (2, .int (nI j))]) hx hb dX7_exchangeRows_16 hl (by decide) rfl (fun ls hl => ?_)
        refine lv_aload_n hx hb dX7_exchangeRows_18 rfl (lv_at hl 2 rfl) ?_
        refine lv_iload_n hx hb dX7_exchangeRows_19 rfl (lv_at hl 3 rfl) ?_
        refine lv_iload_n hx hb dX7_exchangeRows_20 rfl (lv_at hl 1 rfl) ?_
        refine lv_aload_n hx hb dX7_exchangeRows_21 rfl (lv_at hl 2 rfl) ?_
        refine lv_iload_n hx hb dX7_exchangeRows_22 rfl (lv_at hl 4 rfl) ?_
        refine lv_iload_n hx hb dX7_exchangeRows_23 rfl (lv_at hl 1 rfl) ?_
        refine call_V (n := 2) (k0 := k1) (As := [.int (nI j), .int (nI y3_2)]) (rest := [.int (nI y3_2), .int (nI i), .ref g]) hX hB (k_X7_at κ l (wU κ w k2 b (R * 5) f_2) k1 k2 g b R C f_2 (nI j) j (nI y3_2) y3_2 (wU1 h1 h2) (wU2 h2) hs rfl rfl (by omega)) ⟨rfl, yk_X7_at⟩ wm_6_50 wm_5_238 wm_5_239 wm_1_7 wm_6_0 ⟨Nat.le_of_ble_eq_true rfl, Nat.le_of_ble_eq_true rfl⟩ ⟨Nat.le_of_ble_eq_true rfl, Nat.le_of_ble_eq_true rfl⟩ (wU1 h1 h2) rfl rfl rfl hl.1 rfl (Nat.le_of_ble_eq_true rfl) dX7_exchangeRows_24 (fun o w' H locs hp hB => ?_)
        obtain ⟨rfl, hw9⟩ := hp
        replace hB : Bd κ A s (wU κ w k2 b (R * 5) f_2) H locs := by rw [hw9] at hB; exact hB
        refine W.eq (g2 := F0 m 27 ls [.long (f_2 (j * 5 + y3_2)), .int (nI y3_2), .int (nI i), .ref g]) rfl ?_
        refine call_V (n := 3) (k0 := k1) (As := [.int (nI i), .int (nI y3_2), .long (f_2 (j * 5 + y3_2))]) (rest := []) hX hB (k_X7_put κ l (wU κ w k2 b (R * 5) f_2) k1 k2 g b R C f_2 (nI i) i (nI y3_2) y3_2 (f_2 (j * 5 + y3_2)) (wU1 h1 h2) (wU2 h2) hs rfl rfl (by omega)) ⟨rfl, yk_X7_put⟩ wm_5_221 wm_5_222 wm_5_223 wm_1_7 wm_5_224 ⟨Nat.le_of_ble_eq_true rfl, Nat.le_of_ble_eq_true rfl⟩ ⟨Nat.le_of_ble_eq_true rfl, Nat.le_of_ble_eq_true rfl⟩ (wU1 h1 h2) rfl rfl rfl hl.1 rfl (Nat.le_of_ble_eq_true rfl) dX7_exchangeRows_27 (fun o w' H locs hp hB => ?_)
        obtain ⟨rfl, hw9⟩ := hp
        replace hB : Bd κ A s (wU κ w k2 b (R * 5) (vp_updL f_2 (i * 5 + y3_2) (f_2 (j * 5 + y3_2)))) H locs := by rw [hw9, wUU] at hB; exact hB
        refine W.eq (g2 := F0 m 30 ls []) rfl ?_
        refine lv_aload_n hx hb dX7_exchangeRows_30 rfl (lv_at hl 2 rfl) ?_
        refine lv_iload_n hx hb dX7_exchangeRows_31 rfl (lv_at hl 4 rfl) ?_
        refine lv_iload_n hx hb dX7_exchangeRows_32 rfl (lv_at hl 1 rfl) ?_
        refine lv_lload hx hb dX7_exchangeRows_33 (lv_at hl 0 rfl) ?_
        refine call_V (n := 3) (k0 := k1) (As := [.int (nI j), .int (nI y3_2), .long (f_2 (i * 5 + y3_2))]) (rest := []) hX hB (k_X7_put κ l (wU κ w k2 b (R * 5) (vp_updL f_2 (i * 5 + y3_2) (f_2 (j * 5 + y3_2)))) k1 k2 g b R C (vp_updL f_2 (i * 5 + y3_2) (f_2 (j * 5 + y3_2))) (nI j) j (nI y3_2) y3_2 (f_2 (i * 5 + y3_2)) (wU1 h1 h2) (wU2 h2) hs rfl rfl (by omega)) ⟨rfl, yk_X7_put⟩ wm_5_221 wm_5_222 wm_5_223 wm_1_7 wm_5_224 ⟨Nat.le_of_ble_eq_true rfl, Nat.le_of_ble_eq_true rfl⟩ ⟨Nat.le_of_ble_eq_true rfl, Nat.le_of_ble_eq_true rfl⟩ (wU1 h1 h2) rfl rfl rfl hl.1 rfl (Nat.le_of_ble_eq_true rfl) dX7_exchangeRows_35 (fun o w' H locs hp hB => ?_)
        obtain ⟨rfl, hw9⟩ := hp
        replace hB : Bd κ A s (wU κ w k2 b (R * 5) (vp_updL (vp_updL f_2 (i * 5 + y3_2) (f_2 (j * 5 + y3_2))) (j * 5 + y3_2) (f_2 (i * 5 + y3_2)))) H locs := by rw [hw9, wUU] at hB; exact hB
        refine W.eq (g2 := F0 m 38 ls []) rfl ?_
        refine lv_iinc (v := nI (y3_2 + 1)) (lv' := [(3, .int (nI (y3_2 + 1))), (4, .long (f_2 (i * 5 + y3_2))), (0, .ref g), (1, .int (nI i)), (2, .int (nI j))]) hx hb dX7_exchangeRows_38 hl (k := 1) rfl (nI_add y3_2 1) (by decide) rfl (fun ls hl => ?_)
        refine lv_goto (tgt := 2) hx hb dX7_exchangeRows_41 (by decide) ?_
        exact ih2 (y3_2 + 1) (vp_updL (vp_updL f_2 (i * 5 + y3_2) (f_2 (j * 5 + y3_2))) (j * 5 + y3_2) (f_2 (i * 5 + y3_2))) _ _ (by omega) (by rw [hi_2]; exact xr_step (by omega) (by omega) (by omega)) (by omega) hB _ (lv_sub hl [0, 2, 3, 4] rfl)
  exact lp2 _ 0 f _ _ (by omega) ((xr0).symm) (Nat.lt_succ_self _) hB _ hl
set_option maxHeartbeats 4000000 in
set_option maxRecDepth 100000 in
theorem k_X7_exchangeColumns (κ : Kt) (l : Launch) (w : va_W) (k1 k2 g b R C : Nat) (f : Nat → Int64) (xi : Int32) (i : Nat) (xj : Int32) (j : Nat) (h1 : w[k1]? = some (gO g R C b)) (h2 : w[k2]? = some (lA κ b (R * 5) f)) (hs : shp R C) (hxi : xi = nI i) (hxj : xj = nI j) (hi : i < 5) (hj : j < 5) : CM κ l yX7_exchangeColumns cX7_exchangeColumns 6 (none) 1 24 0 0 [.ref g, .int xi, .int xj] (w) (fun o w' => o = none ∧ w' = wU κ w k2 b (R * 5) (xc R i j f)) := by
  have hs0 := hs
  obtain ⟨hs1, hs2, hs3, hs4⟩ := hs0
  subst hxi
  subst hxj
  refine CM_begin (plainFor_of_name pn_RX7) (Nat.le_of_ble_eq_true rfl) ?_
  intro p e s m args below meth c A Q hX hnm hA3 hQ hB ls hl
  have hx := hX.1.1
  have hb := hX.1.2.1
  have hl : lv_has ls 6 [(0, .ref g), (1, .int (nI i)), (2, .int (nI j))] := hl
  have hB : Bd κ A s (wU κ w k2 b (R * 5) f) s.heap [] := by rw [wU0 h2]; exact hB
  
  refine lv_iconst (v := 0) hx hb dX7_exchangeColumns_0 (by decide) ?_
  refine lv_istore_n (lv' := [(3, .int 0), (0, .ref g), (1, .int (nI i)), (2, .int (nI j))]) hx hb dX7_exchangeColumns_1 rfl hl (by decide) rfl (fun ls hl => ?_)
  have lp2 : ∀ (nn2 : Nat) (y3_2 : Nat) (f_2 : Nat → Int64) (H : Heap) (locs : List Loc), (y3_2 ≤ R) → (f_2 = xc y3_2 i j f) → R + 1 - y3_2 < nn2 → Bd κ A s (wU κ w k2 b (R * 5) f_2) H locs → ∀ ls : Array Slot, lv_has ls 6 [(3, .int (nI y3_2)), (0, .ref g), (1, .int (nI i)), (2, .int (nI j))] → W p l e (Rm 1 24 0 0) s m args below meth c H locs (0) (0) Q (F0 m 2 ls []) := by
    intro nn2
    induction nn2 with
    | zero => intro y3_2 f_2 H locs hn3_2 hi_2 hμ; exact absurd hμ (Nat.not_lt_zero _)
    | succ nn2 ih2 =>
      intro y3_2 f_2 H locs hn3_2 hi_2 hμ2 hB ls hl
      refine lv_iload_n hx hb dX7_exchangeColumns_2 rfl (lv_at hl 0 rfl) ?_
      refine lv_aload_n hx hb dX7_exchangeColumns_3 rfl (lv_at hl 1 rfl) ?_
      refine gf (k0 := k1) hX hB (wU1 h1 h2) rfl in7 0 (by decide) wm_5_145 rfl rfl dX7_exchangeColumns_4 ?_
      refine lv_icmp_ge (tgt := 44) hx hb dX7_exchangeColumns_7 (by decide) (fun c3 => ?_) (fun c3 => ?_)
      · rw [nleP (a := R) (b := y3_2) (by omega) (by omega)] at c3
        rw [← hQ]
        exact end_v hX hB hA3 rfl ⟨rfl, (by rw [hi_2, show y3_2 = R by omega])⟩ (Nat.le_of_ble_eq_true rfl) (Nat.le_of_ble_eq_true rfl) dX7_exchangeColumns_44
      · rw [nleP (a := R) (b := y3_2) (by omega) (by omega)] at c3
        refine lv_aload_n hx hb dX7_exchangeColumns_10 rfl (lv_at hl 1 rfl) ?_
        refine lv_iload_n hx hb dX7_exchangeColumns_11 rfl (lv_at hl 0 rfl) ?_
        refine lv_iload_n hx hb dX7_exchangeColumns_12 rfl (lv_at hl 2 rfl) ?_
        refine call_V (n := 2) (k0 := k1) (As := [.int (nI y3_2), .int (nI i)]) (rest := []) hX hB (k_X7_at κ l (wU κ w k2 b (R * 5) f_2) k1 k2 g b R C f_2 (nI y3_2) y3_2 (nI i) i (wU1 h1 h2) (wU2 h2) hs rfl rfl (by omega)) ⟨rfl, yk_X7_at⟩ wm_6_50 wm_5_238 wm_5_239 wm_1_7 wm_6_0 ⟨Nat.le_of_ble_eq_true rfl, Nat.le_of_ble_eq_true rfl⟩ ⟨Nat.le_of_ble_eq_true rfl, Nat.le_of_ble_eq_true rfl⟩ (wU1 h1 h2) rfl rfl rfl hl.1 rfl (Nat.le_of_ble_eq_true rfl) dX7_exchangeColumns_13 (fun o w' H locs hp hB => ?_)
        obtain ⟨rfl, hw9⟩ := hp
        replace hB : Bd κ A s (wU κ w k2 b (R * 5) f_2) H locs := by rw [hw9] at hB; exact hB
        refine W.eq (g2 := F0 m 16 ls [.long (f_2 (y3_2 * 5 + i))]) rfl ?_
        refine lv_lstore (lv' := [(4, .long (f_2 (y3_2 * 5 + i))), (3, .int (nI y3_2)), (0, .ref g), (1, .int (nI i)), (2, .int (nI j))]) hx hb dX7_exchangeColumns_16 hl (by decide) rfl (fun ls hl => ?_)
        refine lv_aload_n hx hb dX7_exchangeColumns_18 rfl (lv_at hl 2 rfl) ?_
        refine lv_iload_n hx hb dX7_exchangeColumns_19 rfl (lv_at hl 1 rfl) ?_
        refine lv_iload_n hx hb dX7_exchangeColumns_20 rfl (lv_at hl 3 rfl) ?_
        refine lv_aload_n hx hb dX7_exchangeColumns_21 rfl (lv_at hl 2 rfl) ?_
        refine lv_iload_n hx hb dX7_exchangeColumns_22 rfl (lv_at hl 1 rfl) ?_
        refine lv_iload_n hx hb dX7_exchangeColumns_23 rfl (lv_at hl 4 rfl) ?_
        refine call_V (n := 2) (k0 := k1) (As := [.int (nI y3_2), .int (nI j)]) (rest := [.int (nI i), .int (nI y3_2), .ref g]) hX hB (k_X7_at κ l (wU κ w k2 b (R * 5) f_2) k1 k2 g b R C f_2 (nI y3_2) y3_2 (nI j) j (wU1 h1 h2) (wU2 h2) hs rfl rfl (by omega)) ⟨rfl, yk_X7_at⟩ wm_6_50 wm_5_238 wm_5_239 wm_1_7 wm_6_0 ⟨Nat.le_of_ble_eq_true rfl, Nat.le_of_ble_eq_true rfl⟩ ⟨Nat.le_of_ble_eq_true rfl, Nat.le_of_ble_eq_true rfl⟩ (wU1 h1 h2) rfl rfl rfl hl.1 rfl (Nat.le_of_ble_eq_true rfl) dX7_exchangeColumns_24 (fun o w' H locs hp hB => ?_)
        obtain ⟨rfl, hw9⟩ := hp
        replace hB : Bd κ A s (wU κ w k2 b (R * 5) f_2) H locs := by rw [hw9] at hB; exact hB
        refine W.eq (g2 := F0 m 27 ls [.long (f_2 (y3_2 * 5 + j)), .int (nI i), .int (nI y3_2), .ref g]) rfl ?_
        refine call_V (n := 3) (k0 := k1) (As := [.int (nI y3_2), .int (nI i), .long (f_2 (y3_2 * 5 + j))]) (rest := []) hX hB (k_X7_put κ l (wU κ w k2 b (R * 5) f_2) k1 k2 g b R C f_2 (nI y3_2) y3_2 (nI i) i (f_2 (y3_2 * 5 + j)) (wU1 h1 h2) (wU2 h2) hs rfl rfl (by omega)) ⟨rfl, yk_X7_put⟩ wm_5_221 wm_5_222 wm_5_223 wm_1_7 wm_5_224 ⟨Nat.le_of_ble_eq_true rfl, Nat.le_of_ble_eq_true rfl⟩ ⟨Nat.le_of_ble_eq_true rfl, Nat.le_of_ble_eq_true rfl⟩ (wU1 h1 h2) rfl rfl rfl hl.1 rfl (Nat.le_of_ble_eq_true rfl) dX7_exchangeColumns_27 (fun o w' H locs hp hB => ?_)
        obtain ⟨rfl, hw9⟩ := hp
        replace hB : Bd κ A s (wU κ w k2 b (R * 5) (vp_updL f_2 (y3_2 * 5 + i) (f_2 (y3_2 * 5 + j)))) H locs := by rw [hw9, wUU] at hB; exact hB
        refine W.eq (g2 := F0 m 30 ls []) rfl ?_
        refine lv_aload_n hx hb dX7_exchangeColumns_30 rfl (lv_at hl 2 rfl) ?_
        refine lv_iload_n hx hb dX7_exchangeColumns_31 rfl (lv_at hl 1 rfl) ?_
        refine lv_iload_n hx hb dX7_exchangeColumns_32 rfl (lv_at hl 4 rfl) ?_
        refine lv_lload hx hb dX7_exchangeColumns_33 (lv_at hl 0 rfl) ?_
        refine call_V (n := 3) (k0 := k1) (As := [.int (nI y3_2), .int (nI j), .long (f_2 (y3_2 * 5 + i))]) (rest := []) hX hB (k_X7_put κ l (wU κ w k2 b (R * 5) (vp_updL f_2 (y3_2 * 5 + i) (f_2 (y3_2 * 5 + j)))) k1 k2 g b R C (vp_updL f_2 (y3_2 * 5 + i) (f_2 (y3_2 * 5 + j))) (nI y3_2) y3_2 (nI j) j (f_2 (y3_2 * 5 + i)) (wU1 h1 h2) (wU2 h2) hs rfl rfl (by omega)) ⟨rfl, yk_X7_put⟩ wm_5_221 wm_5_222 wm_5_223 wm_1_7 wm_5_224 ⟨Nat.le_of_ble_eq_true rfl, Nat.le_of_ble_eq_true rfl⟩ ⟨Nat.le_of_ble_eq_true rfl, Nat.le_of_ble_eq_true rfl⟩ (wU1 h1 h2) rfl rfl rfl hl.1 rfl (Nat.le_of_ble_eq_true rfl) dX7_exchangeColumns_35 (fun o w' H locs hp hB => ?_)
        obtain ⟨rfl, hw9⟩ := hp
        replace hB : Bd κ A s (wU κ w k2 b (R * 5) (vp_updL (vp_updL f_2 (y3_2 * 5 + i) (f_2 (y3_2 * 5 + j))) (y3_2 * 5 + j) (f_2 (y3_2 * 5 + i)))) H locs := by rw [hw9, wUU] at hB; exact hB
        refine W.eq (g2 := F0 m 38 ls []) rfl ?_
        refine lv_iinc (v := nI (y3_2 + 1)) (lv' := [(3, .int (nI (y3_2 + 1))), (4, .long (f_2 (y3_2 * 5 + i))), (0, .ref g), (1, .int (nI i)), (2, .int (nI j))]) hx hb dX7_exchangeColumns_38 hl (k := 1) rfl (nI_add y3_2 1) (by decide) rfl (fun ls hl => ?_)
        refine lv_goto (tgt := 2) hx hb dX7_exchangeColumns_41 (by decide) ?_
        exact ih2 (y3_2 + 1) (vp_updL (vp_updL f_2 (y3_2 * 5 + i) (f_2 (y3_2 * 5 + j))) (y3_2 * 5 + j) (f_2 (y3_2 * 5 + i))) _ _ (by omega) (by rw [hi_2]; exact xc_step (by omega) (by omega) (by omega)) (by omega) hB _ (lv_sub hl [0, 2, 3, 4] rfl)
  exact lp2 _ 0 f _ _ (by omega) ((xc0).symm) (Nat.lt_succ_self _) hB _ hl
set_option maxHeartbeats 4000000 in
set_option maxRecDepth 100000 in
theorem k_X7_turnRow (κ : Kt) (l : Launch) (w : va_W) (k1 k2 g b R C : Nat) (f : Nat → Int64) (xi : Int32) (i : Nat) (h1 : w[k1]? = some (gO g R C b)) (h2 : w[k2]? = some (lA κ b (R * 5) f)) (hs : shp R C) (hxi : xi = nI i) (hi : i < R) : CM κ l yX7_turnRow cX7_turnRow 3 (none) 1 24 0 0 [.ref g, .int xi] (w) (fun o w' => o = none ∧ w' = wU κ w k2 b (R * 5) (tr C i f)) := by
  have hs0 := hs
  obtain ⟨hs1, hs2, hs3, hs4⟩ := hs0
  subst hxi
  refine CM_begin (plainFor_of_name pn_RX7) (Nat.le_of_ble_eq_true rfl) ?_
  intro p e s m args below meth c A Q hX hnm hA3 hQ hB ls hl
  have hx := hX.1.1
  have hb := hX.1.2.1
  have hl : lv_has ls 3 [(0, .ref g), (1, .int (nI i))] := hl
  have hB : Bd κ A s (wU κ w k2 b (R * 5) f) s.heap [] := by rw [wU0 h2]; exact hB
  
  refine lv_iconst (v := 0) hx hb dX7_turnRow_0 (by decide) ?_
  refine lv_istore_n (lv' := [(2, .int 0), (0, .ref g), (1, .int (nI i))]) hx hb dX7_turnRow_1 rfl hl (by decide) rfl (fun ls hl => ?_)
  have lp2 : ∀ (nn2 : Nat) (y2_2 : Nat) (f_2 : Nat → Int64) (H : Heap) (locs : List Loc), (y2_2 ≤ C) → (f_2 = tr y2_2 i f) → C + 1 - y2_2 < nn2 → Bd κ A s (wU κ w k2 b (R * 5) f_2) H locs → ∀ ls : Array Slot, lv_has ls 3 [(2, .int (nI y2_2)), (0, .ref g), (1, .int (nI i))] → W p l e (Rm 1 24 0 0) s m args below meth c H locs (0) (0) Q (F0 m 2 ls []) := by
    intro nn2
    induction nn2 with
    | zero => intro y2_2 f_2 H locs hn2_2 hi_2 hμ; exact absurd hμ (Nat.not_lt_zero _)
    | succ nn2 ih2 =>
      intro y2_2 f_2 H locs hn2_2 hi_2 hμ2 hB ls hl
      refine lv_iload_n hx hb dX7_turnRow_2 rfl (lv_at hl 0 rfl) ?_
      refine lv_aload_n hx hb dX7_turnRow_3 rfl (lv_at hl 1 rfl) ?_
      refine gf (k0 := k1) hX hB (wU1 h1 h2) rfl in7 1 (by decide) wm_5_149 rfl rfl dX7_turnRow_4 ?_
      refine lv_icmp_ge (tgt := 29) hx hb dX7_turnRow_7 (by decide) (fun c3 => ?_) (fun c3 => ?_)
      · rw [nleP (a := C) (b := y2_2) (by omega) (by omega)] at c3
        rw [← hQ]
        exact end_v hX hB hA3 rfl ⟨rfl, (by rw [hi_2, show y2_2 = C by omega])⟩ (Nat.le_of_ble_eq_true rfl) (Nat.le_of_ble_eq_true rfl) dX7_turnRow_29
      · rw [nleP (a := C) (b := y2_2) (by omega) (by omega)] at c3
        refine lv_aload_n hx hb dX7_turnRow_10 rfl (lv_at hl 1 rfl) ?_
        refine lv_iload_n hx hb dX7_turnRow_11 rfl (lv_at hl 2 rfl) ?_
        refine lv_iload_n hx hb dX7_turnRow_12 rfl (lv_at hl 0 rfl) ?_
        refine lv_aload_n hx hb dX7_turnRow_13 rfl (lv_at hl 1 rfl) ?_
        refine lv_iload_n hx hb dX7_turnRow_14 rfl (lv_at hl 2 rfl) ?_
        refine lv_iload_n hx hb dX7_turnRow_15 rfl (lv_at hl 0 rfl) ?_
        refine call_V (n := 2) (k0 := k1) (As := [.int (nI i), .int (nI y2_2)]) (rest := [.int (nI y2_2), .int (nI i), .ref g]) hX hB (k_X7_at κ l (wU κ w k2 b (R * 5) f_2) k1 k2 g b R C f_2 (nI i) i (nI y2_2) y2_2 (wU1 h1 h2) (wU2 h2) hs rfl rfl (by omega)) ⟨rfl, yk_X7_at⟩ wm_6_50 wm_5_238 wm_5_239 wm_1_7 wm_6_0 ⟨Nat.le_of_ble_eq_true rfl, Nat.le_of_ble_eq_true rfl⟩ ⟨Nat.le_of_ble_eq_true rfl, Nat.le_of_ble_eq_true rfl⟩ (wU1 h1 h2) rfl rfl rfl hl.1 rfl (Nat.le_of_ble_eq_true rfl) dX7_turnRow_16 (fun o w' H locs hp hB => ?_)
        obtain ⟨rfl, hw9⟩ := hp
        replace hB : Bd κ A s (wU κ w k2 b (R * 5) f_2) H locs := by rw [hw9] at hB; exact hB
        refine W.eq (g2 := F0 m 19 ls [.long (f_2 (i * 5 + y2_2)), .int (nI y2_2), .int (nI i), .ref g]) rfl ?_
        refine lv_lneg hx hb dX7_turnRow_19 ?_
        refine call_V (n := 3) (k0 := k1) (As := [.int (nI i), .int (nI y2_2), .long (-(f_2 (i * 5 + y2_2)))]) (rest := []) hX hB (k_X7_put κ l (wU κ w k2 b (R * 5) f_2) k1 k2 g b R C f_2 (nI i) i (nI y2_2) y2_2 (-(f_2 (i * 5 + y2_2))) (wU1 h1 h2) (wU2 h2) hs rfl rfl (by omega)) ⟨rfl, yk_X7_put⟩ wm_5_221 wm_5_222 wm_5_223 wm_1_7 wm_5_224 ⟨Nat.le_of_ble_eq_true rfl, Nat.le_of_ble_eq_true rfl⟩ ⟨Nat.le_of_ble_eq_true rfl, Nat.le_of_ble_eq_true rfl⟩ (wU1 h1 h2) rfl rfl rfl hl.1 rfl (Nat.le_of_ble_eq_true rfl) dX7_turnRow_20 (fun o w' H locs hp hB => ?_)
        obtain ⟨rfl, hw9⟩ := hp
        replace hB : Bd κ A s (wU κ w k2 b (R * 5) (vp_updL f_2 (i * 5 + y2_2) (-(f_2 (i * 5 + y2_2))))) H locs := by rw [hw9, wUU] at hB; exact hB
        refine W.eq (g2 := F0 m 23 ls []) rfl ?_
        refine lv_iinc (v := nI (y2_2 + 1)) (lv' := [(2, .int (nI (y2_2 + 1))), (0, .ref g), (1, .int (nI i))]) hx hb dX7_turnRow_23 hl (k := 0) rfl (nI_add y2_2 1) (by decide) rfl (fun ls hl => ?_)
        refine lv_goto (tgt := 2) hx hb dX7_turnRow_26 (by decide) ?_
        exact ih2 (y2_2 + 1) (vp_updL f_2 (i * 5 + y2_2) (-(f_2 (i * 5 + y2_2)))) _ _ (by omega) (by rw [hi_2]; exact tr_step (by omega) (by omega) (by omega)) (by omega) hB _ hl
  exact lp2 _ 0 f _ _ (by omega) ((tr0).symm) (Nat.lt_succ_self _) hB _ hl
set_option maxHeartbeats 4000000 in
set_option maxRecDepth 100000 in
theorem k_X7_addRow (κ : Kt) (l : Launch) (w : va_W) (k1 k2 g b R C : Nat) (f : Nat → Int64) (xi : Int32) (i : Nat) (xj : Int32) (j : Nat) (t : Int64) (h1 : w[k1]? = some (gO g R C b)) (h2 : w[k2]? = some (lA κ b (R * 5) f)) (hs : shp R C) (hxi : xi = nI i) (hxj : xj = nI j) (hi : i < R) (hj : j < R) (hne : i ≠ j) : CM κ l yX7_addRow cX7_addRow 6 (none) 1 24 0 0 [.ref g, .int xi, .int xj, .long t] (w) (fun o w' => o = none ∧ w' = wU κ w k2 b (R * 5) (ar C i j t f)) := by
  have hs0 := hs
  obtain ⟨hs1, hs2, hs3, hs4⟩ := hs0
  subst hxi
  subst hxj
  refine CM_begin (plainFor_of_name pn_RX7) (Nat.le_of_ble_eq_true rfl) ?_
  intro p e s m args below meth c A Q hX hnm hA3 hQ hB ls hl
  have hx := hX.1.1
  have hb := hX.1.2.1
  have hl : lv_has ls 6 [(0, .ref g), (1, .int (nI i)), (2, .int (nI j)), (3, .long t)] := hl
  have hB : Bd κ A s (wU κ w k2 b (R * 5) f) s.heap [] := by rw [wU0 h2]; exact hB
  
  refine lv_iconst (v := 0) hx hb dX7_addRow_0 (by decide) ?_
  refine lv_istore (lv' := [(5, .int 0), (0, .ref g), (1, .int (nI i)), (2, .int (nI j)), (3, .long t)]) hx hb dX7_addRow_1 hl (by decide) rfl (fun ls hl => ?_)
  have lp3 : ∀ (nn3 : Nat) (y5_3 : Nat) (f_3 : Nat → Int64) (H : Heap) (locs : List Loc), (y5_3 ≤ C) → (f_3 = ar y5_3 i j t f) → C + 1 - y5_3 < nn3 → Bd κ A s (wU κ w k2 b (R * 5) f_3) H locs → ∀ ls : Array Slot, lv_has ls 6 [(5, .int (nI y5_3)), (0, .ref g), (1, .int (nI i)), (2, .int (nI j)), (3, .long t)] → W p l e (Rm 1 24 0 0) s m args below meth c H locs (0) (0) Q (F0 m 3 ls []) := by
    intro nn3
    induction nn3 with
    | zero => intro y5_3 f_3 H locs hn5_3 hi_3 hμ; exact absurd hμ (Nat.not_lt_zero _)
    | succ nn3 ih3 =>
      intro y5_3 f_3 H locs hn5_3 hi_3 hμ3 hB ls hl
      refine lv_iload hx hb dX7_addRow_3 (lv_at hl 0 rfl) ?_
      refine lv_aload_n hx hb dX7_addRow_5 rfl (lv_at hl 1 rfl) ?_
      refine gf (k0 := k1) hX hB (wU1 h1 h2) rfl in7 1 (by decide) wm_5_149 rfl rfl dX7_addRow_6 ?_
      refine lv_icmp_ge (tgt := 42) hx hb dX7_addRow_9 (by decide) (fun c3 => ?_) (fun c3 => ?_)
      · rw [nleP (a := C) (b := y5_3) (by omega) (by omega)] at c3
        rw [← hQ]
        exact end_v hX hB hA3 rfl ⟨rfl, (by rw [hi_3, show y5_3 = C by omega])⟩ (Nat.le_of_ble_eq_true rfl) (Nat.le_of_ble_eq_true rfl) dX7_addRow_42
      · rw [nleP (a := C) (b := y5_3) (by omega) (by omega)] at c3
        refine lv_aload_n hx hb dX7_addRow_12 rfl (lv_at hl 1 rfl) ?_
        refine lv_iload_n hx hb dX7_addRow_13 rfl (lv_at hl 2 rfl) ?_
        refine lv_iload hx hb dX7_addRow_14 (lv_at hl 0 rfl) ?_
        refine lv_aload_n hx hb dX7_addRow_16 rfl (lv_at hl 1 rfl) ?_
        refine lv_iload_n hx hb dX7_addRow_17 rfl (lv_at hl 2 rfl) ?_
        refine lv_iload hx hb dX7_addRow_18 (lv_at hl 0 rfl) ?_
        refine call_V (n := 2) (k0 := k1) (As := [.int (nI i), .int (nI y5_3)]) (rest := [.int (nI y5_3), .int (nI i), .ref g]) hX hB (k_X7_at κ l (wU κ w k2 b (R * 5) f_3) k1 k2 g b R C f_3 (nI i) i (nI y5_3) y5_3 (wU1 h1 h2) (wU2 h2) hs rfl rfl (by omega)) ⟨rfl, yk_X7_at⟩ wm_6_50 wm_5_238 wm_5_239 wm_1_7 wm_6_0 ⟨Nat.le_of_ble_eq_true rfl, Nat.le_of_ble_eq_true rfl⟩ ⟨Nat.le_of_ble_eq_true rfl, Nat.le_of_ble_eq_true rfl⟩ (wU1 h1 h2) rfl rfl rfl hl.1 rfl (Nat.le_of_ble_eq_true rfl) dX7_addRow_20 (fun o w' H locs hp hB => ?_)
        obtain ⟨rfl, hw9⟩ := hp
        replace hB : Bd κ A s (wU κ w k2 b (R * 5) f_3) H locs := by rw [hw9] at hB; exact hB
        refine W.eq (g2 := F0 m 23 ls [.long (f_3 (i * 5 + y5_3)), .int (nI y5_3), .int (nI i), .ref g]) rfl ?_
        refine lv_lload_n hx hb dX7_addRow_23 rfl (lv_at hl 4 rfl) ?_
        refine lv_aload_n hx hb dX7_addRow_24 rfl (lv_at hl 1 rfl) ?_
        refine lv_iload_n hx hb dX7_addRow_25 rfl (lv_at hl 3 rfl) ?_
        refine lv_iload hx hb dX7_addRow_26 (lv_at hl 0 rfl) ?_
        refine call_V (n := 2) (k0 := k1) (As := [.int (nI j), .int (nI y5_3)]) (rest := [.long t, .long (f_3 (i * 5 + y5_3)), .int (nI y5_3), .int (nI i), .ref g]) hX hB (k_X7_at κ l (wU κ w k2 b (R * 5) f_3) k1 k2 g b R C f_3 (nI j) j (nI y5_3) y5_3 (wU1 h1 h2) (wU2 h2) hs rfl rfl (by omega)) ⟨rfl, yk_X7_at⟩ wm_6_50 wm_5_238 wm_5_239 wm_1_7 wm_6_0 ⟨Nat.le_of_ble_eq_true rfl, Nat.le_of_ble_eq_true rfl⟩ ⟨Nat.le_of_ble_eq_true rfl, Nat.le_of_ble_eq_true rfl⟩ (wU1 h1 h2) rfl rfl rfl hl.1 rfl (Nat.le_of_ble_eq_true rfl) dX7_addRow_28 (fun o w' H locs hp hB => ?_)
        obtain ⟨rfl, hw9⟩ := hp
        replace hB : Bd κ A s (wU κ w k2 b (R * 5) f_3) H locs := by rw [hw9] at hB; exact hB
        refine W.eq (g2 := F0 m 31 ls [.long (f_3 (j * 5 + y5_3)), .long t, .long (f_3 (i * 5 + y5_3)), .int (nI y5_3), .int (nI i), .ref g]) rfl ?_
        refine lv_lmul hx hb dX7_addRow_31 ?_
        refine lv_ladd hx hb dX7_addRow_32 ?_
        refine call_V (n := 3) (k0 := k1) (As := [.int (nI i), .int (nI y5_3), .long ((f_3 (i * 5 + y5_3)) + (t * (f_3 (j * 5 + y5_3))))]) (rest := []) hX hB (k_X7_put κ l (wU κ w k2 b (R * 5) f_3) k1 k2 g b R C f_3 (nI i) i (nI y5_3) y5_3 ((f_3 (i * 5 + y5_3)) + (t * (f_3 (j * 5 + y5_3)))) (wU1 h1 h2) (wU2 h2) hs rfl rfl (by omega)) ⟨rfl, yk_X7_put⟩ wm_5_221 wm_5_222 wm_5_223 wm_1_7 wm_5_224 ⟨Nat.le_of_ble_eq_true rfl, Nat.le_of_ble_eq_true rfl⟩ ⟨Nat.le_of_ble_eq_true rfl, Nat.le_of_ble_eq_true rfl⟩ (wU1 h1 h2) rfl rfl rfl hl.1 rfl (Nat.le_of_ble_eq_true rfl) dX7_addRow_33 (fun o w' H locs hp hB => ?_)
        obtain ⟨rfl, hw9⟩ := hp
        replace hB : Bd κ A s (wU κ w k2 b (R * 5) (vp_updL f_3 (i * 5 + y5_3) ((f_3 (i * 5 + y5_3)) + (t * (f_3 (j * 5 + y5_3)))))) H locs := by rw [hw9, wUU] at hB; exact hB
        refine W.eq (g2 := F0 m 36 ls []) rfl ?_
        refine lv_iinc (v := nI (y5_3 + 1)) (lv' := [(5, .int (nI (y5_3 + 1))), (0, .ref g), (1, .int (nI i)), (2, .int (nI j)), (3, .long t)]) hx hb dX7_addRow_36 hl (k := 0) rfl (nI_add y5_3 1) (by decide) rfl (fun ls hl => ?_)
        refine lv_goto (tgt := 3) hx hb dX7_addRow_39 (by decide) ?_
        exact ih3 (y5_3 + 1) (vp_updL f_3 (i * 5 + y5_3) ((f_3 (i * 5 + y5_3)) + (t * (f_3 (j * 5 + y5_3))))) _ _ (by omega) (by rw [hi_3]; exact ar_step (by omega) (by omega) (by omega)) (by omega) hB _ hl
  exact lp3 _ 0 f _ _ (by omega) ((ar0).symm) (Nat.lt_succ_self _) hB _ hl
set_option maxHeartbeats 4000000 in
set_option maxRecDepth 100000 in
theorem k_X7_addColumn (κ : Kt) (l : Launch) (w : va_W) (k1 k2 g b R C : Nat) (f : Nat → Int64) (xi : Int32) (i : Nat) (xj : Int32) (j : Nat) (t : Int64) (h1 : w[k1]? = some (gO g R C b)) (h2 : w[k2]? = some (lA κ b (R * 5) f)) (hs : shp R C) (hxi : xi = nI i) (hxj : xj = nI j) (hi : i < 5) (hj : j < 5) (hne : i ≠ j) : CM κ l yX7_addColumn cX7_addColumn 6 (none) 1 24 0 0 [.ref g, .int xi, .int xj, .long t] (w) (fun o w' => o = none ∧ w' = wU κ w k2 b (R * 5) (ac R i j t f)) := by
  have hs0 := hs
  obtain ⟨hs1, hs2, hs3, hs4⟩ := hs0
  subst hxi
  subst hxj
  refine CM_begin (plainFor_of_name pn_RX7) (Nat.le_of_ble_eq_true rfl) ?_
  intro p e s m args below meth c A Q hX hnm hA3 hQ hB ls hl
  have hx := hX.1.1
  have hb := hX.1.2.1
  have hl : lv_has ls 6 [(0, .ref g), (1, .int (nI i)), (2, .int (nI j)), (3, .long t)] := hl
  have hB : Bd κ A s (wU κ w k2 b (R * 5) f) s.heap [] := by rw [wU0 h2]; exact hB
  
  refine lv_iconst (v := 0) hx hb dX7_addColumn_0 (by decide) ?_
  refine lv_istore (lv' := [(5, .int 0), (0, .ref g), (1, .int (nI i)), (2, .int (nI j)), (3, .long t)]) hx hb dX7_addColumn_1 hl (by decide) rfl (fun ls hl => ?_)
  have lp3 : ∀ (nn3 : Nat) (y5_3 : Nat) (f_3 : Nat → Int64) (H : Heap) (locs : List Loc), (y5_3 ≤ R) → (f_3 = ac y5_3 i j t f) → R + 1 - y5_3 < nn3 → Bd κ A s (wU κ w k2 b (R * 5) f_3) H locs → ∀ ls : Array Slot, lv_has ls 6 [(5, .int (nI y5_3)), (0, .ref g), (1, .int (nI i)), (2, .int (nI j)), (3, .long t)] → W p l e (Rm 1 24 0 0) s m args below meth c H locs (0) (0) Q (F0 m 3 ls []) := by
    intro nn3
    induction nn3 with
    | zero => intro y5_3 f_3 H locs hn5_3 hi_3 hμ; exact absurd hμ (Nat.not_lt_zero _)
    | succ nn3 ih3 =>
      intro y5_3 f_3 H locs hn5_3 hi_3 hμ3 hB ls hl
      refine lv_iload hx hb dX7_addColumn_3 (lv_at hl 0 rfl) ?_
      refine lv_aload_n hx hb dX7_addColumn_5 rfl (lv_at hl 1 rfl) ?_
      refine gf (k0 := k1) hX hB (wU1 h1 h2) rfl in7 0 (by decide) wm_5_145 rfl rfl dX7_addColumn_6 ?_
      refine lv_icmp_ge (tgt := 42) hx hb dX7_addColumn_9 (by decide) (fun c3 => ?_) (fun c3 => ?_)
      · rw [nleP (a := R) (b := y5_3) (by omega) (by omega)] at c3
        rw [← hQ]
        exact end_v hX hB hA3 rfl ⟨rfl, (by rw [hi_3, show y5_3 = R by omega])⟩ (Nat.le_of_ble_eq_true rfl) (Nat.le_of_ble_eq_true rfl) dX7_addColumn_42
      · rw [nleP (a := R) (b := y5_3) (by omega) (by omega)] at c3
        refine lv_aload_n hx hb dX7_addColumn_12 rfl (lv_at hl 1 rfl) ?_
        refine lv_iload hx hb dX7_addColumn_13 (lv_at hl 0 rfl) ?_
        refine lv_iload_n hx hb dX7_addColumn_15 rfl (lv_at hl 2 rfl) ?_
        refine lv_aload_n hx hb dX7_addColumn_16 rfl (lv_at hl 1 rfl) ?_
        refine lv_iload hx hb dX7_addColumn_17 (lv_at hl 0 rfl) ?_
        refine lv_iload_n hx hb dX7_addColumn_19 rfl (lv_at hl 2 rfl) ?_
        refine call_V (n := 2) (k0 := k1) (As := [.int (nI y5_3), .int (nI i)]) (rest := [.int (nI i), .int (nI y5_3), .ref g]) hX hB (k_X7_at κ l (wU κ w k2 b (R * 5) f_3) k1 k2 g b R C f_3 (nI y5_3) y5_3 (nI i) i (wU1 h1 h2) (wU2 h2) hs rfl rfl (by omega)) ⟨rfl, yk_X7_at⟩ wm_6_50 wm_5_238 wm_5_239 wm_1_7 wm_6_0 ⟨Nat.le_of_ble_eq_true rfl, Nat.le_of_ble_eq_true rfl⟩ ⟨Nat.le_of_ble_eq_true rfl, Nat.le_of_ble_eq_true rfl⟩ (wU1 h1 h2) rfl rfl rfl hl.1 rfl (Nat.le_of_ble_eq_true rfl) dX7_addColumn_20 (fun o w' H locs hp hB => ?_)
        obtain ⟨rfl, hw9⟩ := hp
        replace hB : Bd κ A s (wU κ w k2 b (R * 5) f_3) H locs := by rw [hw9] at hB; exact hB
        refine W.eq (g2 := F0 m 23 ls [.long (f_3 (y5_3 * 5 + i)), .int (nI i), .int (nI y5_3), .ref g]) rfl ?_
        refine lv_lload_n hx hb dX7_addColumn_23 rfl (lv_at hl 4 rfl) ?_
        refine lv_aload_n hx hb dX7_addColumn_24 rfl (lv_at hl 1 rfl) ?_
        refine lv_iload hx hb dX7_addColumn_25 (lv_at hl 0 rfl) ?_
        refine lv_iload_n hx hb dX7_addColumn_27 rfl (lv_at hl 3 rfl) ?_
        refine call_V (n := 2) (k0 := k1) (As := [.int (nI y5_3), .int (nI j)]) (rest := [.long t, .long (f_3 (y5_3 * 5 + i)), .int (nI i), .int (nI y5_3), .ref g]) hX hB (k_X7_at κ l (wU κ w k2 b (R * 5) f_3) k1 k2 g b R C f_3 (nI y5_3) y5_3 (nI j) j (wU1 h1 h2) (wU2 h2) hs rfl rfl (by omega)) ⟨rfl, yk_X7_at⟩ wm_6_50 wm_5_238 wm_5_239 wm_1_7 wm_6_0 ⟨Nat.le_of_ble_eq_true rfl, Nat.le_of_ble_eq_true rfl⟩ ⟨Nat.le_of_ble_eq_true rfl, Nat.le_of_ble_eq_true rfl⟩ (wU1 h1 h2) rfl rfl rfl hl.1 rfl (Nat.le_of_ble_eq_true rfl) dX7_addColumn_28 (fun o w' H locs hp hB => ?_)
        obtain ⟨rfl, hw9⟩ := hp
        replace hB : Bd κ A s (wU κ w k2 b (R * 5) f_3) H locs := by rw [hw9] at hB; exact hB
        refine W.eq (g2 := F0 m 31 ls [.long (f_3 (y5_3 * 5 + j)), .long t, .long (f_3 (y5_3 * 5 + i)), .int (nI i), .int (nI y5_3), .ref g]) rfl ?_
        refine lv_lmul hx hb dX7_addColumn_31 ?_
        refine lv_ladd hx hb dX7_addColumn_32 ?_
        refine call_V (n := 3) (k0 := k1) (As := [.int (nI y5_3), .int (nI i), .long ((f_3 (y5_3 * 5 + i)) + (t * (f_3 (y5_3 * 5 + j))))]) (rest := []) hX hB (k_X7_put κ l (wU κ w k2 b (R * 5) f_3) k1 k2 g b R C f_3 (nI y5_3) y5_3 (nI i) i ((f_3 (y5_3 * 5 + i)) + (t * (f_3 (y5_3 * 5 + j)))) (wU1 h1 h2) (wU2 h2) hs rfl rfl (by omega)) ⟨rfl, yk_X7_put⟩ wm_5_221 wm_5_222 wm_5_223 wm_1_7 wm_5_224 ⟨Nat.le_of_ble_eq_true rfl, Nat.le_of_ble_eq_true rfl⟩ ⟨Nat.le_of_ble_eq_true rfl, Nat.le_of_ble_eq_true rfl⟩ (wU1 h1 h2) rfl rfl rfl hl.1 rfl (Nat.le_of_ble_eq_true rfl) dX7_addColumn_33 (fun o w' H locs hp hB => ?_)
        obtain ⟨rfl, hw9⟩ := hp
        replace hB : Bd κ A s (wU κ w k2 b (R * 5) (vp_updL f_3 (y5_3 * 5 + i) ((f_3 (y5_3 * 5 + i)) + (t * (f_3 (y5_3 * 5 + j)))))) H locs := by rw [hw9, wUU] at hB; exact hB
        refine W.eq (g2 := F0 m 36 ls []) rfl ?_
        refine lv_iinc (v := nI (y5_3 + 1)) (lv' := [(5, .int (nI (y5_3 + 1))), (0, .ref g), (1, .int (nI i)), (2, .int (nI j)), (3, .long t)]) hx hb dX7_addColumn_36 hl (k := 0) rfl (nI_add y5_3 1) (by decide) rfl (fun ls hl => ?_)
        refine lv_goto (tgt := 3) hx hb dX7_addColumn_39 (by decide) ?_
        exact ih3 (y5_3 + 1) (vp_updL f_3 (y5_3 * 5 + i) ((f_3 (y5_3 * 5 + i)) + (t * (f_3 (y5_3 * 5 + j))))) _ _ (by omega) (by rw [hi_3]; exact ac_step (by omega) (by omega) (by omega)) (by omega) hB _ hl
  exact lp3 _ 0 f _ _ (by omega) ((ac0).symm) (Nat.lt_succ_self _) hB _ hl
noncomputable def D_X7_isGreat_10 (R : Nat) (f : Nat → Int64) (nn : Nat) : Nat → Int32 := @Nat.rec (fun _ => Nat → Int32) (fun _ => default) (fun _ lb10 (y3_10 : Nat) => (if (R * 5) ≤ y3_10 then 0 else (if 0 < (lg_cmp (f y3_10) 1000000000) then 1 else (if 0 ≤ (lg_cmp (f y3_10) (-1000000000)) then (lb10 (y3_10 + 1)) else 1)))) nn
theorem D_X7_isGreat_10_s {R : Nat} {f : Nat → Int64} {nn : Nat} {y3_10 : Nat} : D_X7_isGreat_10 R f (nn + 1) y3_10 = (if (R * 5) ≤ y3_10 then 0 else (if 0 < (lg_cmp (f y3_10) 1000000000) then 1 else (if 0 ≤ (lg_cmp (f y3_10) (-1000000000)) then ((D_X7_isGreat_10 R f nn) (y3_10 + 1)) else 1))) := rfl
noncomputable def D_X7_isGreat (R : Nat) (C : Nat) (f : Nat → Int64) : Int32 := (D_X7_isGreat_10 R f ((R * 5) + 1 - 0 + 1) 0)
theorem D_X7_isGreat_s {R : Nat} {C : Nat} {f : Nat → Int64} : D_X7_isGreat R C f = (D_X7_isGreat_10 R f ((R * 5) + 1 - 0 + 1) 0) := rfl
set_option maxHeartbeats 4000000 in
set_option maxRecDepth 100000 in
theorem k_X7_isGreat (κ : Kt) (l : Launch) (w : va_W) (k1 k2 g b R C : Nat) (f : Nat → Int64) (h1 : w[k1]? = some (gO g R C b)) (h2 : w[k2]? = some (lA κ b (R * 5) f)) (hs : shp R C) (o_x : Int32) (hR : D_X7_isGreat R C f = o_x) : CM κ l yX7_isGreat cX7_isGreat 6 (some .boolean) 0 0 0 0 [.ref g] (w) (fun o w' => o = some (.int o_x) ∧ (o_x = 0 ∨ o_x = 1) ∧ (o_x = 0 → ∀ k, k < R * 5 → ng (f k)) ∧ w' = w) := by
  have hs0 := hs
  obtain ⟨hs1, hs2, hs3, hs4⟩ := hs0
  refine CM_begin (plainFor_of_name pn_RX7) (Nat.le_of_ble_eq_true rfl) ?_
  intro p e s m args below meth c A Q hX hnm hA3 hQ hB ls hl
  have hx := hX.1.1
  have hb := hX.1.2.1
  have hl : lv_has ls 6 [(0, .ref g)] := hl
  replace hR := (D_X7_isGreat_s).symm.trans hR
  refine lv_aload_n hx hb dX7_isGreat_0 rfl (lv_at hl 0 rfl) ?_
  refine gf (k0 := k1) hX hB h1 rfl in7 2 (by decide) wm_5_153 rfl rfl dX7_isGreat_1 ?_
  refine lv_astore_n (lv' := [(1, .ref b), (0, .ref g)]) hx hb dX7_isGreat_4 rfl hl (by decide) rfl (fun ls hl => ?_)
  refine lv_aload_n hx hb dX7_isGreat_5 rfl (lv_at hl 0 rfl) ?_
  refine alenL (k0 := k2) (v := nI (R * 5)) hX hB h2 rfl dX7_isGreat_6 ?_
  refine lv_istore_n (lv' := [(2, .int (nI (R * 5))), (1, .ref b), (0, .ref g)]) hx hb dX7_isGreat_7 rfl hl (by decide) rfl (fun ls hl => ?_)
  refine lv_iconst (v := 0) hx hb dX7_isGreat_8 (by decide) ?_
  refine lv_istore_n (lv' := [(3, .int 0), (2, .int (nI (R * 5))), (1, .ref b), (0, .ref g)]) hx hb dX7_isGreat_9 rfl hl (by decide) rfl (fun ls hl => ?_)
  have lp10 : ∀ (nn10 : Nat) (y3_10 : Nat) (H : Heap) (locs : List Loc), (y3_10 ≤ (R * 5)) → (∀ k, k < y3_10 → ng (f k)) → (R * 5) + 1 - y3_10 < nn10 → D_X7_isGreat_10 R f nn10 y3_10 = o_x → Bd κ A s (w) H locs → ∀ ls : Array Slot, lv_has ls 6 [(3, .int (nI y3_10)), (2, .int (nI (R * 5))), (1, .ref b), (0, .ref g)] → W p l e (Rm 0 0 0 0) s m args below meth c H locs (0) (0) Q (F0 m 10 ls []) := by
    intro nn10
    induction nn10 with
    | zero => intro y3_10 H locs hn3_10 hi_10 hμ; exact absurd hμ (Nat.not_lt_zero _)
    | succ nn10 ih10 =>
      intro y3_10 H locs hn3_10 hi_10 hμ10 hR hB ls hl
      replace hR := (D_X7_isGreat_10_s).symm.trans hR
      refine lv_iload_n hx hb dX7_isGreat_10 rfl (lv_at hl 0 rfl) ?_
      refine lv_iload_n hx hb dX7_isGreat_11 rfl (lv_at hl 1 rfl) ?_
      refine lv_icmp_ge (tgt := 46) hx hb dX7_isGreat_12 (by decide) (fun c7 => ?_) (fun c7 => ?_)
      · rw [nleP (a := R * 5) (b := y3_10) (by omega) (by omega)] at c7
        replace hR := ifp c7 hR
        refine lv_iconst (v := 0) hx hb dX7_isGreat_46 (by decide) ?_
        rw [← hQ]
        exact end_i hX hB hA3 rfl rfl (by obtain rfl := hR; exact ⟨rfl, (Or.inl rfl), (fun _ k hk => hi_10 k (by omega)), rfl⟩) (Nat.le_of_ble_eq_true rfl) (Nat.le_of_ble_eq_true rfl) dX7_isGreat_47
      · rw [nleP (a := R * 5) (b := y3_10) (by omega) (by omega)] at c7
        replace hR := ifn c7 hR
        refine lv_aload_n hx hb dX7_isGreat_15 rfl (lv_at hl 2 rfl) ?_
        refine lv_iload_n hx hb dX7_isGreat_16 rfl (lv_at hl 0 rfl) ?_
        refine laldN (k0 := k2) (k := y3_10) hX hB h2 (by omega) (by omega) dX7_isGreat_17 ?_
        refine lv_lstore (lv' := [(4, .long (f y3_10)), (3, .int (nI y3_10)), (2, .int (nI (R * 5))), (1, .ref b), (0, .ref g)]) hx hb dX7_isGreat_18 hl (by decide) rfl (fun ls hl => ?_)
        refine lv_lload hx hb dX7_isGreat_20 (lv_at hl 0 rfl) ?_
        refine lv_ldc2 (own := RX7) (v := 1000000000) hx hb hX.1.2.2.2.1 (hX.1.2.2.2.2 _ wm_6_157) dX7_isGreat_22 ?_
        refine W.lcmp hx hb dX7_isGreat_25 ?_
        refine lv_if_gt (tgt := 38) hx hb dX7_isGreat_26 (by decide) (fun c8 => ?_) (fun c8 => ?_)
        · replace hR := ifp c8 hR
          refine lv_iconst (v := 1) hx hb dX7_isGreat_38 (by decide) ?_
          rw [← hQ]
          exact end_i hX hB hA3 rfl rfl (by obtain rfl := hR; exact ⟨rfl, (Or.inr rfl), (fun h => absurd h (by decide)), rfl⟩) (Nat.le_of_ble_eq_true rfl) (Nat.le_of_ble_eq_true rfl) dX7_isGreat_39
        · replace hR := ifn c8 hR
          refine lv_lload hx hb dX7_isGreat_29 (lv_at hl 0 rfl) ?_
          refine lv_ldc2 (own := RX7) (v := (-1000000000)) hx hb hX.1.2.2.2.1 (hX.1.2.2.2.2 _ wm_6_158) dX7_isGreat_31 ?_
          refine W.lcmp hx hb dX7_isGreat_34 ?_
          refine lv_if_ge (tgt := 40) hx hb dX7_isGreat_35 (by decide) (fun c9 => ?_) (fun c9 => ?_)
          · replace hR := ifp c9 hR
            refine lv_iinc (v := nI (y3_10 + 1)) (lv' := [(3, .int (nI (y3_10 + 1))), (4, .long (f y3_10)), (2, .int (nI (R * 5))), (1, .ref b), (0, .ref g)]) hx hb dX7_isGreat_40 hl (k := 1) rfl (nI_add y3_10 1) (by decide) rfl (fun ls hl => ?_)
            refine lv_goto (tgt := 10) hx hb dX7_isGreat_43 (by decide) ?_
            exact ih10 (y3_10 + 1) _ _ (by omega) (lt_s hi_10 (ng_of (by assumption) (by assumption))) (by omega) hR hB _ (lv_sub hl [0, 2, 3, 4] rfl)
          · replace hR := ifn c9 hR
            refine lv_iconst (v := 1) hx hb dX7_isGreat_38 (by decide) ?_
            rw [← hQ]
            exact end_i hX hB hA3 rfl rfl (by obtain rfl := hR; exact ⟨rfl, (Or.inr rfl), (fun h => absurd h (by decide)), rfl⟩) (Nat.le_of_ble_eq_true rfl) (Nat.le_of_ble_eq_true rfl) dX7_isGreat_39
  exact lp10 _ 0 _ _ (by omega) (fun k hk => absurd hk (by omega)) (Nat.lt_succ_self _) hR hB _ hl
noncomputable def D_X7_isLet_10 (R : Nat) (f : Nat → Int64) (nn : Nat) : Nat → Int32 := @Nat.rec (fun _ => Nat → Int32) (fun _ => default) (fun _ lb10 (y3_10 : Nat) => (if (R * 5) ≤ y3_10 then 1 else (if 0 < (lg_cmp (f y3_10) 20) then 0 else (if 0 ≤ (lg_cmp (f y3_10) (-20)) then (lb10 (y3_10 + 1)) else 0)))) nn
theorem D_X7_isLet_10_s {R : Nat} {f : Nat → Int64} {nn : Nat} {y3_10 : Nat} : D_X7_isLet_10 R f (nn + 1) y3_10 = (if (R * 5) ≤ y3_10 then 1 else (if 0 < (lg_cmp (f y3_10) 20) then 0 else (if 0 ≤ (lg_cmp (f y3_10) (-20)) then ((D_X7_isLet_10 R f nn) (y3_10 + 1)) else 0))) := rfl
noncomputable def D_X7_isLet (R : Nat) (C : Nat) (f : Nat → Int64) : Int32 := (D_X7_isLet_10 R f ((R * 5) + 1 - 0 + 1) 0)
theorem D_X7_isLet_s {R : Nat} {C : Nat} {f : Nat → Int64} : D_X7_isLet R C f = (D_X7_isLet_10 R f ((R * 5) + 1 - 0 + 1) 0) := rfl
set_option maxHeartbeats 4000000 in
set_option maxRecDepth 100000 in
theorem k_X7_isLet (κ : Kt) (l : Launch) (w : va_W) (k1 k2 g b R C : Nat) (f : Nat → Int64) (h1 : w[k1]? = some (gO g R C b)) (h2 : w[k2]? = some (lA κ b (R * 5) f)) (hs : shp R C) (o_x : Int32) (hR : D_X7_isLet R C f = o_x) : CM κ l yX7_isLet cX7_isLet 6 (some .boolean) 0 0 0 0 [.ref g] (w) (fun o w' => o = some (.int o_x) ∧ (o_x = 0 ∨ o_x = 1) ∧ (o_x = 1 → ∀ k, k < R * 5 → sm (f k)) ∧ w' = w) := by
  have hs0 := hs
  obtain ⟨hs1, hs2, hs3, hs4⟩ := hs0
  refine CM_begin (plainFor_of_name pn_RX7) (Nat.le_of_ble_eq_true rfl) ?_
  intro p e s m args below meth c A Q hX hnm hA3 hQ hB ls hl
  have hx := hX.1.1
  have hb := hX.1.2.1
  have hl : lv_has ls 6 [(0, .ref g)] := hl
  replace hR := (D_X7_isLet_s).symm.trans hR
  refine lv_aload_n hx hb dX7_isLet_0 rfl (lv_at hl 0 rfl) ?_
  refine gf (k0 := k1) hX hB h1 rfl in7 2 (by decide) wm_5_153 rfl rfl dX7_isLet_1 ?_
  refine lv_astore_n (lv' := [(1, .ref b), (0, .ref g)]) hx hb dX7_isLet_4 rfl hl (by decide) rfl (fun ls hl => ?_)
  refine lv_aload_n hx hb dX7_isLet_5 rfl (lv_at hl 0 rfl) ?_
  refine alenL (k0 := k2) (v := nI (R * 5)) hX hB h2 rfl dX7_isLet_6 ?_
  refine lv_istore_n (lv' := [(2, .int (nI (R * 5))), (1, .ref b), (0, .ref g)]) hx hb dX7_isLet_7 rfl hl (by decide) rfl (fun ls hl => ?_)
  refine lv_iconst (v := 0) hx hb dX7_isLet_8 (by decide) ?_
  refine lv_istore_n (lv' := [(3, .int 0), (2, .int (nI (R * 5))), (1, .ref b), (0, .ref g)]) hx hb dX7_isLet_9 rfl hl (by decide) rfl (fun ls hl => ?_)
  have lp10 : ∀ (nn10 : Nat) (y3_10 : Nat) (H : Heap) (locs : List Loc), (y3_10 ≤ (R * 5)) → (∀ k, k < y3_10 → sm (f k)) → (R * 5) + 1 - y3_10 < nn10 → D_X7_isLet_10 R f nn10 y3_10 = o_x → Bd κ A s (w) H locs → ∀ ls : Array Slot, lv_has ls 6 [(3, .int (nI y3_10)), (2, .int (nI (R * 5))), (1, .ref b), (0, .ref g)] → W p l e (Rm 0 0 0 0) s m args below meth c H locs (0) (0) Q (F0 m 10 ls []) := by
    intro nn10
    induction nn10 with
    | zero => intro y3_10 H locs hn3_10 hi_10 hμ; exact absurd hμ (Nat.not_lt_zero _)
    | succ nn10 ih10 =>
      intro y3_10 H locs hn3_10 hi_10 hμ10 hR hB ls hl
      replace hR := (D_X7_isLet_10_s).symm.trans hR
      refine lv_iload_n hx hb dX7_isLet_10 rfl (lv_at hl 0 rfl) ?_
      refine lv_iload_n hx hb dX7_isLet_11 rfl (lv_at hl 1 rfl) ?_
      refine lv_icmp_ge (tgt := 46) hx hb dX7_isLet_12 (by decide) (fun c7 => ?_) (fun c7 => ?_)
      · rw [nleP (a := R * 5) (b := y3_10) (by omega) (by omega)] at c7
        replace hR := ifp c7 hR
        refine lv_iconst (v := 1) hx hb dX7_isLet_46 (by decide) ?_
        rw [← hQ]
        exact end_i hX hB hA3 rfl rfl (by obtain rfl := hR; exact ⟨rfl, (Or.inr rfl), (fun _ k hk => hi_10 k (by omega)), rfl⟩) (Nat.le_of_ble_eq_true rfl) (Nat.le_of_ble_eq_true rfl) dX7_isLet_47
      · rw [nleP (a := R * 5) (b := y3_10) (by omega) (by omega)] at c7
        replace hR := ifn c7 hR
        refine lv_aload_n hx hb dX7_isLet_15 rfl (lv_at hl 2 rfl) ?_
        refine lv_iload_n hx hb dX7_isLet_16 rfl (lv_at hl 0 rfl) ?_
        refine laldN (k0 := k2) (k := y3_10) hX hB h2 (by omega) (by omega) dX7_isLet_17 ?_
        refine lv_lstore (lv' := [(4, .long (f y3_10)), (3, .int (nI y3_10)), (2, .int (nI (R * 5))), (1, .ref b), (0, .ref g)]) hx hb dX7_isLet_18 hl (by decide) rfl (fun ls hl => ?_)
        refine lv_lload hx hb dX7_isLet_20 (lv_at hl 0 rfl) ?_
        refine lv_ldc2 (own := RX7) (v := 20) hx hb hX.1.2.2.2.1 (hX.1.2.2.2.2 _ wm_6_87) dX7_isLet_22 ?_
        refine W.lcmp hx hb dX7_isLet_25 ?_
        refine lv_if_gt (tgt := 38) hx hb dX7_isLet_26 (by decide) (fun c8 => ?_) (fun c8 => ?_)
        · replace hR := ifp c8 hR
          refine lv_iconst (v := 0) hx hb dX7_isLet_38 (by decide) ?_
          rw [← hQ]
          exact end_i hX hB hA3 rfl rfl (by obtain rfl := hR; exact ⟨rfl, (Or.inl rfl), (fun h => absurd h (by decide)), rfl⟩) (Nat.le_of_ble_eq_true rfl) (Nat.le_of_ble_eq_true rfl) dX7_isLet_39
        · replace hR := ifn c8 hR
          refine lv_lload hx hb dX7_isLet_29 (lv_at hl 0 rfl) ?_
          refine lv_ldc2 (own := RX7) (v := (-20)) hx hb hX.1.2.2.2.1 (hX.1.2.2.2.2 _ wm_6_88) dX7_isLet_31 ?_
          refine W.lcmp hx hb dX7_isLet_34 ?_
          refine lv_if_ge (tgt := 40) hx hb dX7_isLet_35 (by decide) (fun c9 => ?_) (fun c9 => ?_)
          · replace hR := ifp c9 hR
            refine lv_iinc (v := nI (y3_10 + 1)) (lv' := [(3, .int (nI (y3_10 + 1))), (4, .long (f y3_10)), (2, .int (nI (R * 5))), (1, .ref b), (0, .ref g)]) hx hb dX7_isLet_40 hl (k := 1) rfl (nI_add y3_10 1) (by decide) rfl (fun ls hl => ?_)
            refine lv_goto (tgt := 10) hx hb dX7_isLet_43 (by decide) ?_
            exact ih10 (y3_10 + 1) _ _ (by omega) (lt_s hi_10 (sm_of (by assumption) (by assumption))) (by omega) hR hB _ (lv_sub hl [0, 2, 3, 4] rfl)
          · replace hR := ifn c9 hR
            refine lv_iconst (v := 0) hx hb dX7_isLet_38 (by decide) ?_
            rw [← hQ]
            exact end_i hX hB hA3 rfl rfl (by obtain rfl := hR; exact ⟨rfl, (Or.inl rfl), (fun h => absurd h (by decide)), rfl⟩) (Nat.le_of_ble_eq_true rfl) (Nat.le_of_ble_eq_true rfl) dX7_isLet_39
  exact lp10 _ 0 _ _ (by omega) (fun k hk => absurd hk (by omega)) (Nat.lt_succ_self _) hR hB _ hl
noncomputable def D_X7_others_13 (R : Nat) (f : Nat → Int64) (nn : Nat) : Nat → Nat → Int32 := @Nat.rec (fun _ => Nat → Nat → Int32) (fun _ _ => default) (fun _ lb13 (y4_13 : Nat) (y1_13 : Nat) => (if (R * 5) ≤ y4_13 then nI y1_13 else (if (lg_cmp (f y4_13) 0) = 0 then (lb13 (y4_13 + 1) (y1_13 + 0)) else (lb13 (y4_13 + 1) (y1_13 + 1))))) nn
theorem D_X7_others_13_s {R : Nat} {f : Nat → Int64} {nn : Nat} {y4_13 : Nat} {y1_13 : Nat} : D_X7_others_13 R f (nn + 1) y4_13 y1_13 = (if (R * 5) ≤ y4_13 then nI y1_13 else (if (lg_cmp (f y4_13) 0) = 0 then ((D_X7_others_13 R f nn) (y4_13 + 1) (y1_13 + 0)) else ((D_X7_others_13 R f nn) (y4_13 + 1) (y1_13 + 1)))) := rfl
noncomputable def D_X7_others (R : Nat) (C : Nat) (f : Nat → Int64) : Int32 := (D_X7_others_13 R f ((R * 5) + 1 - 0 + 1) 0 0)
theorem D_X7_others_s {R : Nat} {C : Nat} {f : Nat → Int64} : D_X7_others R C f = (D_X7_others_13 R f ((R * 5) + 1 - 0 + 1) 0 0) := rfl
set_option maxHeartbeats 4000000 in
set_option maxRecDepth 100000 in
theorem k_X7_others (κ : Kt) (l : Launch) (w : va_W) (k1 k2 g b R C : Nat) (f : Nat → Int64) (h1 : w[k1]? = some (gO g R C b)) (h2 : w[k2]? = some (lA κ b (R * 5) f)) (hs : shp R C) (o_x : Int32) (hR : D_X7_others R C f = o_x) : CM κ l yX7_others cX7_others 7 (some .int) 0 0 0 0 [.ref g] (w) (fun o w' => o = some (.int o_x) ∧ w' = w) := by
  have hs0 := hs
  obtain ⟨hs1, hs2, hs3, hs4⟩ := hs0
  refine CM_begin (plainFor_of_name pn_RX7) (Nat.le_of_ble_eq_true rfl) ?_
  intro p e s m args below meth c A Q hX hnm hA3 hQ hB ls hl
  have hx := hX.1.1
  have hb := hX.1.2.1
  have hl : lv_has ls 7 [(0, .ref g)] := hl
  replace hR := (D_X7_others_s).symm.trans hR
  refine lv_iconst (v := 0) hx hb dX7_others_0 (by decide) ?_
  refine lv_istore_n (lv' := [(1, .int 0), (0, .ref g)]) hx hb dX7_others_1 rfl hl (by decide) rfl (fun ls hl => ?_)
  refine lv_aload_n hx hb dX7_others_2 rfl (lv_at hl 1 rfl) ?_
  refine gf (k0 := k1) hX hB h1 rfl in7 2 (by decide) wm_5_153 rfl rfl dX7_others_3 ?_
  refine lv_astore_n (lv' := [(2, .ref b), (1, .int 0), (0, .ref g)]) hx hb dX7_others_6 rfl hl (by decide) rfl (fun ls hl => ?_)
  refine lv_aload_n hx hb dX7_others_7 rfl (lv_at hl 0 rfl) ?_
  refine alenL (k0 := k2) (v := nI (R * 5)) hX hB h2 rfl dX7_others_8 ?_
  refine lv_istore_n (lv' := [(3, .int (nI (R * 5))), (2, .ref b), (1, .int 0), (0, .ref g)]) hx hb dX7_others_9 rfl hl (by decide) rfl (fun ls hl => ?_)
  refine lv_iconst (v := 0) hx hb dX7_others_10 (by decide) ?_
  refine lv_istore (lv' := [(4, .int 0), (3, .int (nI (R * 5))), (2, .ref b), (1, .int 0), (0, .ref g)]) hx hb dX7_others_11 hl (by decide) rfl (fun ls hl => ?_)
  have lp13 : ∀ (nn13 : Nat) (y4_13 : Nat) (y1_13 : Nat) (H : Heap) (locs : List Loc), (y4_13 ≤ (R * 5)) → (R * 5) + 1 - y4_13 < nn13 → D_X7_others_13 R f nn13 y4_13 y1_13 = o_x → Bd κ A s (w) H locs → ∀ ls : Array Slot, lv_has ls 7 [(4, .int (nI y4_13)), (3, .int (nI (R * 5))), (2, .ref b), (1, .int (nI y1_13)), (0, .ref g)] → W p l e (Rm 0 0 0 0) s m args below meth c H locs (0) (0) Q (F0 m 13 ls []) := by
    intro nn13
    induction nn13 with
    | zero => intro y4_13 y1_13 H locs hn4_13 hμ; exact absurd hμ (Nat.not_lt_zero _)
    | succ nn13 ih13 =>
      intro y4_13 y1_13 H locs hn4_13 hμ13 hR hB ls hl
      replace hR := (D_X7_others_13_s).symm.trans hR
      refine lv_iload hx hb dX7_others_13 (lv_at hl 0 rfl) ?_
      refine lv_iload_n hx hb dX7_others_15 rfl (lv_at hl 1 rfl) ?_
      refine lv_icmp_ge (tgt := 46) hx hb dX7_others_16 (by decide) (fun c5 => ?_) (fun c5 => ?_)
      · rw [nleP (a := R * 5) (b := y4_13) (by omega) (by omega)] at c5
        replace hR := ifp c5 hR
        refine lv_iload_n hx hb dX7_others_46 rfl (lv_at hl 3 rfl) ?_
        rw [← hQ]
        exact end_i hX hB hA3 rfl rfl (by obtain rfl := hR; exact ⟨rfl, rfl⟩) (Nat.le_of_ble_eq_true rfl) (Nat.le_of_ble_eq_true rfl) dX7_others_47
      · rw [nleP (a := R * 5) (b := y4_13) (by omega) (by omega)] at c5
        replace hR := ifn c5 hR
        refine lv_aload_n hx hb dX7_others_19 rfl (lv_at hl 2 rfl) ?_
        refine lv_iload hx hb dX7_others_20 (lv_at hl 0 rfl) ?_
        refine laldN (k0 := k2) (k := y4_13) hX hB h2 (by omega) (by omega) dX7_others_22 ?_
        refine lv_lstore (lv' := [(5, .long (f y4_13)), (4, .int (nI y4_13)), (3, .int (nI (R * 5))), (2, .ref b), (1, .int (nI y1_13)), (0, .ref g)]) hx hb dX7_others_23 hl (by decide) rfl (fun ls hl => ?_)
        refine lv_iload_n hx hb dX7_others_25 rfl (lv_at hl 4 rfl) ?_
        refine lv_lload hx hb dX7_others_26 (lv_at hl 0 rfl) ?_
        refine lv_lconst (v := 0) hx hb dX7_others_28 (by decide) ?_
        refine W.lcmp hx hb dX7_others_29 ?_
        refine lv_if_ne (tgt := 37) hx hb dX7_others_30 (by decide) (fun c6 => ?_) (fun c6 => ?_)
        · replace hR := ifn c6 hR
          refine lv_iconst (v := 1) hx hb dX7_others_37 (by decide) ?_
          refine lv_iadd hx hb dX7_others_38 ?_
          refine eqi (y := nI (y1_13 + 1)) (nI_add y1_13 1) ?_
          refine lv_istore_n (lv' := [(1, .int (nI (y1_13 + 1))), (5, .long (f y4_13)), (4, .int (nI y4_13)), (3, .int (nI (R * 5))), (2, .ref b), (0, .ref g)]) hx hb dX7_others_39 rfl hl (by decide) rfl (fun ls hl => ?_)
          refine lv_iinc (v := nI (y4_13 + 1)) (lv' := [(4, .int (nI (y4_13 + 1))), (1, .int (nI (y1_13 + 1))), (5, .long (f y4_13)), (3, .int (nI (R * 5))), (2, .ref b), (0, .ref g)]) hx hb dX7_others_40 hl (k := 2) rfl (nI_add y4_13 1) (by decide) rfl (fun ls hl => ?_)
          refine lv_goto (tgt := 13) hx hb dX7_others_43 (by decide) ?_
          exact ih13 (y4_13 + 1) (y1_13 + 1) _ _ (by omega) (by omega) hR hB _ (lv_sub hl [0, 3, 4, 1, 5] rfl)
        · replace hR := ifp c6 hR
          refine lv_iconst (v := 0) hx hb dX7_others_33 (by decide) ?_
          refine lv_goto (tgt := 38) hx hb dX7_others_34 (by decide) ?_
          refine lv_iadd hx hb dX7_others_38 ?_
          refine eqi (y := nI (y1_13 + 0)) (nI_add y1_13 0) ?_
          refine lv_istore_n (lv' := [(1, .int (nI (y1_13 + 0))), (5, .long (f y4_13)), (4, .int (nI y4_13)), (3, .int (nI (R * 5))), (2, .ref b), (0, .ref g)]) hx hb dX7_others_39 rfl hl (by decide) rfl (fun ls hl => ?_)
          refine lv_iinc (v := nI (y4_13 + 1)) (lv' := [(4, .int (nI (y4_13 + 1))), (1, .int (nI (y1_13 + 0))), (5, .long (f y4_13)), (3, .int (nI (R * 5))), (2, .ref b), (0, .ref g)]) hx hb dX7_others_40 hl (k := 2) rfl (nI_add y4_13 1) (by decide) rfl (fun ls hl => ?_)
          refine lv_goto (tgt := 13) hx hb dX7_others_43 (by decide) ?_
          exact ih13 (y4_13 + 1) (y1_13 + 0) _ _ (by omega) (by omega) hR hB _ (lv_sub hl [0, 3, 4, 1, 5] rfl)
  exact lp13 _ 0 0 _ _ (by omega) (Nat.lt_succ_self _) hR hB _ hl
noncomputable def D_X7_isSame_26 (R : Nat) (f : Nat → Int64) (f_o : Nat → Int64) (nn : Nat) : Nat → Int32 := @Nat.rec (fun _ => Nat → Int32) (fun _ => default) (fun _ lb26 (y2_26 : Nat) => (if (R * 5) ≤ y2_26 then 1 else (if (lg_cmp (f y2_26) (f_o y2_26)) = 0 then (lb26 (y2_26 + 1)) else 0))) nn
theorem D_X7_isSame_26_s {R : Nat} {f : Nat → Int64} {f_o : Nat → Int64} {nn : Nat} {y2_26 : Nat} : D_X7_isSame_26 R f f_o (nn + 1) y2_26 = (if (R * 5) ≤ y2_26 then 1 else (if (lg_cmp (f y2_26) (f_o y2_26)) = 0 then ((D_X7_isSame_26 R f f_o nn) (y2_26 + 1)) else 0)) := rfl
noncomputable def D_X7_isSame (R : Nat) (C : Nat) (f : Nat → Int64) (R_o : Nat) (C_o : Nat) (f_o : Nat → Int64) : Int32 := (if R = R_o then (if C = C_o then (D_X7_isSame_26 R f f_o ((R * 5) + 1 - 0 + 1) 0) else 0) else 0)
theorem D_X7_isSame_s {R : Nat} {C : Nat} {f : Nat → Int64} {R_o : Nat} {C_o : Nat} {f_o : Nat → Int64} : D_X7_isSame R C f R_o C_o f_o = (if R = R_o then (if C = C_o then (D_X7_isSame_26 R f f_o ((R * 5) + 1 - 0 + 1) 0) else 0) else 0) := rfl
set_option maxHeartbeats 4000000 in
set_option maxRecDepth 100000 in
theorem k_X7_isSame (κ : Kt) (l : Launch) (w : va_W) (k1 k2 g b R C : Nat) (f : Nat → Int64) (k3 k4 g_o b_o R_o C_o : Nat) (f_o : Nat → Int64) (h1 : w[k1]? = some (gO g R C b)) (h2 : w[k2]? = some (lA κ b (R * 5) f)) (hs : shp R C) (h3 : w[k3]? = some (gO g_o R_o C_o b_o)) (h4 : w[k4]? = some (lA κ b_o (R_o * 5) f_o)) (hso : shp R_o C_o) (o_x : Int32) (hR : D_X7_isSame R C f R_o C_o f_o = o_x) : CM κ l yX7_isSame cX7_isSame 3 (some .boolean) 0 0 0 0 [.ref g, .ref g_o] (w) (fun o w' => o = some (.int o_x) ∧ (o_x = 0 ∨ o_x = 1) ∧ w' = w) := by
  have hs0 := hs
  obtain ⟨hs1, hs2, hs3, hs4⟩ := hs0
  have hs9 := hso
  obtain ⟨ht1, ht2, ht3, ht4⟩ := hs9
  refine CM_begin (plainFor_of_name pn_RX7) (Nat.le_of_ble_eq_true rfl) ?_
  intro p e s m args below meth c A Q hX hnm hA3 hQ hB ls hl
  have hx := hX.1.1
  have hb := hX.1.2.1
  have hl : lv_has ls 3 [(0, .ref g), (1, .ref g_o)] := hl
  replace hR := (D_X7_isSame_s).symm.trans hR
  refine lv_aload_n hx hb dX7_isSame_0 rfl (lv_at hl 0 rfl) ?_
  refine gf (k0 := k1) hX hB h1 rfl in7 0 (by decide) wm_5_145 rfl rfl dX7_isSame_1 ?_
  refine lv_aload_n hx hb dX7_isSame_4 rfl (lv_at hl 1 rfl) ?_
  refine gf (k0 := k3) hX hB h3 rfl in7 0 (by decide) wm_5_145 rfl rfl dX7_isSame_5 ?_
  refine lv_icmp_ne (tgt := 22) hx hb dX7_isSame_8 (by decide) (fun c1 => ?_) (fun c1 => ?_)
  · rw [neqP (a := R) (b := R_o) (by omega) (by omega)] at c1
    replace hR := ifn c1 hR
    refine lv_iconst (v := 0) hx hb dX7_isSame_22 (by decide) ?_
    rw [← hQ]
    exact end_i hX hB hA3 rfl rfl (by obtain rfl := hR; exact ⟨rfl, (Or.inl rfl), rfl⟩) (Nat.le_of_ble_eq_true rfl) (Nat.le_of_ble_eq_true rfl) dX7_isSame_23
  · rw [neqP (a := R) (b := R_o) (by omega) (by omega)] at c1
    replace hR := ifp c1 hR
    refine lv_aload_n hx hb dX7_isSame_11 rfl (lv_at hl 0 rfl) ?_
    refine gf (k0 := k1) hX hB h1 rfl in7 1 (by decide) wm_5_149 rfl rfl dX7_isSame_12 ?_
    refine lv_aload_n hx hb dX7_isSame_15 rfl (lv_at hl 1 rfl) ?_
    refine gf (k0 := k3) hX hB h3 rfl in7 1 (by decide) wm_5_149 rfl rfl dX7_isSame_16 ?_
    refine lv_icmp_eq (tgt := 24) hx hb dX7_isSame_19 (by decide) (fun c2 => ?_) (fun c2 => ?_)
    · rw [neqP (a := C) (b := C_o) (by omega) (by omega)] at c2
      replace hR := ifp c2 hR
      refine lv_iconst (v := 0) hx hb dX7_isSame_24 (by decide) ?_
      refine lv_istore_n (lv' := [(2, .int 0), (0, .ref g), (1, .ref g_o)]) hx hb dX7_isSame_25 rfl hl (by decide) rfl (fun ls hl => ?_)
      have lp26 : ∀ (nn26 : Nat) (y2_26 : Nat) (H : Heap) (locs : List Loc), (y2_26 ≤ (R * 5)) → (R * 5) + 1 - y2_26 < nn26 → D_X7_isSame_26 R f f_o nn26 y2_26 = o_x → Bd κ A s (w) H locs → ∀ ls : Array Slot, lv_has ls 3 [(2, .int (nI y2_26)), (0, .ref g), (1, .ref g_o)] → W p l e (Rm 0 0 0 0) s m args below meth c H locs (0) (0) Q (F0 m 26 ls []) := by
        intro nn26
        induction nn26 with
        | zero => intro y2_26 H locs hn2_26 hμ; exact absurd hμ (Nat.not_lt_zero _)
        | succ nn26 ih26 =>
          intro y2_26 H locs hn2_26 hμ26 hR hB ls hl
          replace hR := (D_X7_isSame_26_s).symm.trans hR
          refine lv_iload_n hx hb dX7_isSame_26 rfl (lv_at hl 0 rfl) ?_
          refine lv_aload_n hx hb dX7_isSame_27 rfl (lv_at hl 1 rfl) ?_
          refine gf (k0 := k1) hX hB h1 rfl in7 2 (by decide) wm_5_153 rfl rfl dX7_isSame_28 ?_
          refine alenL (k0 := k2) (v := nI (R * 5)) hX hB h2 rfl dX7_isSame_31 ?_
          refine lv_icmp_ge (tgt := 59) hx hb dX7_isSame_32 (by decide) (fun c7 => ?_) (fun c7 => ?_)
          · rw [nleP (a := R * 5) (b := y2_26) (by omega) (by omega)] at c7
            replace hR := ifp c7 hR
            refine lv_iconst (v := 1) hx hb dX7_isSame_59 (by decide) ?_
            rw [← hQ]
            exact end_i hX hB hA3 rfl rfl (by obtain rfl := hR; exact ⟨rfl, (Or.inr rfl), rfl⟩) (Nat.le_of_ble_eq_true rfl) (Nat.le_of_ble_eq_true rfl) dX7_isSame_60
          · rw [nleP (a := R * 5) (b := y2_26) (by omega) (by omega)] at c7
            replace hR := ifn c7 hR
            refine lv_aload_n hx hb dX7_isSame_35 rfl (lv_at hl 1 rfl) ?_
            refine gf (k0 := k1) hX hB h1 rfl in7 2 (by decide) wm_5_153 rfl rfl dX7_isSame_36 ?_
            refine lv_iload_n hx hb dX7_isSame_39 rfl (lv_at hl 0 rfl) ?_
            refine laldN (k0 := k2) (k := y2_26) hX hB h2 (by omega) (by omega) dX7_isSame_40 ?_
            refine lv_aload_n hx hb dX7_isSame_41 rfl (lv_at hl 2 rfl) ?_
            refine gf (k0 := k3) hX hB h3 rfl in7 2 (by decide) wm_5_153 rfl rfl dX7_isSame_42 ?_
            refine lv_iload_n hx hb dX7_isSame_45 rfl (lv_at hl 0 rfl) ?_
            refine laldN (k0 := k4) (k := y2_26) hX hB h4 (by omega) (by omega) dX7_isSame_46 ?_
            refine W.lcmp hx hb dX7_isSame_47 ?_
            refine lv_if_eq (tgt := 53) hx hb dX7_isSame_48 (by decide) (fun c8 => ?_) (fun c8 => ?_)
            · replace hR := ifp c8 hR
              refine lv_iinc (v := nI (y2_26 + 1)) (lv' := [(2, .int (nI (y2_26 + 1))), (0, .ref g), (1, .ref g_o)]) hx hb dX7_isSame_53 hl (k := 0) rfl (nI_add y2_26 1) (by decide) rfl (fun ls hl => ?_)
              refine lv_goto (tgt := 26) hx hb dX7_isSame_56 (by decide) ?_
              exact ih26 (y2_26 + 1) _ _ (by omega) (by omega) hR hB _ hl
            · replace hR := ifn c8 hR
              refine lv_iconst (v := 0) hx hb dX7_isSame_51 (by decide) ?_
              rw [← hQ]
              exact end_i hX hB hA3 rfl rfl (by obtain rfl := hR; exact ⟨rfl, (Or.inl rfl), rfl⟩) (Nat.le_of_ble_eq_true rfl) (Nat.le_of_ble_eq_true rfl) dX7_isSame_52
      exact lp26 _ 0 _ _ (by omega) (Nat.lt_succ_self _) hR hB _ hl
    · rw [neqP (a := C) (b := C_o) (by omega) (by omega)] at c2
      replace hR := ifn c2 hR
      refine lv_iconst (v := 0) hx hb dX7_isSame_22 (by decide) ?_
      rw [← hQ]
      exact end_i hX hB hA3 rfl rfl (by obtain rfl := hR; exact ⟨rfl, (Or.inl rfl), rfl⟩) (Nat.le_of_ble_eq_true rfl) (Nat.le_of_ble_eq_true rfl) dX7_isSame_23
noncomputable def D_X7_unlike_4 (R : Nat) (f : Nat → Int64) (f_o : Nat → Int64) (nn : Nat) : Nat → Nat → Int32 := @Nat.rec (fun _ => Nat → Nat → Int32) (fun _ _ => default) (fun _ lb4 (y3_4 : Nat) (y2_4 : Nat) => (if (R * 5) ≤ y3_4 then nI y2_4 else (if (lg_cmp (f y3_4) (f_o y3_4)) = 0 then (lb4 (y3_4 + 1) (y2_4 + 0)) else (lb4 (y3_4 + 1) (y2_4 + 1))))) nn
theorem D_X7_unlike_4_s {R : Nat} {f : Nat → Int64} {f_o : Nat → Int64} {nn : Nat} {y3_4 : Nat} {y2_4 : Nat} : D_X7_unlike_4 R f f_o (nn + 1) y3_4 y2_4 = (if (R * 5) ≤ y3_4 then nI y2_4 else (if (lg_cmp (f y3_4) (f_o y3_4)) = 0 then ((D_X7_unlike_4 R f f_o nn) (y3_4 + 1) (y2_4 + 0)) else ((D_X7_unlike_4 R f f_o nn) (y3_4 + 1) (y2_4 + 1)))) := rfl
noncomputable def D_X7_unlike (R : Nat) (C : Nat) (f : Nat → Int64) (R_o : Nat) (C_o : Nat) (f_o : Nat → Int64) : Int32 := (D_X7_unlike_4 R f f_o ((R * 5) + 1 - 0 + 1) 0 0)
theorem D_X7_unlike_s {R : Nat} {C : Nat} {f : Nat → Int64} {R_o : Nat} {C_o : Nat} {f_o : Nat → Int64} : D_X7_unlike R C f R_o C_o f_o = (D_X7_unlike_4 R f f_o ((R * 5) + 1 - 0 + 1) 0 0) := rfl
set_option maxHeartbeats 4000000 in
set_option maxRecDepth 100000 in
theorem k_X7_unlike (κ : Kt) (l : Launch) (w : va_W) (k1 k2 g b R C : Nat) (f : Nat → Int64) (k3 k4 g_o b_o R_o C_o : Nat) (f_o : Nat → Int64) (h1 : w[k1]? = some (gO g R C b)) (h2 : w[k2]? = some (lA κ b (R * 5) f)) (hs : shp R C) (h3 : w[k3]? = some (gO g_o R_o C_o b_o)) (h4 : w[k4]? = some (lA κ b_o (R_o * 5) f_o)) (hso : shp R_o C_o) (hre : R * 5 ≤ R_o * 5) (o_x : Int32) (hR : D_X7_unlike R C f R_o C_o f_o = o_x) : CM κ l yX7_unlike cX7_unlike 4 (some .int) 0 0 0 0 [.ref g, .ref g_o] (w) (fun o w' => o = some (.int o_x) ∧ w' = w) := by
  have hs0 := hs
  obtain ⟨hs1, hs2, hs3, hs4⟩ := hs0
  have hs9 := hso
  obtain ⟨ht1, ht2, ht3, ht4⟩ := hs9
  refine CM_begin (plainFor_of_name pn_RX7) (Nat.le_of_ble_eq_true rfl) ?_
  intro p e s m args below meth c A Q hX hnm hA3 hQ hB ls hl
  have hx := hX.1.1
  have hb := hX.1.2.1
  have hl : lv_has ls 4 [(0, .ref g), (1, .ref g_o)] := hl
  replace hR := (D_X7_unlike_s).symm.trans hR
  refine lv_iconst (v := 0) hx hb dX7_unlike_0 (by decide) ?_
  refine lv_istore_n (lv' := [(2, .int 0), (0, .ref g), (1, .ref g_o)]) hx hb dX7_unlike_1 rfl hl (by decide) rfl (fun ls hl => ?_)
  refine lv_iconst (v := 0) hx hb dX7_unlike_2 (by decide) ?_
  refine lv_istore_n (lv' := [(3, .int 0), (2, .int 0), (0, .ref g), (1, .ref g_o)]) hx hb dX7_unlike_3 rfl hl (by decide) rfl (fun ls hl => ?_)
  have lp4 : ∀ (nn4 : Nat) (y3_4 : Nat) (y2_4 : Nat) (H : Heap) (locs : List Loc), (y3_4 ≤ (R * 5)) → (R * 5) + 1 - y3_4 < nn4 → D_X7_unlike_4 R f f_o nn4 y3_4 y2_4 = o_x → Bd κ A s (w) H locs → ∀ ls : Array Slot, lv_has ls 4 [(3, .int (nI y3_4)), (2, .int (nI y2_4)), (0, .ref g), (1, .ref g_o)] → W p l e (Rm 0 0 0 0) s m args below meth c H locs (0) (0) Q (F0 m 4 ls []) := by
    intro nn4
    induction nn4 with
    | zero => intro y3_4 y2_4 H locs hn3_4 hμ; exact absurd hμ (Nat.not_lt_zero _)
    | succ nn4 ih4 =>
      intro y3_4 y2_4 H locs hn3_4 hμ4 hR hB ls hl
      replace hR := (D_X7_unlike_4_s).symm.trans hR
      refine lv_iload_n hx hb dX7_unlike_4 rfl (lv_at hl 0 rfl) ?_
      refine lv_aload_n hx hb dX7_unlike_5 rfl (lv_at hl 2 rfl) ?_
      refine gf (k0 := k1) hX hB h1 rfl in7 2 (by decide) wm_5_153 rfl rfl dX7_unlike_6 ?_
      refine alenL (k0 := k2) (v := nI (R * 5)) hX hB h2 rfl dX7_unlike_9 ?_
      refine lv_icmp_ge (tgt := 43) hx hb dX7_unlike_10 (by decide) (fun c5 => ?_) (fun c5 => ?_)
      · rw [nleP (a := R * 5) (b := y3_4) (by omega) (by omega)] at c5
        replace hR := ifp c5 hR
        refine lv_iload_n hx hb dX7_unlike_43 rfl (lv_at hl 1 rfl) ?_
        rw [← hQ]
        exact end_i hX hB hA3 rfl rfl (by obtain rfl := hR; exact ⟨rfl, rfl⟩) (Nat.le_of_ble_eq_true rfl) (Nat.le_of_ble_eq_true rfl) dX7_unlike_44
      · rw [nleP (a := R * 5) (b := y3_4) (by omega) (by omega)] at c5
        replace hR := ifn c5 hR
        refine lv_iload_n hx hb dX7_unlike_13 rfl (lv_at hl 1 rfl) ?_
        refine lv_aload_n hx hb dX7_unlike_14 rfl (lv_at hl 2 rfl) ?_
        refine gf (k0 := k1) hX hB h1 rfl in7 2 (by decide) wm_5_153 rfl rfl dX7_unlike_15 ?_
        refine lv_iload_n hx hb dX7_unlike_18 rfl (lv_at hl 0 rfl) ?_
        refine laldN (k0 := k2) (k := y3_4) hX hB h2 (by omega) (by omega) dX7_unlike_19 ?_
        refine lv_aload_n hx hb dX7_unlike_20 rfl (lv_at hl 3 rfl) ?_
        refine gf (k0 := k3) hX hB h3 rfl in7 2 (by decide) wm_5_153 rfl rfl dX7_unlike_21 ?_
        refine lv_iload_n hx hb dX7_unlike_24 rfl (lv_at hl 0 rfl) ?_
        refine laldN (k0 := k4) (k := y3_4) hX hB h4 (by omega) (by omega) dX7_unlike_25 ?_
        refine W.lcmp hx hb dX7_unlike_26 ?_
        refine lv_if_ne (tgt := 34) hx hb dX7_unlike_27 (by decide) (fun c6 => ?_) (fun c6 => ?_)
        · replace hR := ifn c6 hR
          refine lv_iconst (v := 1) hx hb dX7_unlike_34 (by decide) ?_
          refine lv_iadd hx hb dX7_unlike_35 ?_
          refine eqi (y := nI (y2_4 + 1)) (nI_add y2_4 1) ?_
          refine lv_istore_n (lv' := [(2, .int (nI (y2_4 + 1))), (3, .int (nI y3_4)), (0, .ref g), (1, .ref g_o)]) hx hb dX7_unlike_36 rfl hl (by decide) rfl (fun ls hl => ?_)
          refine lv_iinc (v := nI (y3_4 + 1)) (lv' := [(3, .int (nI (y3_4 + 1))), (2, .int (nI (y2_4 + 1))), (0, .ref g), (1, .ref g_o)]) hx hb dX7_unlike_37 hl (k := 1) rfl (nI_add y3_4 1) (by decide) rfl (fun ls hl => ?_)
          refine lv_goto (tgt := 4) hx hb dX7_unlike_40 (by decide) ?_
          exact ih4 (y3_4 + 1) (y2_4 + 1) _ _ (by omega) (by omega) hR hB _ hl
        · replace hR := ifp c6 hR
          refine lv_iconst (v := 0) hx hb dX7_unlike_30 (by decide) ?_
          refine lv_goto (tgt := 35) hx hb dX7_unlike_31 (by decide) ?_
          refine lv_iadd hx hb dX7_unlike_35 ?_
          refine eqi (y := nI (y2_4 + 0)) (nI_add y2_4 0) ?_
          refine lv_istore_n (lv' := [(2, .int (nI (y2_4 + 0))), (3, .int (nI y3_4)), (0, .ref g), (1, .ref g_o)]) hx hb dX7_unlike_36 rfl hl (by decide) rfl (fun ls hl => ?_)
          refine lv_iinc (v := nI (y3_4 + 1)) (lv' := [(3, .int (nI (y3_4 + 1))), (2, .int (nI (y2_4 + 0))), (0, .ref g), (1, .ref g_o)]) hx hb dX7_unlike_37 hl (k := 1) rfl (nI_add y3_4 1) (by decide) rfl (fun ls hl => ?_)
          refine lv_goto (tgt := 4) hx hb dX7_unlike_40 (by decide) ?_
          exact ih4 (y3_4 + 1) (y2_4 + 0) _ _ (by omega) (by omega) hR hB _ hl
  exact lp4 _ 0 0 _ _ (by omega) (Nat.lt_succ_self _) hR hB _ hl
noncomputable def D_X7_product_44 (C : Nat) (f : Nat → Int64) (f_o : Nat → Int64) (y3_18 : Nat) (lb29 : Nat → (Nat → Int64) → (Nat → Int64)) (y4_29 : Nat) (fb2_29 : Nat → Int64) (nn : Nat) : Nat → Int64 → (Nat → Int64) := @Nat.rec (fun _ => Nat → Int64 → (Nat → Int64)) (fun _ _ => default) (fun _ lb44 (y7_44 : Nat) (y5_44 : Int64) => (if C ≤ y7_44 then (lb29 (y4_29 + 1) (vp_updL fb2_29 (y3_18 * 5 + y4_29) y5_44)) else (lb44 (y7_44 + 1) (y5_44 + ((f (y3_18 * 5 + y7_44)) * (f_o (y7_44 * 5 + y4_29))))))) nn
theorem D_X7_product_44_s {C : Nat} {f : Nat → Int64} {f_o : Nat → Int64} {y3_18 : Nat} {lb29 : Nat → (Nat → Int64) → (Nat → Int64)} {y4_29 : Nat} {fb2_29 : Nat → Int64} {nn : Nat} {y7_44 : Nat} {y5_44 : Int64} : D_X7_product_44 C f f_o y3_18 lb29 y4_29 fb2_29 (nn + 1) y7_44 y5_44 = (if C ≤ y7_44 then (lb29 (y4_29 + 1) (vp_updL fb2_29 (y3_18 * 5 + y4_29) y5_44)) else ((D_X7_product_44 C f f_o y3_18 lb29 y4_29 fb2_29 nn) (y7_44 + 1) (y5_44 + ((f (y3_18 * 5 + y7_44)) * (f_o (y7_44 * 5 + y4_29)))))) := rfl
noncomputable def D_X7_product_29 (C : Nat) (f : Nat → Int64) (C_o : Nat) (f_o : Nat → Int64) (lb18 : Nat → (Nat → Int64) → (Nat → Int64)) (y3_18 : Nat) (nn : Nat) : Nat → (Nat → Int64) → (Nat → Int64) := @Nat.rec (fun _ => Nat → (Nat → Int64) → (Nat → Int64)) (fun _ _ => default) (fun _ lb29 (y4_29 : Nat) (fb2_29 : Nat → Int64) => (if C_o ≤ y4_29 then (lb18 (y3_18 + 1) fb2_29) else (D_X7_product_44 C f f_o y3_18 lb29 y4_29 fb2_29 (C + 1 - 0 + 1) 0 0))) nn
theorem D_X7_product_29_s {C : Nat} {f : Nat → Int64} {C_o : Nat} {f_o : Nat → Int64} {lb18 : Nat → (Nat → Int64) → (Nat → Int64)} {y3_18 : Nat} {nn : Nat} {y4_29 : Nat} {fb2_29 : Nat → Int64} : D_X7_product_29 C f C_o f_o lb18 y3_18 (nn + 1) y4_29 fb2_29 = (if C_o ≤ y4_29 then (lb18 (y3_18 + 1) fb2_29) else (D_X7_product_44 C f f_o y3_18 (D_X7_product_29 C f C_o f_o lb18 y3_18 nn) y4_29 fb2_29 (C + 1 - 0 + 1) 0 0)) := rfl
noncomputable def D_X7_product_18 (R : Nat) (C : Nat) (f : Nat → Int64) (C_o : Nat) (f_o : Nat → Int64) (nn : Nat) : Nat → (Nat → Int64) → (Nat → Int64) := @Nat.rec (fun _ => Nat → (Nat → Int64) → (Nat → Int64)) (fun _ _ => default) (fun _ lb18 (y3_18 : Nat) (fb2_18 : Nat → Int64) => (if R ≤ y3_18 then fb2_18 else (D_X7_product_29 C f C_o f_o lb18 y3_18 (C_o + 1 - 0 + 1) 0 fb2_18))) nn
theorem D_X7_product_18_s {R : Nat} {C : Nat} {f : Nat → Int64} {C_o : Nat} {f_o : Nat → Int64} {nn : Nat} {y3_18 : Nat} {fb2_18 : Nat → Int64} : D_X7_product_18 R C f C_o f_o (nn + 1) y3_18 fb2_18 = (if R ≤ y3_18 then fb2_18 else (D_X7_product_29 C f C_o f_o (D_X7_product_18 R C f C_o f_o nn) y3_18 (C_o + 1 - 0 + 1) 0 fb2_18)) := rfl
noncomputable def D_X7_product (R : Nat) (C : Nat) (f : Nat → Int64) (R_o : Nat) (C_o : Nat) (f_o : Nat → Int64) : (Nat → Int64) := (D_X7_product_18 R C f C_o f_o (R + 1 - 0 + 1) 0 (fun _ => 0))
theorem D_X7_product_s {R : Nat} {C : Nat} {f : Nat → Int64} {R_o : Nat} {C_o : Nat} {f_o : Nat → Int64} : D_X7_product R C f R_o C_o f_o = (D_X7_product_18 R C f C_o f_o (R + 1 - 0 + 1) 0 (fun _ => 0)) := rfl
set_option maxHeartbeats 4000000 in
set_option maxRecDepth 100000 in
theorem k_X7_product (κ : Kt) (l : Launch) (w : va_W) (k1 k2 g b R C : Nat) (f : Nat → Int64) (k3 k4 g_o b_o R_o C_o : Nat) (f_o : Nat → Int64) (h1 : w[k1]? = some (gO g R C b)) (h2 : w[k2]? = some (lA κ b (R * 5) f)) (hs : shp R C) (h3 : w[k3]? = some (gO g_o R_o C_o b_o)) (h4 : w[k4]? = some (lA κ b_o (R_o * 5) f_o)) (hso : shp R_o C_o) (hCR : C = R_o) (o_F : Nat → Int64) (hR : D_X7_product R C f R_o C_o f_o = o_F) : CM κ l yX7_product cX7_product 8 (some (.object "GridmenderModel$Grid")) 2 42 2 23 [.ref g, .ref g_o] (w) (fun o w' => ∃ (q1 : Nat) (q2 : Nat), o = some (.ref q1) ∧ w' = lA κ q2 (R * 5) o_F :: gO q1 R C_o q2 :: w) := by
  have hs0 := hs
  obtain ⟨hs1, hs2, hs3, hs4⟩ := hs0
  have hs9 := hso
  obtain ⟨ht1, ht2, ht3, ht4⟩ := hs9
  refine CM_begin (plainFor_of_name pn_RX7) (Nat.le_of_ble_eq_true rfl) ?_
  intro p e s m args below meth c A Q hX hnm hA3 hQ hB ls hl
  have hx := hX.1.1
  have hb := hX.1.2.1
  have hl : lv_has ls 8 [(0, .ref g), (1, .ref g_o)] := hl
  replace hR := (D_X7_product_s).symm.trans hR
  refine newO (fs := [.int 0, .int 0, .null]) hX hB (ci := 8) rfl in7 tyX7_ok wm_5_219 wm_5_140 wm_1_7 df8 (Nat.le_of_ble_eq_true rfl) (Nat.le_of_ble_eq_true rfl) dX7_product_0 (fun q1 H hB => ?_)
  refine lv_dup hx hb dX7_product_3 rfl ?_
  refine lv_aload_n hx hb dX7_product_4 rfl (lv_at hl 0 rfl) ?_
  refine gf (k0 := k1 + 1) hX hB h1 rfl in7 0 (by decide) wm_5_145 rfl rfl dX7_product_5 ?_
  refine lv_aload_n hx hb dX7_product_8 rfl (lv_at hl 1 rfl) ?_
  refine gf (k0 := k3 + 1) hX hB h3 rfl in7 1 (by decide) wm_5_149 rfl rfl dX7_product_9 ?_
  refine call_I (n := 2) (As := [.int (nI R), .int (nI C_o)]) (rest := [.ref q1]) hX hB (k_X7_init κ l (w) q1 (nI R) R (nI C_o) C_o rfl rfl (by omega)) yk_X7_init rfl wm_5_220 wm_5_142 wm_1_7 wm_5_143 ⟨Nat.le_of_ble_eq_true rfl, Nat.le_of_ble_eq_true rfl⟩ ⟨Nat.le_of_ble_eq_true rfl, Nat.le_of_ble_eq_true rfl⟩ rfl hl.1 rfl (Nat.le_of_ble_eq_true rfl) dX7_product_12 (fun o w' H locs hp hB => ?_)
  obtain ⟨b2, rfl, hw9⟩ := hp
  replace hB : Bd κ A s (lA κ b2 (R * 5) (fun _ => 0) :: gO q1 R C_o b2 :: w) H locs := by rw [hw9] at hB; exact hB
  refine W.eq (g2 := F0 m 15 ls [.ref q1]) rfl ?_
  refine lv_astore_n (lv' := [(2, .ref q1), (0, .ref g), (1, .ref g_o)]) hx hb dX7_product_15 rfl hl (by decide) rfl (fun ls hl => ?_)
  refine lv_iconst (v := 0) hx hb dX7_product_16 (by decide) ?_
  refine lv_istore_n (lv' := [(3, .int 0), (2, .ref q1), (0, .ref g), (1, .ref g_o)]) hx hb dX7_product_17 rfl hl (by decide) rfl (fun ls hl => ?_)
  have lp18 : ∀ (nn18 : Nat) (y3_18 : Nat) (fb2_18 : Nat → Int64) (H : Heap) (locs : List Loc), (y3_18 ≤ R) → R + 1 - y3_18 < nn18 → D_X7_product_18 R C f C_o f_o nn18 y3_18 fb2_18 = o_F → Bd κ A s (lA κ b2 (R * 5) fb2_18 :: gO q1 R C_o b2 :: w) H locs → ∀ ls : Array Slot, lv_has ls 8 [(3, .int (nI y3_18)), (2, .ref q1), (0, .ref g), (1, .ref g_o)] → W p l e (Rm 2 42 2 23) s m args below meth c H locs (2) (23) Q (F0 m 18 ls []) := by
    intro nn18
    induction nn18 with
    | zero => intro y3_18 fb2_18 H locs hn3_18 hμ; exact absurd hμ (Nat.not_lt_zero _)
    | succ nn18 ih18 =>
      intro y3_18 fb2_18 H locs hn3_18 hμ18 hR hB ls hl
      replace hR := (D_X7_product_18_s).symm.trans hR
      refine lv_iload_n hx hb dX7_product_18 rfl (lv_at hl 0 rfl) ?_
      refine lv_aload_n hx hb dX7_product_19 rfl (lv_at hl 2 rfl) ?_
      refine gf (k0 := k1 + 2) hX hB h1 rfl in7 0 (by decide) wm_5_145 rfl rfl dX7_product_20 ?_
      refine lv_icmp_ge (tgt := 101) hx hb dX7_product_23 (by decide) (fun c47 => ?_) (fun c47 => ?_)
      · rw [nleP (a := R) (b := y3_18) (by omega) (by omega)] at c47
        replace hR := ifp c47 hR
        refine lv_aload_n hx hb dX7_product_101 rfl (lv_at hl 1 rfl) ?_
        rw [← hQ]
        exact end_a hX hB hA3 rfl (Or.inr ⟨_, rfl⟩) (by obtain rfl := hR; exact ⟨q1, b2, rfl, rfl⟩) (Nat.le_of_ble_eq_true rfl) (Nat.le_of_ble_eq_true rfl) dX7_product_102
      · rw [nleP (a := R) (b := y3_18) (by omega) (by omega)] at c47
        replace hR := ifn c47 hR
        refine lv_iconst (v := 0) hx hb dX7_product_26 (by decide) ?_
        refine lv_istore (lv' := [(4, .int 0), (3, .int (nI y3_18)), (2, .ref q1), (0, .ref g), (1, .ref g_o)]) hx hb dX7_product_27 hl (by decide) rfl (fun ls hl => ?_)
        have lp29 : ∀ (nn29 : Nat) (y4_29 : Nat) (fb2_29 : Nat → Int64) (H : Heap) (locs : List Loc), (y4_29 ≤ C_o) → C_o + 1 - y4_29 < nn29 → D_X7_product_29 C f C_o f_o (D_X7_product_18 R C f C_o f_o nn18) y3_18 nn29 y4_29 fb2_29 = o_F → Bd κ A s (lA κ b2 (R * 5) fb2_29 :: gO q1 R C_o b2 :: w) H locs → ∀ ls : Array Slot, lv_has ls 8 [(4, .int (nI y4_29)), (3, .int (nI y3_18)), (2, .ref q1), (0, .ref g), (1, .ref g_o)] → W p l e (Rm 2 42 2 23) s m args below meth c H locs (2) (23) Q (F0 m 29 ls []) := by
          intro nn29
          induction nn29 with
          | zero => intro y4_29 fb2_29 H locs hn4_29 hμ; exact absurd hμ (Nat.not_lt_zero _)
          | succ nn29 ih29 =>
            intro y4_29 fb2_29 H locs hn4_29 hμ29 hR hB ls hl
            replace hR := (D_X7_product_29_s).symm.trans hR
            refine lv_iload hx hb dX7_product_29 (lv_at hl 0 rfl) ?_
            refine lv_aload_n hx hb dX7_product_31 rfl (lv_at hl 4 rfl) ?_
            refine gf (k0 := k3 + 2) hX hB h3 rfl in7 1 (by decide) wm_5_149 rfl rfl dX7_product_32 ?_
            refine lv_icmp_ge (tgt := 95) hx hb dX7_product_35 (by decide) (fun c62 => ?_) (fun c62 => ?_)
            · rw [nleP (a := C_o) (b := y4_29) (by omega) (by omega)] at c62
              replace hR := ifp c62 hR
              refine lv_iinc (v := nI (y3_18 + 1)) (lv' := [(3, .int (nI (y3_18 + 1))), (4, .int (nI y4_29)), (2, .ref q1), (0, .ref g), (1, .ref g_o)]) hx hb dX7_product_95 hl (k := 1) rfl (nI_add y3_18 1) (by decide) rfl (fun ls hl => ?_)
              refine lv_goto (tgt := 18) hx hb dX7_product_98 (by decide) ?_
              exact ih18 (y3_18 + 1) fb2_29 _ _ (by omega) (by omega) hR hB _ (lv_sub hl [0, 2, 3, 4] rfl)
            · rw [nleP (a := C_o) (b := y4_29) (by omega) (by omega)] at c62
              replace hR := ifn c62 hR
              refine lv_lconst (v := 0) hx hb dX7_product_38 (by decide) ?_
              refine lv_lstore (lv' := [(5, .long 0), (4, .int (nI y4_29)), (3, .int (nI y3_18)), (2, .ref q1), (0, .ref g), (1, .ref g_o)]) hx hb dX7_product_39 hl (by decide) rfl (fun ls hl => ?_)
              refine lv_iconst (v := 0) hx hb dX7_product_41 (by decide) ?_
              refine lv_istore (lv' := [(7, .int 0), (5, .long 0), (4, .int (nI y4_29)), (3, .int (nI y3_18)), (2, .ref q1), (0, .ref g), (1, .ref g_o)]) hx hb dX7_product_42 hl (by decide) rfl (fun ls hl => ?_)
              have lp44 : ∀ (nn44 : Nat) (y7_44 : Nat) (y5_44 : Int64) (H : Heap) (locs : List Loc), (y7_44 ≤ C) → C + 1 - y7_44 < nn44 → D_X7_product_44 C f f_o y3_18 (D_X7_product_29 C f C_o f_o (D_X7_product_18 R C f C_o f_o nn18) y3_18 nn29) y4_29 fb2_29 nn44 y7_44 y5_44 = o_F → Bd κ A s (lA κ b2 (R * 5) fb2_29 :: gO q1 R C_o b2 :: w) H locs → ∀ ls : Array Slot, lv_has ls 8 [(7, .int (nI y7_44)), (5, .long y5_44), (4, .int (nI y4_29)), (3, .int (nI y3_18)), (2, .ref q1), (0, .ref g), (1, .ref g_o)] → W p l e (Rm 2 42 2 23) s m args below meth c H locs (2) (23) Q (F0 m 44 ls []) := by
                intro nn44
                induction nn44 with
                | zero => intro y7_44 y5_44 H locs hn7_44 hμ; exact absurd hμ (Nat.not_lt_zero _)
                | succ nn44 ih44 =>
                  intro y7_44 y5_44 H locs hn7_44 hμ44 hR hB ls hl
                  replace hR := (D_X7_product_44_s).symm.trans hR
                  refine lv_iload hx hb dX7_product_44 (lv_at hl 0 rfl) ?_
                  refine lv_aload_n hx hb dX7_product_46 rfl (lv_at hl 5 rfl) ?_
                  refine gf (k0 := k1 + 2) hX hB h1 rfl in7 1 (by decide) wm_5_149 rfl rfl dX7_product_47 ?_
                  refine lv_icmp_ge (tgt := 80) hx hb dX7_product_50 (by decide) (fun c68 => ?_) (fun c68 => ?_)
                  · rw [nleP (a := C) (b := y7_44) (by omega) (by omega)] at c68
                    replace hR := ifp c68 hR
                    refine lv_aload_n hx hb dX7_product_80 rfl (lv_at hl 4 rfl) ?_
                    refine lv_iload_n hx hb dX7_product_81 rfl (lv_at hl 3 rfl) ?_
                    refine lv_iload hx hb dX7_product_82 (lv_at hl 2 rfl) ?_
                    refine lv_lload hx hb dX7_product_84 (lv_at hl 1 rfl) ?_
                    refine call_V (n := 3) (k0 := 1) (As := [.int (nI y3_18), .int (nI y4_29), .long y5_44]) (rest := []) hX hB (k_X7_put κ l (lA κ b2 (R * 5) fb2_29 :: gO q1 R C_o b2 :: w) 1 0 q1 b2 R C_o fb2_29 (nI y3_18) y3_18 (nI y4_29) y4_29 y5_44 rfl rfl ⟨by omega, by omega, by omega, by omega⟩ rfl rfl (by omega)) ⟨rfl, yk_X7_put⟩ wm_5_221 wm_5_222 wm_5_223 wm_1_7 wm_5_224 ⟨Nat.le_of_ble_eq_true rfl, Nat.le_of_ble_eq_true rfl⟩ ⟨Nat.le_of_ble_eq_true rfl, Nat.le_of_ble_eq_true rfl⟩ rfl rfl rfl rfl hl.1 rfl (Nat.le_of_ble_eq_true rfl) dX7_product_86 (fun o w' H locs hp hB => ?_)
                    obtain ⟨rfl, hw9⟩ := hp
                    replace hB : Bd κ A s (lA κ b2 (R * 5) (vp_updL fb2_29 (y3_18 * 5 + y4_29) y5_44) :: gO q1 R C_o b2 :: w) H locs := by rw [hw9] at hB; exact hB
                    refine W.eq (g2 := F0 m 89 ls []) rfl ?_
                    refine lv_iinc (v := nI (y4_29 + 1)) (lv' := [(4, .int (nI (y4_29 + 1))), (7, .int (nI y7_44)), (5, .long y5_44), (3, .int (nI y3_18)), (2, .ref q1), (0, .ref g), (1, .ref g_o)]) hx hb dX7_product_89 hl (k := 2) rfl (nI_add y4_29 1) (by decide) rfl (fun ls hl => ?_)
                    refine lv_goto (tgt := 29) hx hb dX7_product_92 (by decide) ?_
                    exact ih29 (y4_29 + 1) (vp_updL fb2_29 (y3_18 * 5 + y4_29) y5_44) _ _ (by omega) (by omega) hR hB _ (lv_sub hl [0, 3, 4, 5, 6] rfl)
                  · rw [nleP (a := C) (b := y7_44) (by omega) (by omega)] at c68
                    replace hR := ifn c68 hR
                    refine lv_lload hx hb dX7_product_53 (lv_at hl 1 rfl) ?_
                    refine lv_aload_n hx hb dX7_product_55 rfl (lv_at hl 5 rfl) ?_
                    refine lv_iload_n hx hb dX7_product_56 rfl (lv_at hl 3 rfl) ?_
                    refine lv_iload hx hb dX7_product_57 (lv_at hl 0 rfl) ?_
                    refine call_V (n := 2) (k0 := (k1 + 2)) (As := [.int (nI y3_18), .int (nI y7_44)]) (rest := [.long y5_44]) hX hB (k_X7_at κ l (lA κ b2 (R * 5) fb2_29 :: gO q1 R C_o b2 :: w) (k1 + 2) (k2 + 2) g b R C f (nI y3_18) y3_18 (nI y7_44) y7_44 h1 h2 hs rfl rfl (by omega)) ⟨rfl, yk_X7_at⟩ wm_6_50 wm_5_238 wm_5_239 wm_1_7 wm_6_0 ⟨Nat.le_of_ble_eq_true rfl, Nat.le_of_ble_eq_true rfl⟩ ⟨Nat.le_of_ble_eq_true rfl, Nat.le_of_ble_eq_true rfl⟩ h1 rfl rfl rfl hl.1 rfl (Nat.le_of_ble_eq_true rfl) dX7_product_59 (fun o w' H locs hp hB => ?_)
                    obtain ⟨rfl, hw9⟩ := hp
                    replace hB : Bd κ A s (lA κ b2 (R * 5) fb2_29 :: gO q1 R C_o b2 :: w) H locs := by rw [hw9] at hB; exact hB
                    refine W.eq (g2 := F0 m 62 ls [.long (f (y3_18 * 5 + y7_44)), .long y5_44]) rfl ?_
                    refine lv_aload_n hx hb dX7_product_62 rfl (lv_at hl 6 rfl) ?_
                    refine lv_iload hx hb dX7_product_63 (lv_at hl 0 rfl) ?_
                    refine lv_iload hx hb dX7_product_65 (lv_at hl 2 rfl) ?_
                    refine call_V (n := 2) (k0 := (k3 + 2)) (As := [.int (nI y7_44), .int (nI y4_29)]) (rest := [.long (f (y3_18 * 5 + y7_44)), .long y5_44]) hX hB (k_X7_at κ l (lA κ b2 (R * 5) fb2_29 :: gO q1 R C_o b2 :: w) (k3 + 2) (k4 + 2) g_o b_o R_o C_o f_o (nI y7_44) y7_44 (nI y4_29) y4_29 h3 h4 hso rfl rfl (by omega)) ⟨rfl, yk_X7_at⟩ wm_6_50 wm_5_238 wm_5_239 wm_1_7 wm_6_0 ⟨Nat.le_of_ble_eq_true rfl, Nat.le_of_ble_eq_true rfl⟩ ⟨Nat.le_of_ble_eq_true rfl, Nat.le_of_ble_eq_true rfl⟩ h3 rfl rfl rfl hl.1 rfl (Nat.le_of_ble_eq_true rfl) dX7_product_67 (fun o w' H locs hp hB => ?_)
                    obtain ⟨rfl, hw9⟩ := hp
                    replace hB : Bd κ A s (lA κ b2 (R * 5) fb2_29 :: gO q1 R C_o b2 :: w) H locs := by rw [hw9] at hB; exact hB
                    refine W.eq (g2 := F0 m 70 ls [.long (f_o (y7_44 * 5 + y4_29)), .long (f (y3_18 * 5 + y7_44)), .long y5_44]) rfl ?_
                    refine lv_lmul hx hb dX7_product_70 ?_
                    refine lv_ladd hx hb dX7_product_71 ?_
                    refine lv_lstore (lv' := [(5, .long (y5_44 + ((f (y3_18 * 5 + y7_44)) * (f_o (y7_44 * 5 + y4_29))))), (7, .int (nI y7_44)), (4, .int (nI y4_29)), (3, .int (nI y3_18)), (2, .ref q1), (0, .ref g), (1, .ref g_o)]) hx hb dX7_product_72 hl (by decide) rfl (fun ls hl => ?_)
                    refine lv_iinc (v := nI (y7_44 + 1)) (lv' := [(7, .int (nI (y7_44 + 1))), (5, .long (y5_44 + ((f (y3_18 * 5 + y7_44)) * (f_o (y7_44 * 5 + y4_29))))), (4, .int (nI y4_29)), (3, .int (nI y3_18)), (2, .ref q1), (0, .ref g), (1, .ref g_o)]) hx hb dX7_product_74 hl (k := 1) rfl (nI_add y7_44 1) (by decide) rfl (fun ls hl => ?_)
                    refine lv_goto (tgt := 44) hx hb dX7_product_77 (by decide) ?_
                    exact ih44 (y7_44 + 1) (y5_44 + ((f (y3_18 * 5 + y7_44)) * (f_o (y7_44 * 5 + y4_29)))) _ _ (by omega) (by omega) hR hB _ hl
              exact lp44 _ 0 0 _ _ (by omega) (Nat.lt_succ_self _) hR hB _ hl
        exact lp29 _ 0 fb2_18 _ _ (by omega) (Nat.lt_succ_self _) hR hB _ hl
  exact lp18 _ 0 (fun _ => 0) _ _ (by omega) (Nat.lt_succ_self _) hR hB _ hl
end
section
-- 32.rjdk
def tz (x : Nat) : Nat := if x % 2 = 1 then 0 else if x / 2 % 2 = 1 then 1 else if x / 4 % 2 = 1 then 2 else if x / 8 % 2 = 1 then 3 else 4
theorem fz1 : ∀ x, x < 32 → 0 < x → ¬ 0 < ((nI x) ^^^ (-1)) &&& ((nI x) - 1) → (((nI x) ^^^ (-1)) &&& ((nI x) - 1)) &&& 32 = nI (tz x) := by decide +kernel
theorem fzA : ∀ x, x < 32 → ((nI x) ^^^ (-1)) &&& ((nI x) - 1) ≤ 65536 := by decide +kernel
theorem fzB : ∀ x, x < 32 → ((nI x) ^^^ (-1)) &&& ((nI x) - 1) ≤ 256 := by decide +kernel
theorem fzC : ∀ x, x < 32 → ((nI x) ^^^ (-1)) &&& ((nI x) - 1) ≤ 16 := by decide +kernel
theorem fz3 : ∀ x, x < 32 → 0 < ((nI x) ^^^ (-1)) &&& ((nI x) - 1) → ¬ ((nI x) ^^^ (-1)) &&& ((nI x) - 1) ≤ 4 → (3 : Int32) + us32 (us32 (((nI x) ^^^ (-1)) &&& ((nI x) - 1)) 2) 1 = nI (tz x) := by decide +kernel
theorem fz4 : ∀ x, x < 32 → 0 < ((nI x) ^^^ (-1)) &&& ((nI x) - 1) → ((nI x) ^^^ (-1)) &&& ((nI x) - 1) ≤ 4 → (1 : Int32) + us32 (((nI x) ^^^ (-1)) &&& ((nI x) - 1)) 1 = nI (tz x) := by decide +kernel

set_option maxHeartbeats 4000000 in
set_option maxRecDepth 100000 in
theorem k_J6_numberOfTrailingZeros_0f7a4 (κ : Kt) (l : Launch) (w : va_W) (xx : Int32) (x : Nat) (hxx : xx = nI x) (h32 : x < 32) (h0 : 0 < x) : CM κ l yJ6_numberOfTrailingZeros_0f7a4 cJ6_numberOfTrailingZeros_0f7a4 2 (some .int) 0 0 0 0 [.int xx] (w) (fun o w' => ∃ (nvz : Int32), o = some (.int nvz) ∧ (nvz = nI (tz x)) ∧ w' = w) := by
  
  subst hxx
  refine CM_begin (plainFor_of_name pn_RJ6) (Nat.le_of_ble_eq_true rfl) ?_
  intro p e s m args below meth c A Q hX hnm hA3 hQ hB ls hl
  have hx := hX.1.1
  have hb := hX.1.2.1
  have hl : lv_has ls 2 [(0, .int (nI x))] := hl
  refine lv_iload_n hx hb dJ6_numberOfTrailingZeros_0f7a4_0 rfl (lv_at hl 0 rfl) ?_
  refine lv_iconst (v := (-1)) hx hb dJ6_numberOfTrailingZeros_0f7a4_1 (by decide) ?_
  refine lv_ixor hx hb dJ6_numberOfTrailingZeros_0f7a4_2 ?_
  refine lv_iload_n hx hb dJ6_numberOfTrailingZeros_0f7a4_3 rfl (lv_at hl 0 rfl) ?_
  refine lv_iconst (v := 1) hx hb dJ6_numberOfTrailingZeros_0f7a4_4 (by decide) ?_
  refine lv_isub hx hb dJ6_numberOfTrailingZeros_0f7a4_5 ?_
  refine lv_iand hx hb dJ6_numberOfTrailingZeros_0f7a4_6 ?_
  refine lv_topi (fun v1 ev1 => ?_)
  refine lv_istore_n (lv' := [(0, .int v1)]) hx hb dJ6_numberOfTrailingZeros_0f7a4_7 rfl hl (by decide) rfl (fun ls hl => ?_)
  refine lv_iload_n hx hb dJ6_numberOfTrailingZeros_0f7a4_8 rfl (lv_at hl 0 rfl) ?_
  refine lv_if_gt (tgt := 17) hx hb dJ6_numberOfTrailingZeros_0f7a4_9 (by decide) (fun c2 => ?_) (fun c2 => ?_)
  · refine lv_iconst (v := 1) hx hb dJ6_numberOfTrailingZeros_0f7a4_17 (by decide) ?_
    refine lv_istore_n (lv' := [(1, .int 1), (0, .int v1)]) hx hb dJ6_numberOfTrailingZeros_0f7a4_18 rfl hl (by decide) rfl (fun ls hl => ?_)
    refine lv_iload_n hx hb dJ6_numberOfTrailingZeros_0f7a4_19 rfl (lv_at hl 1 rfl) ?_
    refine lv_ldcw (own := RJ6) (v := 65536) hx hb hX.1.2.2.2.1 (hX.1.2.2.2.2 _ wm_7_86) dJ6_numberOfTrailingZeros_0f7a4_20 ?_
    refine lv_icmp_le (tgt := 34) hx hb dJ6_numberOfTrailingZeros_0f7a4_23 (by decide) (fun c3 => ?_) (fun c3 => ?_)
    · refine lv_iload_n hx hb dJ6_numberOfTrailingZeros_0f7a4_34 rfl (lv_at hl 1 rfl) ?_
      refine lv_sipush (v := 256) hx hb dJ6_numberOfTrailingZeros_0f7a4_35 (by decide) ?_
      refine lv_icmp_le (tgt := 49) hx hb dJ6_numberOfTrailingZeros_0f7a4_38 (by decide) (fun c4 => ?_) (fun c4 => ?_)
      · refine lv_iload_n hx hb dJ6_numberOfTrailingZeros_0f7a4_49 rfl (lv_at hl 1 rfl) ?_
        refine lv_bipush (v := 16) hx hb dJ6_numberOfTrailingZeros_0f7a4_50 (by decide) ?_
        refine lv_icmp_le (tgt := 62) hx hb dJ6_numberOfTrailingZeros_0f7a4_52 (by decide) (fun c6 => ?_) (fun c6 => ?_)
        · refine lv_iload_n hx hb dJ6_numberOfTrailingZeros_0f7a4_62 rfl (lv_at hl 1 rfl) ?_
          refine lv_iconst (v := 4) hx hb dJ6_numberOfTrailingZeros_0f7a4_63 (by decide) ?_
          refine lv_icmp_le (tgt := 74) hx hb dJ6_numberOfTrailingZeros_0f7a4_64 (by decide) (fun c7 => ?_) (fun c7 => ?_)
          · refine lv_iload_n hx hb dJ6_numberOfTrailingZeros_0f7a4_74 rfl (lv_at hl 0 rfl) ?_
            refine lv_iload_n hx hb dJ6_numberOfTrailingZeros_0f7a4_75 rfl (lv_at hl 1 rfl) ?_
            refine lv_iconst (v := 1) hx hb dJ6_numberOfTrailingZeros_0f7a4_76 (by decide) ?_
            refine lv_iushr hx hb dJ6_numberOfTrailingZeros_0f7a4_77 rfl ?_
            refine lv_topi (fun u8 eu8 => ?_)
            refine lv_iadd hx hb dJ6_numberOfTrailingZeros_0f7a4_78 ?_
            rw [← hQ]
            exact end_i hX hB hA3 rfl rfl ⟨(1 + u8), rfl, (by subst_vars; first | exact fz1 x h32 h0 (by assumption) | exact fz3 x h32 (by assumption) (by assumption) | exact fz4 x h32 (by assumption) (by assumption)), rfl⟩ (Nat.le_of_ble_eq_true rfl) (Nat.le_of_ble_eq_true rfl) dJ6_numberOfTrailingZeros_0f7a4_79
          · refine lv_iinc (v := 3) (lv' := [(1, .int 3), (0, .int v1)]) hx hb dJ6_numberOfTrailingZeros_0f7a4_67 hl (k := 0) rfl (by decide) (by decide) rfl (fun ls hl => ?_)
            refine lv_iload_n hx hb dJ6_numberOfTrailingZeros_0f7a4_70 rfl (lv_at hl 1 rfl) ?_
            refine lv_iconst (v := 2) hx hb dJ6_numberOfTrailingZeros_0f7a4_71 (by decide) ?_
            refine lv_iushr hx hb dJ6_numberOfTrailingZeros_0f7a4_72 rfl ?_
            refine lv_topi (fun u9 eu9 => ?_)
            refine lv_istore_n (lv' := [(0, .int u9), (1, .int 3)]) hx hb dJ6_numberOfTrailingZeros_0f7a4_73 rfl hl (by decide) rfl (fun ls hl => ?_)
            refine lv_iload_n hx hb dJ6_numberOfTrailingZeros_0f7a4_74 rfl (lv_at hl 1 rfl) ?_
            refine lv_iload_n hx hb dJ6_numberOfTrailingZeros_0f7a4_75 rfl (lv_at hl 0 rfl) ?_
            refine lv_iconst (v := 1) hx hb dJ6_numberOfTrailingZeros_0f7a4_76 (by decide) ?_
            refine lv_iushr hx hb dJ6_numberOfTrailingZeros_0f7a4_77 rfl ?_
            refine lv_topi (fun u10 eu10 => ?_)
            refine lv_iadd hx hb dJ6_numberOfTrailingZeros_0f7a4_78 ?_
            rw [← hQ]
            exact end_i hX hB hA3 rfl rfl ⟨(3 + u10), rfl, (by subst_vars; first | exact fz1 x h32 h0 (by assumption) | exact fz3 x h32 (by assumption) (by assumption) | exact fz4 x h32 (by assumption) (by assumption)), rfl⟩ (Nat.le_of_ble_eq_true rfl) (Nat.le_of_ble_eq_true rfl) dJ6_numberOfTrailingZeros_0f7a4_79
        · exact (by subst_vars; exact absurd (fzC x h32) (by assumption))
      · exact (by subst_vars; exact absurd (fzB x h32) (by assumption))
    · exact (by subst_vars; exact absurd (fzA x h32) (by assumption))
  · refine lv_iload_n hx hb dJ6_numberOfTrailingZeros_0f7a4_12 rfl (lv_at hl 0 rfl) ?_
    refine lv_bipush (v := 32) hx hb dJ6_numberOfTrailingZeros_0f7a4_13 (by decide) ?_
    refine lv_iand hx hb dJ6_numberOfTrailingZeros_0f7a4_15 ?_
    rw [← hQ]
    exact end_i hX hB hA3 rfl rfl ⟨(v1 &&& 32), rfl, (by subst_vars; first | exact fz1 x h32 h0 (by assumption) | exact fz3 x h32 (by assumption) (by assumption) | exact fz4 x h32 (by assumption) (by assumption)), rfl⟩ (Nat.le_of_ble_eq_true rfl) (Nat.le_of_ble_eq_true rfl) dJ6_numberOfTrailingZeros_0f7a4_16
noncomputable def D_gcd_step (x : Int64) (y : Int64) (rec : Int64 → Int64 → Int64) : Int64 := (if (lg_cmp y 0) = 0 then nm ((if 0 < x then x else -x) : Int64) (fun (t2 : Int64) => t2) else rec y (x - x / y * y))
theorem D_gcd_step_s {x : Int64} {y : Int64} {rec : Int64 → Int64 → Int64} : D_gcd_step x y rec = (if (lg_cmp y 0) = 0 then nm ((if 0 < x then x else -x) : Int64) (fun (t2 : Int64) => t2) else rec y (x - x / y * y)) := rfl
set_option maxHeartbeats 4000000 in
theorem gcd_step (κ : Kt) (l : Launch) (w : va_W) (d : Nat) (x y : Int64) (rec : Int64 → Int64 → Int64) (h : ¬ y = 0 → CM κ l yX10_gcd cX10_gcd 4 (some .long) d (23 * d) 0 0 [.long y, .long (x - x / y * y)] w (fun o w' => o = some (.long (rec y (x - x / y * y))) ∧ w' = w)) (o_z : Int64) (hR : D_gcd_step x y rec = o_z) : CM κ l yX10_gcd cX10_gcd 4 (some .long) (d + 1) (23 * (d + 1)) 0 0 [.long x, .long y] w (fun o w' => o = some (.long o_z) ∧ w' = w) := by
  refine CM_begin (plainFor_of_name pn_RX10) (Nat.le_of_ble_eq_true rfl) ?_
  intro p e s m args below meth c A Q hX hnm hA3 hQ hB ls hl
  have hx := hX.1.1
  have hb := hX.1.2.1
  have hl : lv_has ls 4 [(0, .long x), (2, .long y)] := hl
  replace hR := (D_gcd_step_s).symm.trans hR
  refine lv_lload_n hx hb dX10_gcd_0 rfl (lv_at hl 1 rfl) ?_
  refine lv_lconst (v := 0) hx hb dX10_gcd_1 (by decide) ?_
  refine W.lcmp hx hb dX10_gcd_2 ?_
  refine lv_if_ne (tgt := 13) hx hb dX10_gcd_3 (by decide) (fun c1 => ?_) (fun c1 => ?_)
  · replace hR := ifn c1 hR
    refine lv_lload_n hx hb dX10_gcd_13 rfl (lv_at hl 1 rfl) ?_
    refine lv_lload_n hx hb dX10_gcd_14 rfl (lv_at hl 0 rfl) ?_
    refine lv_lload_n hx hb dX10_gcd_15 rfl (lv_at hl 1 rfl) ?_
    refine lv_lrem hx hb dX10_gcd_16 (lgnz (by assumption)) ?_
    refine call_S (n := 2) (As := [.long y, .long (x - x / y * y)]) (rest := []) hX hB (h (lgnz (by assumption))) ⟨by decide, by decide, by decide +kernel⟩ wm_7_110 wm_7_107 wm_1_6 wm_7_108 ⟨Nat.le_refl _, (show 8 + (4 + 11) + 23 * d ≤ 23 * (d + 1) by omega)⟩ ⟨Nat.le_of_ble_eq_true rfl, Nat.le_of_ble_eq_true rfl⟩ rfl hl.1 rfl (Nat.le_of_ble_eq_true rfl) dX10_gcd_17 (fun o w' H locs hp hB => ?_)
    obtain ⟨rfl, hw9⟩ := hp
    replace hB : Bd κ A s (w) H locs := by rw [hw9] at hB; exact hB
    refine W.eq (g2 := F0 m 20 ls [.long (rec y (x - x / y * y))]) rfl ?_
    rw [← hQ]
    exact end_l hX hB hA3 rfl (by obtain rfl := hR; exact ⟨rfl, rfl⟩) (Nat.le_of_ble_eq_true rfl) (Nat.le_of_ble_eq_true rfl) dX10_gcd_20
  · replace hR := ifp c1 hR
    refine lv_lload_n hx hb dX10_gcd_6 rfl (lv_at hl 0 rfl) ?_
    refine va_mabs_long hx hb (by rw [hX.1.2.2.1]; exact hl.1.symm) hX.1.2.2.2.1 (hX.1.2.2.2.2 _ wm_7_109) (hX.1.2.2.2.2 _ wm_1_237) (hX.1.2.2.2.2 _ wm_1_14) (hX.1.2.2.2.2 _ wm_1_238) (Nat.le_add_left 1 d) (Nat.le_trans (Nat.le_of_ble_eq_true rfl : 13 ≤ 23) (Nat.le_mul_of_pos_right 23 (Nat.succ_pos d))) (Nat.le_of_ble_eq_true rfl) (Nat.le_of_ble_eq_true rfl) dX10_gcd_7 ?_
    refine lv_topl (fun t2 et2 => ?_)
    replace hR := nm_use et2 hR
    refine lv_goto (tgt := 20) hx hb dX10_gcd_10 (by decide) ?_
    rw [← hQ]
    exact end_l hX hB hA3 rfl (by obtain rfl := hR; exact ⟨rfl, rfl⟩) (Nat.le_of_ble_eq_true rfl) (Nat.le_of_ble_eq_true rfl) dX10_gcd_20


theorem rem_int {x y : Int64} (hy : ¬ y = 0) : (x - x / y * y).toInt = x.toInt.tmod y.toInt := by
  have h0 : y.toInt ≠ 0 := fun h => hy (Int64.toInt_inj.mp h)
  rw [Int64.toInt_sub, Int64.toInt_mul, Int64.toInt_div, Int.bmod_mul_bmod, Int.sub_bmod_bmod]
  have e : x.toInt - x.toInt.tdiv y.toInt * y.toInt = x.toInt.tmod y.toInt := by rw [Int.tmod_def, Int.mul_comm]
  rw [e]
  have h1 := Int.natAbs_tmod x.toInt y.toInt
  have h2 : x.toInt.natAbs % y.toInt.natAbs < y.toInt.natAbs := Nat.mod_lt _ (by omega)
  have h3 := Int64.toInt_lt y
  have h4 := Int64.le_toInt y
  exact Int.bmod_eq_of_le (by omega) (by omega)
theorem rem_abs {x y : Int64} (hy : ¬ y = 0) : (x - x / y * y).toInt.natAbs = x.toInt.natAbs % y.toInt.natAbs := by rw [rem_int hy, Int.natAbs_tmod]
theorem half_mod {a b : Nat} (h0 : 0 < a) (h : a ≤ b) : b % a * 2 < b := by
  have h1 := Nat.mod_lt b h0
  have h2 := Nat.div_add_mod b a
  have h3 : 1 ≤ b / a := (Nat.one_le_div_iff h0).mpr h
  have h4 : a * 1 ≤ a * (b / a) := Nat.mul_le_mul_left a h3
  omega
noncomputable def gcF (d : Nat) : Int64 → Int64 → Int64 := @Nat.rec (fun _ => Int64 → Int64 → Int64) (fun _ _ => 0) (fun _ ih x y => D_gcd_step x y ih) d
noncomputable def gcv (x y : Int64) : Int64 := gcF 129 x y
abbrev gcP (κ : Kt) (l : Launch) (w : va_W) (d : Nat) (x y : Int64) : Prop := CM κ l yX10_gcd cX10_gcd 4 (some .long) d (23 * d) 0 0 [.long x, .long y] w (fun o w' => o = some (.long (gcF d x y)) ∧ w' = w)
theorem gcd_all (κ : Kt) (l : Launch) (w : va_W) : ∀ (k : Nat) (x y : Int64), y.toInt.natAbs < 2 ^ k → gcP κ l w (2 * k + 1) x y := by
  intro k
  induction k with
  | zero =>
    intro x y h
    refine gcd_step κ l w 0 x y (gcF 0) (fun hy => absurd (Int64.toInt_inj.mp (?_ : y.toInt = (0 : Int64).toInt)) hy) _ rfl
    show y.toInt = 0
    omega
  | succ k ih =>
    intro x y h
    refine gcd_step κ l w (2 * k + 2) x y (gcF (2 * k + 2)) (fun hy => ?_) _ rfl
    refine gcd_step κ l w (2 * k + 1) y _ (gcF (2 * k + 1)) (fun hr => ih _ _ ?_) _ rfl
    have h0 : y.toInt ≠ 0 := fun h => hy (Int64.toInt_inj.mp h)
    have hr0 : (x - x / y * y).toInt ≠ 0 := fun h => hr (Int64.toInt_inj.mp h)
    rw [rem_abs hr]
    have e1 := rem_abs (x := x) hy
    have e2 : x.toInt.natAbs % y.toInt.natAbs < y.toInt.natAbs := Nat.mod_lt _ (by omega)
    have e3 := half_mod (a := (x - x / y * y).toInt.natAbs) (b := y.toInt.natAbs) (by omega) (by omega)
    rw [Nat.pow_succ] at h
    omega
theorem k_X10_gcd (κ : Kt) (l : Launch) (w : va_W) (x y : Int64) : CM κ l yX10_gcd cX10_gcd 4 (some .long) 129 (23 * 129) 0 0 [.long x, .long y] w (fun o w' => o = some (.long (gcv x y)) ∧ w' = w) := by
  refine gcd_all κ l w 64 x y ?_
  have h3 := Int64.toInt_lt y
  have h4 := Int64.le_toInt y
  omega
end
section
-- 33.rminor
def lb (x : Nat) : Nat := x - 2 ^ tz x
def pc5 (x : Nat) : Nat := x % 2 + x / 2 % 2 + x / 4 % 2 + x / 8 % 2 + x / 16 % 2
theorem p32 {R x : Nat} (hR : R ≤ 5) (h : x < 2 ^ R) : x < 32 := Nat.lt_of_lt_of_le h (Nat.pow_le_pow_right (by decide) hR : 2 ^ R ≤ 2 ^ 5)
theorem fzt : ∀ R, R < 6 → ∀ x, x < 32 → x < 2 ^ R → 0 < x → tz x < R := by decide +kernel
theorem fml : ∀ x, x < 32 → 0 < x → (nI x) &&& ((1 <<< ((nI (tz x)) &&& 31)) ^^^ (-1)) = nI (lb x) := by decide +kernel
theorem fmb : ∀ y, y < 32 → ∀ j, j < 5 → ((nI y) >>> ((nI j) &&& 31)) &&& 1 = nI (y / 2 ^ j % 2) := by decide +kernel
theorem fmc : ∀ y, y < 32 → ∀ j, j < 5 → ¬ y / 2 ^ j % 2 = 0 → (nI y) &&& ((1 <<< ((nI j) &&& 31)) ^^^ (-1)) = nI (y - 2 ^ j) := by decide +kernel
theorem fpx : ∀ x, x < 32 → 0 < x → pc5 (lb x) + 1 = pc5 x := by decide +kernel
theorem fpy : ∀ y, y < 32 → ∀ j, j < 5 → ¬ y / 2 ^ j % 2 = 0 → pc5 (y - 2 ^ j) + 1 = pc5 y := by decide +kernel
theorem fp0 : ∀ x, x < 32 → (0 < x ↔ 0 < pc5 x) := by decide +kernel
theorem mn_rec {R C x y j n : Nat} (hR : R ≤ 4) (hC : C ≤ 5) (h : 0 < x ∧ x < 2 ^ R ∧ 0 < y ∧ y < 2 ^ C ∧ pc5 x = n + 1 ∧ pc5 y = n + 1) (c1 : ¬ lb x = 0) (c2 : ¬ y / 2 ^ j % 2 = 0) (hj : j < 5) : 0 < lb x ∧ lb x < 2 ^ R ∧ 0 < y - 2 ^ j ∧ y - 2 ^ j < 2 ^ C ∧ pc5 (lb x) = n ∧ pc5 (y - 2 ^ j) = n := by
  obtain ⟨h1, h2, h3, h4, h5, h6⟩ := h
  have h32 := p32 (by omega) h2
  have g32 := p32 hC h4
  have e1 := fpx x h32 h1
  have e2 := fpy y g32 j hj c2
  have l1 : lb x ≤ x := Nat.sub_le _ _
  have l2 : y - 2 ^ j ≤ y := Nat.sub_le _ _
  have e3 := (fp0 (lb x) (Nat.lt_of_le_of_lt l1 h32)).mp (Nat.pos_of_ne_zero c1)
  have e4 := (fp0 (y - 2 ^ j) (Nat.lt_of_le_of_lt l2 g32)).mpr (by omega)
  exact ⟨Nat.pos_of_ne_zero c1, Nat.lt_of_le_of_lt l1 h2, e4, Nat.lt_of_le_of_lt l2 h4, by omega, by omega⟩
/-- the reference's minors: a row's terms so far, the side of the next -/
def mfold (f : Nat → Int64) (rec : Nat → Int64) (r y : Nat) : Nat → Int64 × Int32
  | 0 => (0, 1)
  | j + 1 => if y / 2 ^ j % 2 = 0 then mfold f rec r y j else (if f (r * 5 + j) = 0 then (mfold f rec r y j).1 else (mfold f rec r y j).1 + (mfold f rec r y j).2.toInt64 * f (r * 5 + j) * rec (y - 2 ^ j), -(mfold f rec r y j).2)
def mnv (f : Nat → Int64) (C : Nat) : Nat → Nat → Nat → Int64
  | 0, _, _ => 0
  | n + 1, x, y => if lb x = 0 then f (tz x * 5 + tz y) else (mfold f (mnv f C n (lb x)) (tz x) y C).1
section MFS
variable {f rec : Nat → Int64} {r y j : Nat} {s : Int64} {d : Int32}
theorem mf_a (h : s = (mfold f rec r y j).1 ∧ d = (mfold f rec r y j).2) (c : y / 2 ^ j % 2 = 0) : s = (mfold f rec r y (j + 1)).1 ∧ d = (mfold f rec r y (j + 1)).2 := by
  simp only [mfold, if_pos c]
  exact h
theorem mf_b (h : s = (mfold f rec r y j).1 ∧ d = (mfold f rec r y j).2) (c : ¬ y / 2 ^ j % 2 = 0) (z : lg_cmp (f (r * 5 + j)) 0 = 0) : s = (mfold f rec r y (j + 1)).1 ∧ -d = (mfold f rec r y (j + 1)).2 := by
  have z := (lg_cmp_eq _ _).mp z
  simp only [mfold, if_neg c, if_pos z]
  exact ⟨h.1, by rw [h.2]⟩
theorem mf_c (h : s = (mfold f rec r y j).1 ∧ d = (mfold f rec r y j).2) (c : ¬ y / 2 ^ j % 2 = 0) (z : ¬ lg_cmp (f (r * 5 + j)) 0 = 0) : s + d.toInt64 * f (r * 5 + j) * rec (y - 2 ^ j) = (mfold f rec r y (j + 1)).1 ∧ -d = (mfold f rec r y (j + 1)).2 := by
  have z : ¬ f (r * 5 + j) = 0 := fun e => z ((lg_cmp_eq _ _).mpr e)
  simp only [mfold, if_neg c, if_neg z]
  exact ⟨by rw [h.1, h.2], by rw [h.2]⟩
end MFS

set_option maxHeartbeats 4000000 in
set_option maxRecDepth 100000 in
theorem minor_step (κ : Kt) (l : Launch) (d : Nat) (w : va_W) (k1 k2 g b R C : Nat) (f : Nat → Int64) (xx : Int32) (x : Nat) (xy : Int32) (y : Nat) (n : Nat) (h1 : w[k1]? = some (gO g R C b)) (h2 : w[k2]? = some (lA κ b (R * 5) f)) (hs : shp R C) (hxx : xx = nI x) (hxy : xy = nI y) (hmn : 0 < x ∧ x < 2 ^ R ∧ 0 < y ∧ y < 2 ^ C ∧ pc5 x = n + 1 ∧ pc5 y = n + 1) (ih : ∀ X Y : Nat, (0 < X ∧ X < 2 ^ R ∧ 0 < Y ∧ Y < 2 ^ C ∧ pc5 X = n ∧ pc5 Y = n) → CM κ l yX7_minor cX7_minor 9 (some .long) d (28 * d) 0 0 [.ref g, .int (nI X), .int (nI Y)] w (fun o w' => o = some (.long (mnv f C n X Y)) ∧ w' = w)) : CM κ l yX7_minor cX7_minor 9 (some .long) (d + 1) (28 * (d + 1)) 0 0 [.ref g, .int xx, .int xy] (w) (fun o w' => o = some (.long (mnv f C (n + 1) x y)) ∧ w' = w) := by
  have hs0 := hs
  obtain ⟨hs1, hs2, hs3, hs4⟩ := hs0
  subst hxx
  subst hxy
  refine CM_begin (plainFor_of_name pn_RX7) (Nat.le_of_ble_eq_true rfl) ?_
  intro p e s m args below meth c A Q hX hnm hA3 hQ hB ls hl
  have hx := hX.1.1
  have hb := hX.1.2.1
  have hl : lv_has ls 9 [(0, .ref g), (1, .int (nI x)), (2, .int (nI y))] := hl
  have h32 := p32 (by omega) hmn.2.1
  have g32 := p32 (by omega) hmn.2.2.2.1
  have htx := fzt R (by omega) x h32 hmn.2.1 hmn.1
  have hty := fzt C (by omega) y g32 hmn.2.2.2.1 hmn.2.2.1
  have l1 : lb x ≤ x := Nat.sub_le _ _
  refine lv_iload_n hx hb dX7_minor_0 rfl (lv_at hl 1 rfl) ?_
  refine call_S (n := 1) (As := [.int (nI x)]) (rest := []) hX hB (k_J6_numberOfTrailingZeros_0f7a4 κ l (w) (nI x) x rfl (by omega) (by omega)) yk_J6_numberOfTrailingZeros_0f7a4 wm_7_83 wm_7_84 wm_1_26 wm_7_85 ⟨(show 0 + 1 ≤ d + 1 by omega), (show 8 + (2 + 11) + 0 ≤ 28 * (d + 1) by omega)⟩ ⟨Nat.le_of_ble_eq_true rfl, Nat.le_of_ble_eq_true rfl⟩ rfl hl.1 rfl (Nat.le_of_ble_eq_true rfl) dX7_minor_1 (fun o w' H locs hp hB => ?_)
  obtain ⟨n1, rfl, hf2, hw9⟩ := hp
  replace hB : Bd κ A s (w) H locs := by rw [hw9] at hB; exact hB
  subst hf2
  refine W.eq (g2 := F0 m 4 ls [.int (nI (tz x))]) rfl ?_
  refine lv_istore_n (lv' := [(3, .int (nI (tz x))), (0, .ref g), (1, .int (nI x)), (2, .int (nI y))]) hx hb dX7_minor_4 rfl hl (by decide) rfl (fun ls hl => ?_)
  refine lv_iload_n hx hb dX7_minor_5 rfl (lv_at hl 2 rfl) ?_
  refine lv_iconst (v := 1) hx hb dX7_minor_6 (by decide) ?_
  refine lv_iload_n hx hb dX7_minor_7 rfl (lv_at hl 0 rfl) ?_
  refine lv_ishl hx hb dX7_minor_8 ?_
  refine lv_iconst (v := (-1)) hx hb dX7_minor_9 (by decide) ?_
  refine lv_ixor hx hb dX7_minor_10 ?_
  refine lv_iand hx hb dX7_minor_11 ?_
  refine eqi (y := nI (lb x)) (fml x h32 hmn.1) ?_
  refine lv_istore (lv' := [(4, .int (nI (lb x))), (3, .int (nI (tz x))), (0, .ref g), (1, .int (nI x)), (2, .int (nI y))]) hx hb dX7_minor_12 hl (by decide) rfl (fun ls hl => ?_)
  refine lv_iload hx hb dX7_minor_14 (lv_at hl 0 rfl) ?_
  refine lv_if_ne (tgt := 29) hx hb dX7_minor_16 (by decide) (fun c3 => ?_) (fun c3 => ?_)
  · replace c3 : ¬ nI (lb x) = nI 0 := c3
    rw [neqP (by omega) (by omega)] at c3
    refine lv_lconst (v := 0) hx hb dX7_minor_29 (by decide) ?_
    refine lv_lstore (lv' := [(5, .long 0), (4, .int (nI (lb x))), (3, .int (nI (tz x))), (0, .ref g), (1, .int (nI x)), (2, .int (nI y))]) hx hb dX7_minor_30 hl (by decide) rfl (fun ls hl => ?_)
    refine lv_iconst (v := 1) hx hb dX7_minor_32 (by decide) ?_
    refine lv_istore (lv' := [(7, .int 1), (5, .long 0), (4, .int (nI (lb x))), (3, .int (nI (tz x))), (0, .ref g), (1, .int (nI x)), (2, .int (nI y))]) hx hb dX7_minor_33 hl (by decide) rfl (fun ls hl => ?_)
    refine lv_iconst (v := 0) hx hb dX7_minor_35 (by decide) ?_
    refine lv_istore (lv' := [(8, .int 0), (7, .int 1), (5, .long 0), (4, .int (nI (lb x))), (3, .int (nI (tz x))), (0, .ref g), (1, .int (nI x)), (2, .int (nI y))]) hx hb dX7_minor_36 hl (by decide) rfl (fun ls hl => ?_)
    have lp38 : ∀ (nn38 : Nat) (y8_38 : Nat) (y7_38 : Int32) (y5_38 : Int64) (H : Heap) (locs : List Loc), (y8_38 ≤ C) → (y5_38 = (mfold f (mnv f C n (lb x)) (tz x) y y8_38).1 ∧ y7_38 = (mfold f (mnv f C n (lb x)) (tz x) y y8_38).2) → C + 1 - y8_38 < nn38 → Bd κ A s (w) H locs → ∀ ls : Array Slot, lv_has ls 9 [(8, .int (nI y8_38)), (7, .int y7_38), (5, .long y5_38), (4, .int (nI (lb x))), (3, .int (nI (tz x))), (0, .ref g), (1, .int (nI x)), (2, .int (nI y))] → W p l e (Rm (d + 1) (28 * (d + 1)) 0 0) s m args below meth c H locs (0) (0) Q (F0 m 38 ls []) := by
      intro nn38
      induction nn38 with
      | zero => intro y8_38 y7_38 y5_38 H locs hn8_38 hv_38 hμ; exact absurd hμ (Nat.not_lt_zero _)
      | succ nn38 ih38 =>
        intro y8_38 y7_38 y5_38 H locs hn8_38 hv_38 hμ38 hB ls hl
        refine lv_iload hx hb dX7_minor_38 (lv_at hl 0 rfl) ?_
        refine lv_aload_n hx hb dX7_minor_40 rfl (lv_at hl 5 rfl) ?_
        refine gf (k0 := k1) hX hB h1 rfl in7 1 (by decide) wm_5_149 rfl rfl dX7_minor_41 ?_
        refine lv_icmp_ge (tgt := 113) hx hb dX7_minor_44 (by decide) (fun c10 => ?_) (fun c10 => ?_)
        · rw [nleP (a := C) (b := y8_38) (by omega) (by omega)] at c10
          refine lv_lload hx hb dX7_minor_113 (lv_at hl 2 rfl) ?_
          rw [← hQ]
          exact end_l hX hB hA3 rfl ⟨(by rw [hv_38.1, show y8_38 = C by omega]; exact congrArg (fun z => some (Value.long z)) (if_neg (by assumption)).symm), rfl⟩ (Nat.le_of_ble_eq_true rfl) (Nat.le_of_ble_eq_true rfl) dX7_minor_115
        · rw [nleP (a := C) (b := y8_38) (by omega) (by omega)] at c10
          refine lv_iload_n hx hb dX7_minor_47 rfl (lv_at hl 7 rfl) ?_
          refine lv_iload hx hb dX7_minor_48 (lv_at hl 0 rfl) ?_
          refine lv_ishr hx hb dX7_minor_50 ?_
          refine lv_iconst (v := 1) hx hb dX7_minor_51 (by decide) ?_
          refine lv_iand hx hb dX7_minor_52 ?_
          refine eqi (y := nI (y / 2 ^ y8_38 % 2)) (fmb y g32 y8_38 (by omega)) ?_
          refine lv_if_ne (tgt := 59) hx hb dX7_minor_53 (by decide) (fun c11 => ?_) (fun c11 => ?_)
          · replace c11 : ¬ nI (y / 2 ^ y8_38 % 2) = nI 0 := c11
            rw [neqP (by omega) (by omega)] at c11
            refine lv_aload_n hx hb dX7_minor_59 rfl (lv_at hl 5 rfl) ?_
            refine lv_iload_n hx hb dX7_minor_60 rfl (lv_at hl 4 rfl) ?_
            refine lv_iload hx hb dX7_minor_61 (lv_at hl 0 rfl) ?_
            refine call_V (n := 2) (k0 := k1) (As := [.int (nI (tz x)), .int (nI y8_38)]) (rest := []) hX hB (k_X7_at κ l (w) k1 k2 g b R C f (nI (tz x)) (tz x) (nI y8_38) y8_38 h1 h2 hs rfl rfl (by omega)) ⟨rfl, yk_X7_at⟩ wm_6_50 wm_5_238 wm_5_239 wm_1_7 wm_6_0 ⟨(show 0 + 1 ≤ d + 1 by omega), (show 8 + (3 + 11) + 0 ≤ 28 * (d + 1) by omega)⟩ ⟨Nat.le_of_ble_eq_true rfl, Nat.le_of_ble_eq_true rfl⟩ h1 rfl rfl rfl hl.1 rfl (Nat.le_of_ble_eq_true rfl) dX7_minor_63 (fun o w' H locs hp hB => ?_)
            obtain ⟨rfl, hw9⟩ := hp
            replace hB : Bd κ A s (w) H locs := by rw [hw9] at hB; exact hB
            refine W.eq (g2 := F0 m 66 ls [.long (f ((tz x) * 5 + y8_38))]) rfl ?_
            refine lv_lconst (v := 0) hx hb dX7_minor_66 (by decide) ?_
            refine W.lcmp hx hb dX7_minor_67 ?_
            refine lv_if_eq (tgt := 102) hx hb dX7_minor_68 (by decide) (fun c12 => ?_) (fun c12 => ?_)
            · refine lv_iload hx hb dX7_minor_102 (lv_at hl 1 rfl) ?_
              refine lv_ineg hx hb dX7_minor_104 ?_
              refine lv_istore (lv' := [(7, .int (-y7_38)), (8, .int (nI y8_38)), (5, .long y5_38), (4, .int (nI (lb x))), (3, .int (nI (tz x))), (0, .ref g), (1, .int (nI x)), (2, .int (nI y))]) hx hb dX7_minor_105 hl (by decide) rfl (fun ls hl => ?_)
              refine lv_iinc (v := nI (y8_38 + 1)) (lv' := [(8, .int (nI (y8_38 + 1))), (7, .int (-y7_38)), (5, .long y5_38), (4, .int (nI (lb x))), (3, .int (nI (tz x))), (0, .ref g), (1, .int (nI x)), (2, .int (nI y))]) hx hb dX7_minor_107 hl (k := 1) rfl (nI_add y8_38 1) (by decide) rfl (fun ls hl => ?_)
              refine lv_goto (tgt := 38) hx hb dX7_minor_110 (by decide) ?_
              exact ih38 (y8_38 + 1) (-y7_38) y5_38 _ _ (by omega) (by first | exact mf_a hv_38 (by assumption) | exact mf_b hv_38 (by assumption) (by assumption) | exact mf_c hv_38 (by assumption) (by assumption)) (by omega) hB _ hl
            · refine lv_lload hx hb dX7_minor_71 (lv_at hl 2 rfl) ?_
              refine lv_iload hx hb dX7_minor_73 (lv_at hl 1 rfl) ?_
              refine lv_i2l hx hb dX7_minor_75 rfl ?_
              refine lv_aload_n hx hb dX7_minor_76 rfl (lv_at hl 5 rfl) ?_
              refine lv_iload_n hx hb dX7_minor_77 rfl (lv_at hl 4 rfl) ?_
              refine lv_iload hx hb dX7_minor_78 (lv_at hl 0 rfl) ?_
              refine call_V (n := 2) (k0 := k1) (As := [.int (nI (tz x)), .int (nI y8_38)]) (rest := [.long ((y7_38).toInt64), .long y5_38]) hX hB (k_X7_at κ l (w) k1 k2 g b R C f (nI (tz x)) (tz x) (nI y8_38) y8_38 h1 h2 hs rfl rfl (by omega)) ⟨rfl, yk_X7_at⟩ wm_6_50 wm_5_238 wm_5_239 wm_1_7 wm_6_0 ⟨(show 0 + 1 ≤ d + 1 by omega), (show 8 + (3 + 11) + 0 ≤ 28 * (d + 1) by omega)⟩ ⟨Nat.le_of_ble_eq_true rfl, Nat.le_of_ble_eq_true rfl⟩ h1 rfl rfl rfl hl.1 rfl (Nat.le_of_ble_eq_true rfl) dX7_minor_80 (fun o w' H locs hp hB => ?_)
              obtain ⟨rfl, hw9⟩ := hp
              replace hB : Bd κ A s (w) H locs := by rw [hw9] at hB; exact hB
              refine W.eq (g2 := F0 m 83 ls [.long (f ((tz x) * 5 + y8_38)), .long ((y7_38).toInt64), .long y5_38]) rfl ?_
              refine lv_lmul hx hb dX7_minor_83 ?_
              refine lv_aload_n hx hb dX7_minor_84 rfl (lv_at hl 5 rfl) ?_
              refine lv_iload hx hb dX7_minor_85 (lv_at hl 3 rfl) ?_
              refine lv_iload_n hx hb dX7_minor_87 rfl (lv_at hl 7 rfl) ?_
              refine lv_iconst (v := 1) hx hb dX7_minor_88 (by decide) ?_
              refine lv_iload hx hb dX7_minor_89 (lv_at hl 0 rfl) ?_
              refine lv_ishl hx hb dX7_minor_91 ?_
              refine lv_iconst (v := (-1)) hx hb dX7_minor_92 (by decide) ?_
              refine lv_ixor hx hb dX7_minor_93 ?_
              refine lv_iand hx hb dX7_minor_94 ?_
              refine eqi (y := nI (y - 2 ^ y8_38)) (fmc y g32 y8_38 (by omega) (by assumption)) ?_
              refine call_V (n := 2) (k0 := k1) (As := [.int (nI (lb x)), .int (nI (y - 2 ^ y8_38))]) (rest := [.long (((y7_38).toInt64) * (f ((tz x) * 5 + y8_38))), .long y5_38]) hX hB (ih _ _ (mn_rec hs2 hs4 hmn (by assumption) (by assumption) (by omega))) ⟨rfl, by decide, by decide, by decide +kernel⟩ wm_7_87 wm_7_80 wm_7_81 wm_1_7 wm_7_82 ⟨Nat.le_refl _, (show 8 + (9 + 11) + 28 * d ≤ 28 * (d + 1) by omega)⟩ ⟨Nat.le_of_ble_eq_true rfl, Nat.le_of_ble_eq_true rfl⟩ h1 rfl rfl rfl hl.1 rfl (Nat.le_of_ble_eq_true rfl) dX7_minor_95 (fun o w' H locs hp hB => ?_)
              obtain ⟨rfl, hw9⟩ := hp
              replace hB : Bd κ A s (w) H locs := by rw [hw9] at hB; exact hB
              refine W.eq (g2 := F0 m 98 ls [.long (mnv f C n (lb x) (y - 2 ^ y8_38)), .long (((y7_38).toInt64) * (f ((tz x) * 5 + y8_38))), .long y5_38]) rfl ?_
              refine lv_lmul hx hb dX7_minor_98 ?_
              refine lv_ladd hx hb dX7_minor_99 ?_
              refine lv_lstore (lv' := [(5, .long (y5_38 + ((((y7_38).toInt64) * (f ((tz x) * 5 + y8_38))) * (mnv f C n (lb x) (y - 2 ^ y8_38))))), (8, .int (nI y8_38)), (7, .int y7_38), (4, .int (nI (lb x))), (3, .int (nI (tz x))), (0, .ref g), (1, .int (nI x)), (2, .int (nI y))]) hx hb dX7_minor_100 hl (by decide) rfl (fun ls hl => ?_)
              refine lv_iload hx hb dX7_minor_102 (lv_at hl 2 rfl) ?_
              refine lv_ineg hx hb dX7_minor_104 ?_
              refine lv_istore (lv' := [(7, .int (-y7_38)), (5, .long (y5_38 + ((((y7_38).toInt64) * (f ((tz x) * 5 + y8_38))) * (mnv f C n (lb x) (y - 2 ^ y8_38))))), (8, .int (nI y8_38)), (4, .int (nI (lb x))), (3, .int (nI (tz x))), (0, .ref g), (1, .int (nI x)), (2, .int (nI y))]) hx hb dX7_minor_105 hl (by decide) rfl (fun ls hl => ?_)
              refine lv_iinc (v := nI (y8_38 + 1)) (lv' := [(8, .int (nI (y8_38 + 1))), (7, .int (-y7_38)), (5, .long (y5_38 + ((((y7_38).toInt64) * (f ((tz x) * 5 + y8_38))) * (mnv f C n (lb x) (y - 2 ^ y8_38))))), (4, .int (nI (lb x))), (3, .int (nI (tz x))), (0, .ref g), (1, .int (nI x)), (2, .int (nI y))]) hx hb dX7_minor_107 hl (k := 2) rfl (nI_add y8_38 1) (by decide) rfl (fun ls hl => ?_)
              refine lv_goto (tgt := 38) hx hb dX7_minor_110 (by decide) ?_
              exact ih38 (y8_38 + 1) (-y7_38) (y5_38 + ((((y7_38).toInt64) * (f ((tz x) * 5 + y8_38))) * (mnv f C n (lb x) (y - 2 ^ y8_38)))) _ _ (by omega) (by first | exact mf_a hv_38 (by assumption) | exact mf_b hv_38 (by assumption) (by assumption) | exact mf_c hv_38 (by assumption) (by assumption)) (by omega) hB _ hl
          · replace c11 : nI (y / 2 ^ y8_38 % 2) = nI 0 := c11
            rw [neqP (by omega) (by omega)] at c11
            refine lv_goto (tgt := 107) hx hb dX7_minor_56 (by decide) ?_
            refine lv_iinc (v := nI (y8_38 + 1)) (lv' := [(8, .int (nI (y8_38 + 1))), (7, .int y7_38), (5, .long y5_38), (4, .int (nI (lb x))), (3, .int (nI (tz x))), (0, .ref g), (1, .int (nI x)), (2, .int (nI y))]) hx hb dX7_minor_107 hl (k := 0) rfl (nI_add y8_38 1) (by decide) rfl (fun ls hl => ?_)
            refine lv_goto (tgt := 38) hx hb dX7_minor_110 (by decide) ?_
            exact ih38 (y8_38 + 1) y7_38 y5_38 _ _ (by omega) (by first | exact mf_a hv_38 (by assumption) | exact mf_b hv_38 (by assumption) (by assumption) | exact mf_c hv_38 (by assumption) (by assumption)) (by omega) hB _ hl
    exact lp38 _ 0 1 0 _ _ (by omega) (⟨rfl, rfl⟩) (Nat.lt_succ_self _) hB _ hl
  · replace c3 : nI (lb x) = nI 0 := c3
    rw [neqP (by omega) (by omega)] at c3
    refine lv_aload_n hx hb dX7_minor_19 rfl (lv_at hl 2 rfl) ?_
    refine lv_iload_n hx hb dX7_minor_20 rfl (lv_at hl 1 rfl) ?_
    refine lv_iload_n hx hb dX7_minor_21 rfl (lv_at hl 4 rfl) ?_
    refine call_S (n := 1) (As := [.int (nI y)]) (rest := [.int (nI (tz x)), .ref g]) hX hB (k_J6_numberOfTrailingZeros_0f7a4 κ l (w) (nI y) y rfl (by omega) (by omega)) yk_J6_numberOfTrailingZeros_0f7a4 wm_7_83 wm_7_84 wm_1_26 wm_7_85 ⟨(show 0 + 1 ≤ d + 1 by omega), (show 8 + (2 + 11) + 0 ≤ 28 * (d + 1) by omega)⟩ ⟨Nat.le_of_ble_eq_true rfl, Nat.le_of_ble_eq_true rfl⟩ rfl hl.1 rfl (Nat.le_of_ble_eq_true rfl) dX7_minor_22 (fun o w' H locs hp hB => ?_)
    obtain ⟨n13, rfl, hf14, hw9⟩ := hp
    replace hB : Bd κ A s (w) H locs := by rw [hw9] at hB; exact hB
    subst hf14
    refine W.eq (g2 := F0 m 25 ls [.int (nI (tz y)), .int (nI (tz x)), .ref g]) rfl ?_
    refine call_V (n := 2) (k0 := k1) (As := [.int (nI (tz x)), .int (nI (tz y))]) (rest := []) hX hB (k_X7_at κ l (w) k1 k2 g b R C f (nI (tz x)) (tz x) (nI (tz y)) (tz y) h1 h2 hs rfl rfl (by omega)) ⟨rfl, yk_X7_at⟩ wm_6_50 wm_5_238 wm_5_239 wm_1_7 wm_6_0 ⟨(show 0 + 1 ≤ d + 1 by omega), (show 8 + (3 + 11) + 0 ≤ 28 * (d + 1) by omega)⟩ ⟨Nat.le_of_ble_eq_true rfl, Nat.le_of_ble_eq_true rfl⟩ h1 rfl rfl rfl hl.1 rfl (Nat.le_of_ble_eq_true rfl) dX7_minor_25 (fun o w' H locs hp hB => ?_)
    obtain ⟨rfl, hw9⟩ := hp
    replace hB : Bd κ A s (w) H locs := by rw [hw9] at hB; exact hB
    refine W.eq (g2 := F0 m 28 ls [.long (f ((tz x) * 5 + (tz y)))]) rfl ?_
    rw [← hQ]
    exact end_l hX hB hA3 rfl ⟨congrArg (fun z => some (Value.long z)) (if_pos (by assumption)).symm, rfl⟩ (Nat.le_of_ble_eq_true rfl) (Nat.le_of_ble_eq_true rfl) dX7_minor_28

theorem minor_all (κ : Kt) (l : Launch) (w : va_W) (k1 k2 g b R C : Nat) (f : Nat → Int64) (h1 : w[k1]? = some (gO g R C b)) (h2 : w[k2]? = some (lA κ b (R * 5) f)) (hs : shp R C) : ∀ (d n x y : Nat), n ≤ d → (0 < x ∧ x < 2 ^ R ∧ 0 < y ∧ y < 2 ^ C ∧ pc5 x = n ∧ pc5 y = n) → CM κ l yX7_minor cX7_minor 9 (some .long) d (28 * d) 0 0 [.ref g, .int (nI x), .int (nI y)] w (fun o w' => o = some (.long (mnv f C n x y)) ∧ w' = w) := by
  intro d
  induction d with
  | zero =>
    intro n x y hn h
    have e := (fp0 x (p32 (Nat.le_trans hs.2.1 (by decide)) h.2.1)).mp h.1
    omega
  | succ d ih =>
    intro n x y hn h
    cases n with
    | zero =>
      have e := (fp0 x (p32 (Nat.le_trans hs.2.1 (by decide)) h.2.1)).mp h.1
      omega
    | succ n => exact minor_step κ l d w k1 k2 g b R C f _ x _ y n h1 h2 hs rfl rfl h (fun X Y hh => ih n X Y (by omega) hh)
end
section
-- 34.rdiv
theorem pc5_le (x : Nat) : pc5 x ≤ 5 := by unfold pc5; omega
theorem fpw : ∀ R, R < 6 → (1 : Int32) <<< ((nI R) &&& 31) = nI (2 ^ R) := by decide +kernel
theorem fpm : ∀ R, R < 6 → ((1 : Int32) <<< ((nI R) &&& 31)) - 1 = nI (2 ^ R - 1) := by decide +kernel
theorem fbc : ∀ x, x < 32 → bcE (nI x) = nI (pc5 x) := by decide +kernel
theorem dv_pc {x1 x2 many : Int32} {r c : Nat} (e1 : x1 = bcE (nI r)) (c1 : x1 = many) (e2 : x2 = bcE (nI c)) (c2 : x2 = many) (hr : r < 32) (hc : c < 32) : pc5 r = pc5 c := by
  have h : nI (pc5 r) = nI (pc5 c) := by rw [← fbc r hr, ← fbc c hc, ← e1, ← e2, c1, c2]
  have h1 := pc5_le r
  have h2 := pc5_le c
  exact (nI_eq (by omega) (by omega)).mp h
theorem nmin {a b : Nat} (ha : a < 2 ^ 31) (hb : b < 2 ^ 31) : (if nI b < nI a then nI b else nI a) = nI (min a b) := by
  by_cases h : b < a
  · rw [if_pos ((nI_ltI hb ha).mpr h), Nat.min_eq_right (by omega)]
  · rw [if_neg (fun z => h ((nI_ltI hb ha).mp z)), Nat.min_eq_left (by omega)]
theorem dt_pc {R : Nat} (h1 : 1 ≤ R) (h2 : R < 6) : pc5 (2 ^ R - 1) = R := (by decide +kernel : ∀ R, R < 6 → 1 ≤ R → pc5 (2 ^ R - 1) = R) R h2 h1
theorem dt_six {R C : Nat} (h1 : 1 ≤ R) (h2 : R < 6) (h : R = C) : 0 < 2 ^ R - 1 ∧ 2 ^ R - 1 < 2 ^ R ∧ 0 < 2 ^ C - 1 ∧ 2 ^ C - 1 < 2 ^ C ∧ pc5 (2 ^ R - 1) = pc5 (2 ^ R - 1) ∧ pc5 (2 ^ C - 1) = pc5 (2 ^ R - 1) := by
  subst h
  exact (by decide +kernel : ∀ R, R < 6 → 1 ≤ R → 0 < 2 ^ R - 1 ∧ 2 ^ R - 1 < 2 ^ R ∧ 0 < 2 ^ R - 1 ∧ 2 ^ R - 1 < 2 ^ R ∧ pc5 (2 ^ R - 1) = pc5 (2 ^ R - 1) ∧ pc5 (2 ^ R - 1) = pc5 (2 ^ R - 1)) R h2 h1

noncomputable def D_X7_divisor_37 (C : Nat) (f : Nat → Int64) (p0 : Int32) (lb11 : Nat → Int64 → Int64) (y4_11 : Nat) (nn : Nat) : Nat → Int64 → Int64 := @Nat.rec (fun _ => Nat → Int64 → Int64) (fun _ _ => default) (fun _ lb37 (y5_37 : Nat) (y2_37 : Int64) => (if (2 ^ C) ≤ y5_37 then (lb11 (y4_11 + 1) y2_37) else nm ((bcE (nI y5_37)) : Int32) (fun (x36 : Int32) => (if x36 = p0 then (lb37 (y5_37 + 1) (gcv y2_37 (mnv f C (pc5 y4_11) y4_11 y5_37))) else (lb37 (y5_37 + 1) y2_37))))) nn
theorem D_X7_divisor_37_s {C : Nat} {f : Nat → Int64} {p0 : Int32} {lb11 : Nat → Int64 → Int64} {y4_11 : Nat} {nn : Nat} {y5_37 : Nat} {y2_37 : Int64} : D_X7_divisor_37 C f p0 lb11 y4_11 (nn + 1) y5_37 y2_37 = (if (2 ^ C) ≤ y5_37 then (lb11 (y4_11 + 1) y2_37) else nm ((bcE (nI y5_37)) : Int32) (fun (x36 : Int32) => (if x36 = p0 then ((D_X7_divisor_37 C f p0 lb11 y4_11 nn) (y5_37 + 1) (gcv y2_37 (mnv f C (pc5 y4_11) y4_11 y5_37))) else ((D_X7_divisor_37 C f p0 lb11 y4_11 nn) (y5_37 + 1) y2_37)))) := rfl
noncomputable def D_X7_divisor_11 (R : Nat) (C : Nat) (f : Nat → Int64) (p0 : Int32) (nn : Nat) : Nat → Int64 → Int64 := @Nat.rec (fun _ => Nat → Int64 → Int64) (fun _ _ => default) (fun _ lb11 (y4_11 : Nat) (y2_11 : Int64) => (if (2 ^ R) ≤ y4_11 then y2_11 else nm ((bcE (nI y4_11)) : Int32) (fun (x27 : Int32) => (if x27 = p0 then (D_X7_divisor_37 C f p0 lb11 y4_11 ((2 ^ C) + 1 - 1 + 1) 1 y2_11) else (lb11 (y4_11 + 1) y2_11))))) nn
theorem D_X7_divisor_11_s {R : Nat} {C : Nat} {f : Nat → Int64} {p0 : Int32} {nn : Nat} {y4_11 : Nat} {y2_11 : Int64} : D_X7_divisor_11 R C f p0 (nn + 1) y4_11 y2_11 = (if (2 ^ R) ≤ y4_11 then y2_11 else nm ((bcE (nI y4_11)) : Int32) (fun (x27 : Int32) => (if x27 = p0 then (D_X7_divisor_37 C f p0 (D_X7_divisor_11 R C f p0 nn) y4_11 ((2 ^ C) + 1 - 1 + 1) 1 y2_11) else ((D_X7_divisor_11 R C f p0 nn) (y4_11 + 1) y2_11)))) := rfl
noncomputable def D_X7_divisor (R : Nat) (C : Nat) (f : Nat → Int64) (p0 : Int32) : Int64 := (if p0 = 0 then 1 else (D_X7_divisor_11 R C f p0 ((2 ^ R) + 1 - 1 + 1) 1 0))
theorem D_X7_divisor_s {R : Nat} {C : Nat} {f : Nat → Int64} {p0 : Int32} : D_X7_divisor R C f p0 = (if p0 = 0 then 1 else (D_X7_divisor_11 R C f p0 ((2 ^ R) + 1 - 1 + 1) 1 0)) := rfl
set_option maxHeartbeats 4000000 in
set_option maxRecDepth 100000 in
theorem k_X7_divisor (κ : Kt) (l : Launch) (w : va_W) (k1 k2 g b R C : Nat) (f : Nat → Int64) (p0 : Int32) (h1 : w[k1]? = some (gO g R C b)) (h2 : w[k2]? = some (lA κ b (R * 5) f)) (hs : shp R C) (o_x : Int64) (hR : D_X7_divisor R C f p0 = o_x) : CM κ l yX7_divisor cX7_divisor 6 (some .long) 130 2990 0 0 [.ref g, .int p0] (w) (fun o w' => o = some (.long o_x) ∧ w' = w) := by
  have hs0 := hs
  obtain ⟨hs1, hs2, hs3, hs4⟩ := hs0
  refine CM_begin (plainFor_of_name pn_RX7) (Nat.le_of_ble_eq_true rfl) ?_
  intro p e s m args below meth c A Q hX hnm hA3 hQ hB ls hl
  have hx := hX.1.1
  have hb := hX.1.2.1
  have hl : lv_has ls 6 [(0, .ref g), (1, .int p0)] := hl
  have hR2 : 2 ^ R < 2 ^ 5 := Nat.pow_lt_pow_right (by decide) (by omega)
  have hR3 : 0 < 2 ^ R := Nat.two_pow_pos R
  have hC3 : 0 < 2 ^ C := Nat.two_pow_pos C
  have hC2 : 2 ^ C ≤ 2 ^ 5 := Nat.pow_le_pow_right (by decide) (by omega)
  replace hR := (D_X7_divisor_s).symm.trans hR
  refine lv_iload_n hx hb dX7_divisor_0 rfl (lv_at hl 1 rfl) ?_
  refine lv_if_ne (tgt := 6) hx hb dX7_divisor_1 (by decide) (fun c1 => ?_) (fun c1 => ?_)
  · replace hR := ifn c1 hR
    refine lv_lconst (v := 0) hx hb dX7_divisor_6 (by decide) ?_
    refine lv_lstore_n (lv' := [(2, .long 0), (0, .ref g), (1, .int p0)]) hx hb dX7_divisor_7 rfl hl (by decide) rfl (fun ls hl => ?_)
    refine lv_iconst (v := 1) hx hb dX7_divisor_8 (by decide) ?_
    refine lv_istore (lv' := [(4, .int 1), (2, .long 0), (0, .ref g), (1, .int p0)]) hx hb dX7_divisor_9 hl (by decide) rfl (fun ls hl => ?_)
    have lp11 : ∀ (nn11 : Nat) (y4_11 : Nat) (y2_11 : Int64) (H : Heap) (locs : List Loc), (y4_11 ≤ (2 ^ R)) → (1 ≤ y4_11) → (2 ^ R) + 1 - y4_11 < nn11 → D_X7_divisor_11 R C f p0 nn11 y4_11 y2_11 = o_x → Bd κ A s (w) H locs → ∀ ls : Array Slot, lv_has ls 6 [(4, .int (nI y4_11)), (2, .long y2_11), (0, .ref g), (1, .int p0)] → W p l e (Rm 130 2990 0 0) s m args below meth c H locs (0) (0) Q (F0 m 11 ls []) := by
      intro nn11
      induction nn11 with
      | zero => intro y4_11 y2_11 H locs hn4_11 hr1 hμ; exact absurd hμ (Nat.not_lt_zero _)
      | succ nn11 ih11 =>
        intro y4_11 y2_11 H locs hn4_11 hr1 hμ11 hR hB ls hl
        replace hR := (D_X7_divisor_11_s).symm.trans hR
        refine lv_iload hx hb dX7_divisor_11 (lv_at hl 0 rfl) ?_
        refine lv_iconst (v := 1) hx hb dX7_divisor_13 (by decide) ?_
        refine lv_aload_n hx hb dX7_divisor_14 rfl (lv_at hl 2 rfl) ?_
        refine gf (k0 := k1) hX hB h1 rfl in7 0 (by decide) wm_5_145 rfl rfl dX7_divisor_15 ?_
        refine lv_ishl hx hb dX7_divisor_18 ?_
        refine eqi (y := nI (2 ^ R)) (fpw R (by omega)) ?_
        refine lv_icmp_ge (tgt := 82) hx hb dX7_divisor_19 (by decide) (fun c26 => ?_) (fun c26 => ?_)
        · rw [nleP (a := 2 ^ R) (b := y4_11) (by omega) (by omega)] at c26
          replace hR := ifp c26 hR
          refine lv_lload_n hx hb dX7_divisor_82 rfl (lv_at hl 1 rfl) ?_
          rw [← hQ]
          exact end_l hX hB hA3 rfl (by obtain rfl := hR; exact ⟨rfl, rfl⟩) (Nat.le_of_ble_eq_true rfl) (Nat.le_of_ble_eq_true rfl) dX7_divisor_83
        · rw [nleP (a := 2 ^ R) (b := y4_11) (by omega) (by omega)] at c26
          replace hR := ifn c26 hR
          refine lv_iload hx hb dX7_divisor_22 (lv_at hl 0 rfl) ?_
          refine call_S (n := 1) (As := [.int (nI y4_11)]) (rest := []) hX hB (k_J6_bitCount_0f7a4 κ l (w) (nI y4_11) ) yk_J6_bitCount_0f7a4 wm_7_105 wm_1_195 wm_1_26 wm_1_196 ⟨Nat.le_of_ble_eq_true rfl, Nat.le_of_ble_eq_true rfl⟩ ⟨Nat.le_of_ble_eq_true rfl, Nat.le_of_ble_eq_true rfl⟩ rfl hl.1 rfl (Nat.le_of_ble_eq_true rfl) dX7_divisor_24 (fun o w' H locs hp hB => ?_)
          obtain ⟨x27, rfl, ex27, hw9⟩ := hp
          replace hR := nm_use ex27 hR
          rw [hw9] at hB
          refine W.eq (g2 := F0 m 27 ls [.int x27]) rfl ?_
          refine lv_iload_n hx hb dX7_divisor_27 rfl (lv_at hl 3 rfl) ?_
          refine lv_icmp_eq (tgt := 34) hx hb dX7_divisor_28 (by decide) (fun c28 => ?_) (fun c28 => ?_)
          · replace hR := ifp c28 hR
            refine lv_iconst (v := 1) hx hb dX7_divisor_34 (by decide) ?_
            refine lv_istore (lv' := [(5, .int 1), (4, .int (nI y4_11)), (2, .long y2_11), (0, .ref g), (1, .int p0)]) hx hb dX7_divisor_35 hl (by decide) rfl (fun ls hl => ?_)
            have lp37 : ∀ (nn37 : Nat) (y5_37 : Nat) (y2_37 : Int64) (H : Heap) (locs : List Loc), (y5_37 ≤ (2 ^ C)) → (1 ≤ y5_37) → (2 ^ C) + 1 - y5_37 < nn37 → D_X7_divisor_37 C f p0 (D_X7_divisor_11 R C f p0 nn11) y4_11 nn37 y5_37 y2_37 = o_x → Bd κ A s (w) H locs → ∀ ls : Array Slot, lv_has ls 6 [(5, .int (nI y5_37)), (4, .int (nI y4_11)), (2, .long y2_37), (0, .ref g), (1, .int p0)] → W p l e (Rm 130 2990 0 0) s m args below meth c H locs (0) (0) Q (F0 m 37 ls []) := by
              intro nn37
              induction nn37 with
              | zero => intro y5_37 y2_37 H locs hn5_37 hc1 hμ; exact absurd hμ (Nat.not_lt_zero _)
              | succ nn37 ih37 =>
                intro y5_37 y2_37 H locs hn5_37 hc1 hμ37 hR hB ls hl
                replace hR := (D_X7_divisor_37_s).symm.trans hR
                refine lv_iload hx hb dX7_divisor_37 (lv_at hl 0 rfl) ?_
                refine lv_iconst (v := 1) hx hb dX7_divisor_39 (by decide) ?_
                refine lv_aload_n hx hb dX7_divisor_40 rfl (lv_at hl 3 rfl) ?_
                refine gf (k0 := k1) hX hB h1 rfl in7 1 (by decide) wm_5_149 rfl rfl dX7_divisor_41 ?_
                refine lv_ishl hx hb dX7_divisor_44 ?_
                refine eqi (y := nI (2 ^ C)) (fpw C (by omega)) ?_
                refine lv_icmp_ge (tgt := 76) hx hb dX7_divisor_45 (by decide) (fun c35 => ?_) (fun c35 => ?_)
                · rw [nleP (a := 2 ^ C) (b := y5_37) (by omega) (by omega)] at c35
                  replace hR := ifp c35 hR
                  refine lv_iinc (v := nI (y4_11 + 1)) (lv' := [(4, .int (nI (y4_11 + 1))), (5, .int (nI y5_37)), (2, .long y2_37), (0, .ref g), (1, .int p0)]) hx hb dX7_divisor_76 hl (k := 1) rfl (nI_add y4_11 1) (by decide) rfl (fun ls hl => ?_)
                  refine lv_goto (tgt := 11) hx hb dX7_divisor_79 (by decide) ?_
                  exact ih11 (y4_11 + 1) y2_37 _ _ (by omega) (by omega) (by omega) hR hB _ (lv_sub hl [0, 2, 3, 4] rfl)
                · rw [nleP (a := 2 ^ C) (b := y5_37) (by omega) (by omega)] at c35
                  replace hR := ifn c35 hR
                  refine lv_iload hx hb dX7_divisor_48 (lv_at hl 0 rfl) ?_
                  refine call_S (n := 1) (As := [.int (nI y5_37)]) (rest := []) hX hB (k_J6_bitCount_0f7a4 κ l (w) (nI y5_37) ) yk_J6_bitCount_0f7a4 wm_7_105 wm_1_195 wm_1_26 wm_1_196 ⟨Nat.le_of_ble_eq_true rfl, Nat.le_of_ble_eq_true rfl⟩ ⟨Nat.le_of_ble_eq_true rfl, Nat.le_of_ble_eq_true rfl⟩ rfl hl.1 rfl (Nat.le_of_ble_eq_true rfl) dX7_divisor_50 (fun o w' H locs hp hB => ?_)
                  obtain ⟨x36, rfl, ex36, hw9⟩ := hp
                  replace hR := nm_use ex36 hR
                  rw [hw9] at hB
                  refine W.eq (g2 := F0 m 53 ls [.int x36]) rfl ?_
                  refine lv_iload_n hx hb dX7_divisor_53 rfl (lv_at hl 4 rfl) ?_
                  refine lv_icmp_ne (tgt := 70) hx hb dX7_divisor_54 (by decide) (fun c37 => ?_) (fun c37 => ?_)
                  · replace hR := ifn c37 hR
                    refine lv_iinc (v := nI (y5_37 + 1)) (lv' := [(5, .int (nI (y5_37 + 1))), (4, .int (nI y4_11)), (2, .long y2_37), (0, .ref g), (1, .int p0)]) hx hb dX7_divisor_70 hl (k := 0) rfl (nI_add y5_37 1) (by decide) rfl (fun ls hl => ?_)
                    refine lv_goto (tgt := 37) hx hb dX7_divisor_73 (by decide) ?_
                    exact ih37 (y5_37 + 1) y2_37 _ _ (by omega) (by omega) (by omega) hR hB _ hl
                  · replace hR := ifp c37 hR
                    refine lv_lload_n hx hb dX7_divisor_57 rfl (lv_at hl 2 rfl) ?_
                    refine lv_aload_n hx hb dX7_divisor_58 rfl (lv_at hl 3 rfl) ?_
                    refine lv_iload hx hb dX7_divisor_59 (lv_at hl 1 rfl) ?_
                    refine lv_iload hx hb dX7_divisor_61 (lv_at hl 0 rfl) ?_
                    refine call_V (n := 2) (k0 := k1) (As := [.int (nI y4_11), .int (nI y5_37)]) (rest := [.long y2_37]) hX hB (minor_all κ l (w) k1 k2 g b R C f h1 h2 hs 5 (pc5 y4_11) y4_11 y5_37 (pc5_le _) ⟨by omega, by omega, by omega, by omega, rfl, dv_pc ex36 (by assumption) ex27 (by assumption) (by omega) (by omega)⟩) ⟨rfl, yk_X7_minor⟩ wm_7_87 wm_7_80 wm_7_81 wm_1_7 wm_7_82 ⟨Nat.le_of_ble_eq_true rfl, Nat.le_of_ble_eq_true rfl⟩ ⟨Nat.le_of_ble_eq_true rfl, Nat.le_of_ble_eq_true rfl⟩ h1 rfl rfl rfl hl.1 rfl (Nat.le_of_ble_eq_true rfl) dX7_divisor_63 (fun o w' H locs hp hB => ?_)
                    obtain ⟨rfl, hw9⟩ := hp
                    replace hB : Bd κ A s (w) H locs := by rw [hw9] at hB; exact hB
                    refine W.eq (g2 := F0 m 66 ls [.long (mnv f C (pc5 y4_11) y4_11 y5_37), .long y2_37]) rfl ?_
                    refine call_SN (n := 2) (As := [.long y2_37, .long (mnv f C (pc5 y4_11) y4_11 y5_37)]) (rest := []) hX hB (k_X10_gcd κ l (w) y2_37 (mnv f C (pc5 y4_11) y4_11 y5_37)) yk_X10_gcd wn_7_106 wm_7_107 wm_1_6 wm_7_108 ⟨Nat.le_of_ble_eq_true rfl, Nat.le_of_ble_eq_true rfl⟩ ⟨Nat.le_of_ble_eq_true rfl, Nat.le_of_ble_eq_true rfl⟩ rfl hl.1 rfl (Nat.le_of_ble_eq_true rfl) dX7_divisor_66 (fun o w' H locs hp hB => ?_)
                    obtain ⟨rfl, hw9⟩ := hp
                    replace hB : Bd κ A s (w) H locs := by rw [hw9] at hB; exact hB
                    refine W.eq (g2 := F0 m 69 ls [.long (gcv y2_37 (mnv f C (pc5 y4_11) y4_11 y5_37))]) rfl ?_
                    refine lv_lstore_n (lv' := [(2, .long (gcv y2_37 (mnv f C (pc5 y4_11) y4_11 y5_37))), (5, .int (nI y5_37)), (4, .int (nI y4_11)), (0, .ref g), (1, .int p0)]) hx hb dX7_divisor_69 rfl hl (by decide) rfl (fun ls hl => ?_)
                    refine lv_iinc (v := nI (y5_37 + 1)) (lv' := [(5, .int (nI (y5_37 + 1))), (2, .long (gcv y2_37 (mnv f C (pc5 y4_11) y4_11 y5_37))), (4, .int (nI y4_11)), (0, .ref g), (1, .int p0)]) hx hb dX7_divisor_70 hl (k := 1) rfl (nI_add y5_37 1) (by decide) rfl (fun ls hl => ?_)
                    refine lv_goto (tgt := 37) hx hb dX7_divisor_73 (by decide) ?_
                    exact ih37 (y5_37 + 1) (gcv y2_37 (mnv f C (pc5 y4_11) y4_11 y5_37)) _ _ (by omega) (by omega) (by omega) hR hB _ (lv_sub hl [0, 2, 1, 3, 4] rfl)
            exact lp37 _ 1 y2_11 _ _ (by omega) (by omega) (Nat.lt_succ_self _) hR hB _ hl
          · replace hR := ifn c28 hR
            refine lv_goto (tgt := 76) hx hb dX7_divisor_31 (by decide) ?_
            refine lv_iinc (v := nI (y4_11 + 1)) (lv' := [(4, .int (nI (y4_11 + 1))), (2, .long y2_11), (0, .ref g), (1, .int p0)]) hx hb dX7_divisor_76 hl (k := 0) rfl (nI_add y4_11 1) (by decide) rfl (fun ls hl => ?_)
            refine lv_goto (tgt := 11) hx hb dX7_divisor_79 (by decide) ?_
            exact ih11 (y4_11 + 1) y2_11 _ _ (by omega) (by omega) (by omega) hR hB _ hl
    exact lp11 _ 1 0 _ _ (by omega) (by omega) (Nat.lt_succ_self _) hR hB _ hl
  · replace hR := ifp c1 hR
    refine lv_lconst (v := 1) hx hb dX7_divisor_4 (by decide) ?_
    rw [← hQ]
    exact end_l hX hB hA3 rfl (by obtain rfl := hR; exact ⟨rfl, rfl⟩) (Nat.le_of_ble_eq_true rfl) (Nat.le_of_ble_eq_true rfl) dX7_divisor_5
noncomputable def D_X7_rank_4 (R : Nat) (C : Nat) (f : Nat → Int64) (nn : Nat) : Nat → Nat → Int32 := @Nat.rec (fun _ => Nat → Nat → Int32) (fun _ _ => default) (fun _ lb4 (y2_4 : Nat) (y1_4 : Nat) => nm ((if (nI C) < (nI R) then (nI C) else (nI R)) : Int32) (fun (t12 : Int32) => (if (min R C) < y2_4 then nI y1_4 else bnd1 (D_X7_divisor R C f (nI y2_4)) (fun (x14 : Int64) => (if (lg_cmp x14 0) = 0 then (lb4 (y2_4 + 1) y1_4) else (lb4 (y2_4 + 1) y2_4)))))) nn
theorem D_X7_rank_4_s {R : Nat} {C : Nat} {f : Nat → Int64} {nn : Nat} {y2_4 : Nat} {y1_4 : Nat} : D_X7_rank_4 R C f (nn + 1) y2_4 y1_4 = nm ((if (nI C) < (nI R) then (nI C) else (nI R)) : Int32) (fun (t12 : Int32) => (if (min R C) < y2_4 then nI y1_4 else bnd1 (D_X7_divisor R C f (nI y2_4)) (fun (x14 : Int64) => (if (lg_cmp x14 0) = 0 then ((D_X7_rank_4 R C f nn) (y2_4 + 1) y1_4) else ((D_X7_rank_4 R C f nn) (y2_4 + 1) y2_4))))) := rfl
noncomputable def D_X7_rank (R : Nat) (C : Nat) (f : Nat → Int64) : Int32 := (D_X7_rank_4 R C f ((min R C) + 1 - 1 + 1) 1 0)
theorem D_X7_rank_s {R : Nat} {C : Nat} {f : Nat → Int64} : D_X7_rank R C f = (D_X7_rank_4 R C f ((min R C) + 1 - 1 + 1) 1 0) := rfl
set_option maxHeartbeats 4000000 in
set_option maxRecDepth 100000 in
theorem k_X7_rank (κ : Kt) (l : Launch) (w : va_W) (k1 k2 g b R C : Nat) (f : Nat → Int64) (h1 : w[k1]? = some (gO g R C b)) (h2 : w[k2]? = some (lA κ b (R * 5) f)) (hs : shp R C) (o_x : Int32) (hR : D_X7_rank R C f = o_x) : CM κ l yX7_rank cX7_rank 3 (some .int) 131 3015 0 0 [.ref g] (w) (fun o w' => o = some (.int o_x) ∧ w' = w) := by
  have hs0 := hs
  obtain ⟨hs1, hs2, hs3, hs4⟩ := hs0
  refine CM_begin (plainFor_of_name pn_RX7) (Nat.le_of_ble_eq_true rfl) ?_
  intro p e s m args below meth c A Q hX hnm hA3 hQ hB ls hl
  have hx := hX.1.1
  have hb := hX.1.2.1
  have hl : lv_has ls 3 [(0, .ref g)] := hl
  replace hR := (D_X7_rank_s).symm.trans hR
  refine lv_iconst (v := 0) hx hb dX7_rank_0 (by decide) ?_
  refine lv_istore_n (lv' := [(1, .int 0), (0, .ref g)]) hx hb dX7_rank_1 rfl hl (by decide) rfl (fun ls hl => ?_)
  refine lv_iconst (v := 1) hx hb dX7_rank_2 (by decide) ?_
  refine lv_istore_n (lv' := [(2, .int 1), (1, .int 0), (0, .ref g)]) hx hb dX7_rank_3 rfl hl (by decide) rfl (fun ls hl => ?_)
  have lp4 : ∀ (nn4 : Nat) (y2_4 : Nat) (y1_4 : Nat) (H : Heap) (locs : List Loc), (y2_4 ≤ (min R C) + 1) → (min R C) + 1 - y2_4 < nn4 → D_X7_rank_4 R C f nn4 y2_4 y1_4 = o_x → Bd κ A s (w) H locs → ∀ ls : Array Slot, lv_has ls 3 [(2, .int (nI y2_4)), (1, .int (nI y1_4)), (0, .ref g)] → W p l e (Rm 131 3015 0 0) s m args below meth c H locs (0) (0) Q (F0 m 4 ls []) := by
    intro nn4
    induction nn4 with
    | zero => intro y2_4 y1_4 H locs hn2_4 hμ; exact absurd hμ (Nat.not_lt_zero _)
    | succ nn4 ih4 =>
      intro y2_4 y1_4 H locs hn2_4 hμ4 hR hB ls hl
      replace hR := (D_X7_rank_4_s).symm.trans hR
      refine lv_iload_n hx hb dX7_rank_4 rfl (lv_at hl 0 rfl) ?_
      refine lv_aload_n hx hb dX7_rank_5 rfl (lv_at hl 2 rfl) ?_
      refine gf (k0 := k1) hX hB h1 rfl in7 0 (by decide) wm_5_145 rfl rfl dX7_rank_6 ?_
      refine lv_aload_n hx hb dX7_rank_9 rfl (lv_at hl 2 rfl) ?_
      refine gf (k0 := k1) hX hB h1 rfl in7 1 (by decide) wm_5_149 rfl rfl dX7_rank_10 ?_
      refine va_mmin hx hb (by rw [hX.1.2.2.1]; exact hl.1.symm) hX.1.2.2.2.1 (hX.1.2.2.2.2 _ wm_7_119) (hX.1.2.2.2.2 _ wm_1_217) (hX.1.2.2.2.2 _ wm_1_14) (hX.1.2.2.2.2 _ wm_1_218) (Nat.le_of_ble_eq_true rfl) (Nat.le_of_ble_eq_true rfl) (Nat.le_of_ble_eq_true rfl) (Nat.le_of_ble_eq_true rfl) dX7_rank_13 ?_
      refine lv_topi (fun t12 et12 => ?_)
      replace hR := nm_use et12 hR
      refine eqi (y := nI (min R C)) (et12.trans (nmin (by omega) (by omega))) ?_
      refine lv_icmp_gt (tgt := 37) hx hb dX7_rank_16 (by decide) (fun c13 => ?_) (fun c13 => ?_)
      · rw [nltP (a := min R C) (b := y2_4) (by omega) (by omega)] at c13
        replace hR := ifp c13 hR
        refine lv_iload_n hx hb dX7_rank_37 rfl (lv_at hl 1 rfl) ?_
        rw [← hQ]
        exact end_i hX hB hA3 rfl rfl (by obtain rfl := hR; exact ⟨rfl, rfl⟩) (Nat.le_of_ble_eq_true rfl) (Nat.le_of_ble_eq_true rfl) dX7_rank_38
      · rw [nltP (a := min R C) (b := y2_4) (by omega) (by omega)] at c13
        replace hR := ifn c13 hR
        refine lv_aload_n hx hb dX7_rank_19 rfl (lv_at hl 2 rfl) ?_
        refine lv_iload_n hx hb dX7_rank_20 rfl (lv_at hl 0 rfl) ?_
        obtain ⟨x14, hd15⟩ := ex1 (D_X7_divisor R C f (nI y2_4))
        replace hR := bnd1_use hd15 hR
        refine call_V (n := 1) (k0 := k1) (As := [.int (nI y2_4)]) (rest := []) hX hB (k_X7_divisor κ l (w) k1 k2 g b R C f (nI y2_4) h1 h2 hs x14 hd15) ⟨rfl, yk_X7_divisor⟩ wm_7_120 wm_7_102 wm_7_103 wm_1_7 wm_7_104 ⟨Nat.le_of_ble_eq_true rfl, Nat.le_of_ble_eq_true rfl⟩ ⟨Nat.le_of_ble_eq_true rfl, Nat.le_of_ble_eq_true rfl⟩ h1 rfl rfl rfl hl.1 rfl (Nat.le_of_ble_eq_true rfl) dX7_rank_21 (fun o w' H locs hp hB => ?_)
        obtain ⟨rfl, hw9⟩ := hp
        replace hB : Bd κ A s (w) H locs := by rw [hw9] at hB; exact hB
        refine W.eq (g2 := F0 m 24 ls [.long x14]) rfl ?_
        refine lv_lconst (v := 0) hx hb dX7_rank_24 (by decide) ?_
        refine W.lcmp hx hb dX7_rank_25 ?_
        refine lv_if_eq (tgt := 31) hx hb dX7_rank_26 (by decide) (fun c16 => ?_) (fun c16 => ?_)
        · replace hR := ifp c16 hR
          refine lv_iinc (v := nI (y2_4 + 1)) (lv' := [(2, .int (nI (y2_4 + 1))), (1, .int (nI y1_4)), (0, .ref g)]) hx hb dX7_rank_31 hl (k := 0) rfl (nI_add y2_4 1) (by decide) rfl (fun ls hl => ?_)
          refine lv_goto (tgt := 4) hx hb dX7_rank_34 (by decide) ?_
          exact ih4 (y2_4 + 1) y1_4 _ _ (by omega) (by omega) hR hB _ hl
        · replace hR := ifn c16 hR
          refine lv_iload_n hx hb dX7_rank_29 rfl (lv_at hl 0 rfl) ?_
          refine lv_istore_n (lv' := [(1, .int (nI y2_4)), (2, .int (nI y2_4)), (0, .ref g)]) hx hb dX7_rank_30 rfl hl (by decide) rfl (fun ls hl => ?_)
          refine lv_iinc (v := nI (y2_4 + 1)) (lv' := [(2, .int (nI (y2_4 + 1))), (1, .int (nI y2_4)), (0, .ref g)]) hx hb dX7_rank_31 hl (k := 1) rfl (nI_add y2_4 1) (by decide) rfl (fun ls hl => ?_)
          refine lv_goto (tgt := 4) hx hb dX7_rank_34 (by decide) ?_
          exact ih4 (y2_4 + 1) y2_4 _ _ (by omega) (by omega) hR hB _ hl
  exact lp4 _ 1 0 _ _ (by omega) (Nat.lt_succ_self _) hR hB _ hl
set_option maxHeartbeats 4000000 in
set_option maxRecDepth 100000 in
theorem k_X10_determinantOf (κ : Kt) (l : Launch) (w : va_W) (k1 k2 g b R C : Nat) (f : Nat → Int64) (h1 : w[k1]? = some (gO g R C b)) (h2 : w[k2]? = some (lA κ b (R * 5) f)) (hs : shp R C) (hRC : R = C) : CM κ l yX10_determinantOf cX10_determinantOf 1 (some .long) 6 168 0 0 [.ref g] (w) (fun o w' => o = some (.long (mnv f C R (2 ^ R - 1) (2 ^ C - 1))) ∧ w' = w) := by
  have hs0 := hs
  obtain ⟨hs1, hs2, hs3, hs4⟩ := hs0
  refine CM_begin (plainFor_of_name pn_RX10) (Nat.le_of_ble_eq_true rfl) ?_
  intro p e s m args below meth c A Q hX hnm hA3 hQ hB ls hl
  have hx := hX.1.1
  have hb := hX.1.2.1
  have hl : lv_has ls 1 [(0, .ref g)] := hl
  refine lv_aload_n hx hb dX10_determinantOf_0 rfl (lv_at hl 0 rfl) ?_
  refine lv_iconst (v := 1) hx hb dX10_determinantOf_1 (by decide) ?_
  refine lv_aload_n hx hb dX10_determinantOf_2 rfl (lv_at hl 0 rfl) ?_
  refine gf (k0 := k1) hX hB h1 rfl in7 0 (by decide) wm_5_148 rfl rfl dX10_determinantOf_3 ?_
  refine lv_ishl hx hb dX10_determinantOf_6 ?_
  refine lv_iconst (v := 1) hx hb dX10_determinantOf_7 (by decide) ?_
  refine lv_isub hx hb dX10_determinantOf_8 ?_
  refine eqi (y := nI (2 ^ R - 1)) (fpm R (by omega)) ?_
  refine lv_iconst (v := 1) hx hb dX10_determinantOf_9 (by decide) ?_
  refine lv_aload_n hx hb dX10_determinantOf_10 rfl (lv_at hl 0 rfl) ?_
  refine gf (k0 := k1) hX hB h1 rfl in7 1 (by decide) wm_5_152 rfl rfl dX10_determinantOf_11 ?_
  refine lv_ishl hx hb dX10_determinantOf_14 ?_
  refine lv_iconst (v := 1) hx hb dX10_determinantOf_15 (by decide) ?_
  refine lv_isub hx hb dX10_determinantOf_16 ?_
  refine eqi (y := nI (2 ^ C - 1)) (fpm C (by omega)) ?_
  refine call_V (n := 2) (k0 := k1) (As := [.int (nI (2 ^ R - 1)), .int (nI (2 ^ C - 1))]) (rest := []) hX hB (minor_all κ l (w) k1 k2 g b R C f h1 h2 hs 5 (pc5 (2 ^ R - 1)) (2 ^ R - 1) (2 ^ C - 1) (pc5_le _) (dt_six hs1 (by omega) hRC)) ⟨rfl, yk_X7_minor⟩ wm_7_79 wm_7_80 wm_7_81 wm_1_7 wm_7_82 ⟨Nat.le_of_ble_eq_true rfl, Nat.le_of_ble_eq_true rfl⟩ ⟨Nat.le_of_ble_eq_true rfl, Nat.le_of_ble_eq_true rfl⟩ h1 rfl rfl rfl hl.1 rfl (Nat.le_of_ble_eq_true rfl) dX10_determinantOf_17 (fun o w' H locs hp hB => ?_)
  obtain ⟨rfl, hw9⟩ := hp
  replace hB : Bd κ A s (w) H locs := by rw [hw9] at hB; exact hB
  refine W.eq (g2 := F0 m 20 ls [.long (mnv f C (pc5 (2 ^ R - 1)) (2 ^ R - 1) (2 ^ C - 1))]) rfl ?_
  rw [← hQ]
  exact end_l hX hB hA3 rfl ⟨by rw [dt_pc hs1 (by omega)], rfl⟩ (Nat.le_of_ble_eq_true rfl) (Nat.le_of_ble_eq_true rfl) dX10_determinantOf_20
noncomputable def D_bs_step0 (R : Nat) (C : Nat) (f : Nat → Int64) (x : Nat) (y : Int32) : Int64 := (if x = R then 1 else default)
theorem D_bs_step0_s {R : Nat} {C : Nat} {f : Nat → Int64} {x : Nat} {y : Int32} : D_bs_step0 R C f x y = (if x = R then 1 else default) := rfl
set_option maxHeartbeats 4000000 in
set_option maxRecDepth 100000 in
theorem k_bs_step0 (κ : Kt) (l : Launch) (d : Nat) (w : va_W) (k1 k2 g b R C : Nat) (f : Nat → Int64) (xx : Int32) (x : Nat) (y : Int32) (h1 : w[k1]? = some (gO g R C b)) (h2 : w[k2]? = some (lA κ b (R * 5) f)) (hs : shp R C) (hxx : xx = nI x) (hxR : x ≤ R) (hn : R - x ≤ 0) (o_x0 : Int64) (hR : D_bs_step0 R C f x y = o_x0) : CM κ l yX10_bySequences cX10_bySequences 7 (some .long) (d + 1) (26 * (d + 1)) 0 0 [.ref g, .int xx, .int y] (w) (fun o w' => o = some (.long o_x0) ∧ w' = w) := by
  have hs0 := hs
  obtain ⟨hs1, hs2, hs3, hs4⟩ := hs0
  subst hxx
  refine CM_begin (plainFor_of_name pn_RX10) (Nat.le_of_ble_eq_true rfl) ?_
  intro p e s m args below meth c A Q hX hnm hA3 hQ hB ls hl
  have hx := hX.1.1
  have hb := hX.1.2.1
  have hl : lv_has ls 7 [(0, .ref g), (1, .int (nI x)), (2, .int y)] := hl
  replace hR := (D_bs_step0_s).symm.trans hR
  refine lv_iload_n hx hb dX10_bySequences_0 rfl (lv_at hl 1 rfl) ?_
  refine lv_aload_n hx hb dX10_bySequences_1 rfl (lv_at hl 0 rfl) ?_
  refine gf (k0 := k1) hX hB h1 rfl in7 0 (by decide) wm_5_148 rfl rfl dX10_bySequences_2 ?_
  refine lv_icmp_ne (tgt := 10) hx hb dX10_bySequences_5 (by decide) (fun c1 => ?_) (fun c1 => ?_)
  · rw [neqP (a := x) (b := R) (by omega) (by omega)] at c1
    replace hR := ifn c1 hR
    exact absurd (show x = R by omega) (by assumption)
  · rw [neqP (a := x) (b := R) (by omega) (by omega)] at c1
    replace hR := ifp c1 hR
    refine lv_lconst (v := 1) hx hb dX10_bySequences_8 (by decide) ?_
    rw [← hQ]
    exact end_l hX hB hA3 rfl (by obtain rfl := hR; exact ⟨rfl, rfl⟩) (Nat.le_of_ble_eq_true rfl) (Nat.le_of_ble_eq_true rfl) dX10_bySequences_9
noncomputable def D_bs_step_j56 (f : Nat → Int64) (x : Nat) (y : Int32) (rec : Nat → Int32 → Int64) (lb15 : Nat → Int64 → Int64) (y5_15 : Nat) (y3_15 : Int64) (z0_56 : Int32) : Int64 := (lb15 (y5_15 + 1) (y3_15 + ((((z0_56).toInt64) * (f (x * 5 + y5_15))) * (rec (x + 1) (y ||| (1 <<< ((nI y5_15) &&& 31)))))))
theorem D_bs_step_j56_s {f : Nat → Int64} {x : Nat} {y : Int32} {rec : Nat → Int32 → Int64} {lb15 : Nat → Int64 → Int64} {y5_15 : Nat} {y3_15 : Int64} {z0_56 : Int32} : D_bs_step_j56 f x y rec lb15 y5_15 y3_15 z0_56 = (lb15 (y5_15 + 1) (y3_15 + ((((z0_56).toInt64) * (f (x * 5 + y5_15))) * (rec (x + 1) (y ||| (1 <<< ((nI y5_15) &&& 31))))))) := rfl
noncomputable def D_bs_step_15 (C : Nat) (f : Nat → Int64) (x : Nat) (y : Int32) (rec : Nat → Int32 → Int64) (nn : Nat) : Nat → Int64 → Int64 := @Nat.rec (fun _ => Nat → Int64 → Int64) (fun _ _ => default) (fun _ lb15 (y5_15 : Nat) (y3_15 : Int64) => (if C ≤ y5_15 then y3_15 else (if ((y >>> ((nI y5_15) &&& 31)) &&& 1) = 1 then (lb15 (y5_15 + 1) y3_15) else nm ((bcE (y >>> ((nI (y5_15 + 1)) &&& 31))) : Int32) (fun (x14 : Int32) => (if (x14 - x14 / 2 * 2) = 0 then (D_bs_step_j56 f x y rec lb15 y5_15 y3_15 1) else (D_bs_step_j56 f x y rec lb15 y5_15 y3_15 (-1))))))) nn
theorem D_bs_step_15_s {C : Nat} {f : Nat → Int64} {x : Nat} {y : Int32} {rec : Nat → Int32 → Int64} {nn : Nat} {y5_15 : Nat} {y3_15 : Int64} : D_bs_step_15 C f x y rec (nn + 1) y5_15 y3_15 = (if C ≤ y5_15 then y3_15 else (if ((y >>> ((nI y5_15) &&& 31)) &&& 1) = 1 then ((D_bs_step_15 C f x y rec nn) (y5_15 + 1) y3_15) else nm ((bcE (y >>> ((nI (y5_15 + 1)) &&& 31))) : Int32) (fun (x14 : Int32) => (if (x14 - x14 / 2 * 2) = 0 then (D_bs_step_j56 f x y rec (D_bs_step_15 C f x y rec nn) y5_15 y3_15 1) else (D_bs_step_j56 f x y rec (D_bs_step_15 C f x y rec nn) y5_15 y3_15 (-1)))))) := rfl
noncomputable def D_bs_step (R : Nat) (C : Nat) (f : Nat → Int64) (x : Nat) (y : Int32) (rec : Nat → Int32 → Int64) : Int64 := (if x = R then 1 else (D_bs_step_15 C f x y rec (C + 1 - 0 + 1) 0 0))
theorem D_bs_step_s {R : Nat} {C : Nat} {f : Nat → Int64} {x : Nat} {y : Int32} {rec : Nat → Int32 → Int64} : D_bs_step R C f x y rec = (if x = R then 1 else (D_bs_step_15 C f x y rec (C + 1 - 0 + 1) 0 0)) := rfl
set_option maxHeartbeats 4000000 in
set_option maxRecDepth 100000 in
theorem k_bs_step (κ : Kt) (l : Launch) (d : Nat) (w : va_W) (k1 k2 g b R C : Nat) (f : Nat → Int64) (xx : Int32) (x : Nat) (y : Int32) (n : Nat) (rec : Nat → Int32 → Int64) (h1 : w[k1]? = some (gO g R C b)) (h2 : w[k2]? = some (lA κ b (R * 5) f)) (hs : shp R C) (hxx : xx = nI x) (hxR : x ≤ R) (hn : R - x ≤ n + 1) (hnd : R - x ≤ d) (ih : ∀ (X : Nat) (Y : Int32), X ≤ R → R - X ≤ n → CM κ l yX10_bySequences cX10_bySequences 7 (some .long) d (26 * d) 0 0 [.ref g, .int (nI X), .int Y] w (fun o w' => o = some (.long (rec X Y)) ∧ w' = w)) (o_x0 : Int64) (hR : D_bs_step R C f x y rec = o_x0) : CM κ l yX10_bySequences cX10_bySequences 7 (some .long) (d + 1) (26 * (d + 1)) 0 0 [.ref g, .int xx, .int y] (w) (fun o w' => o = some (.long o_x0) ∧ w' = w) := by
  have hs0 := hs
  obtain ⟨hs1, hs2, hs3, hs4⟩ := hs0
  subst hxx
  refine CM_begin (plainFor_of_name pn_RX10) (Nat.le_of_ble_eq_true rfl) ?_
  intro p e s m args below meth c A Q hX hnm hA3 hQ hB ls hl
  have hx := hX.1.1
  have hb := hX.1.2.1
  have hl : lv_has ls 7 [(0, .ref g), (1, .int (nI x)), (2, .int y)] := hl
  replace hR := (D_bs_step_s).symm.trans hR
  refine lv_iload_n hx hb dX10_bySequences_0 rfl (lv_at hl 1 rfl) ?_
  refine lv_aload_n hx hb dX10_bySequences_1 rfl (lv_at hl 0 rfl) ?_
  refine gf (k0 := k1) hX hB h1 rfl in7 0 (by decide) wm_5_148 rfl rfl dX10_bySequences_2 ?_
  refine lv_icmp_ne (tgt := 10) hx hb dX10_bySequences_5 (by decide) (fun c1 => ?_) (fun c1 => ?_)
  · rw [neqP (a := x) (b := R) (by omega) (by omega)] at c1
    replace hR := ifn c1 hR
    refine lv_lconst (v := 0) hx hb dX10_bySequences_10 (by decide) ?_
    refine lv_lstore_n (lv' := [(3, .long 0), (0, .ref g), (1, .int (nI x)), (2, .int y)]) hx hb dX10_bySequences_11 rfl hl (by decide) rfl (fun ls hl => ?_)
    refine lv_iconst (v := 0) hx hb dX10_bySequences_12 (by decide) ?_
    refine lv_istore (lv' := [(5, .int 0), (3, .long 0), (0, .ref g), (1, .int (nI x)), (2, .int y)]) hx hb dX10_bySequences_13 hl (by decide) rfl (fun ls hl => ?_)
    have lp15 : ∀ (nn15 : Nat) (y5_15 : Nat) (y3_15 : Int64) (H : Heap) (locs : List Loc), (y5_15 ≤ C) → C + 1 - y5_15 < nn15 → D_bs_step_15 C f x y rec nn15 y5_15 y3_15 = o_x0 → Bd κ A s (w) H locs → ∀ ls : Array Slot, lv_has ls 7 [(5, .int (nI y5_15)), (3, .long y3_15), (0, .ref g), (1, .int (nI x)), (2, .int y)] → W p l e (Rm (d + 1) (26 * (d + 1)) 0 0) s m args below meth c H locs (0) (0) Q (F0 m 15 ls []) := by
      intro nn15
      induction nn15 with
      | zero => intro y5_15 y3_15 H locs hn5_15 hμ; exact absurd hμ (Nat.not_lt_zero _)
      | succ nn15 ih15 =>
        intro y5_15 y3_15 H locs hn5_15 hμ15 hR hB ls hl
        replace hR := (D_bs_step_15_s).symm.trans hR
        refine lv_iload hx hb dX10_bySequences_15 (lv_at hl 0 rfl) ?_
        refine lv_aload_n hx hb dX10_bySequences_17 rfl (lv_at hl 2 rfl) ?_
        refine gf (k0 := k1) hX hB h1 rfl in7 1 (by decide) wm_5_152 rfl rfl dX10_bySequences_18 ?_
        refine lv_icmp_ge (tgt := 92) hx hb dX10_bySequences_21 (by decide) (fun c12 => ?_) (fun c12 => ?_)
        · rw [nleP (a := C) (b := y5_15) (by omega) (by omega)] at c12
          replace hR := ifp c12 hR
          refine lv_lload_n hx hb dX10_bySequences_92 rfl (lv_at hl 1 rfl) ?_
          rw [← hQ]
          exact end_l hX hB hA3 rfl (by obtain rfl := hR; exact ⟨rfl, rfl⟩) (Nat.le_of_ble_eq_true rfl) (Nat.le_of_ble_eq_true rfl) dX10_bySequences_93
        · rw [nleP (a := C) (b := y5_15) (by omega) (by omega)] at c12
          replace hR := ifn c12 hR
          refine lv_iload_n hx hb dX10_bySequences_24 rfl (lv_at hl 4 rfl) ?_
          refine lv_iload hx hb dX10_bySequences_25 (lv_at hl 0 rfl) ?_
          refine lv_ishr hx hb dX10_bySequences_27 ?_
          refine lv_iconst (v := 1) hx hb dX10_bySequences_28 (by decide) ?_
          refine lv_iand hx hb dX10_bySequences_29 ?_
          refine lv_iconst (v := 1) hx hb dX10_bySequences_30 (by decide) ?_
          refine lv_icmp_ne (tgt := 37) hx hb dX10_bySequences_31 (by decide) (fun c13 => ?_) (fun c13 => ?_)
          · replace hR := ifn c13 hR
            refine lv_iload_n hx hb dX10_bySequences_37 rfl (lv_at hl 4 rfl) ?_
            refine lv_iload hx hb dX10_bySequences_38 (lv_at hl 0 rfl) ?_
            refine lv_iconst (v := 1) hx hb dX10_bySequences_40 (by decide) ?_
            refine lv_iadd hx hb dX10_bySequences_41 ?_
            refine eqi (y := nI (y5_15 + 1)) (nI_add y5_15 1) ?_
            refine lv_ishr hx hb dX10_bySequences_42 ?_
            refine call_S (n := 1) (As := [.int (y >>> ((nI (y5_15 + 1)) &&& 31))]) (rest := []) hX hB (k_J6_bitCount_0f7a4 κ l (w) (y >>> ((nI (y5_15 + 1)) &&& 31)) ) yk_J6_bitCount_0f7a4 wm_7_91 wm_1_195 wm_1_26 wm_1_196 ⟨(show 0 + 1 ≤ d + 1 by omega), (show 8 + (1 + 11) + 0 ≤ 26 * (d + 1) by omega)⟩ ⟨Nat.le_of_ble_eq_true rfl, Nat.le_of_ble_eq_true rfl⟩ rfl hl.1 rfl (Nat.le_of_ble_eq_true rfl) dX10_bySequences_43 (fun o w' H locs hp hB => ?_)
            obtain ⟨x14, rfl, ex14, hw9⟩ := hp
            replace hR := nm_use ex14 hR
            rw [hw9] at hB
            refine W.eq (g2 := F0 m 46 ls [.int x14]) rfl ?_
            refine lv_iconst (v := 2) hx hb dX10_bySequences_46 (by decide) ?_
            refine lv_irem hx hb dX10_bySequences_47 (by decide) ?_
            have jn56 : ∀ (z0_56 : Int32) (H : Heap) (locs : List Loc), D_bs_step_j56 f x y rec (D_bs_step_15 C f x y rec nn15) y5_15 y3_15 z0_56 = o_x0 → Bd κ A s (w) H locs → ∀ ls : Array Slot, lv_has ls 7 [(5, .int (nI y5_15)), (3, .long y3_15), (0, .ref g), (1, .int (nI x)), (2, .int y)] → W p l e (Rm (d + 1) (26 * (d + 1)) 0 0) s m args below meth c H locs (0) (0) Q (F0 m 56 ls [.int z0_56]) := by
              intro z0_56 H locs hR hB ls hl
              replace hR := (D_bs_step_j56_s).symm.trans hR
              refine lv_istore (lv' := [(6, .int z0_56), (5, .int (nI y5_15)), (3, .long y3_15), (0, .ref g), (1, .int (nI x)), (2, .int y)]) hx hb dX10_bySequences_56 hl (by decide) rfl (fun ls hl => ?_)
              refine lv_lload_n hx hb dX10_bySequences_58 rfl (lv_at hl 2 rfl) ?_
              refine lv_iload hx hb dX10_bySequences_59 (lv_at hl 0 rfl) ?_
              refine lv_i2l hx hb dX10_bySequences_61 rfl ?_
              refine lv_aload_n hx hb dX10_bySequences_62 rfl (lv_at hl 3 rfl) ?_
              refine lv_iload_n hx hb dX10_bySequences_63 rfl (lv_at hl 4 rfl) ?_
              refine lv_iload hx hb dX10_bySequences_64 (lv_at hl 1 rfl) ?_
              refine call_V (n := 2) (k0 := k1) (As := [.int (nI x), .int (nI y5_15)]) (rest := [.long ((z0_56).toInt64), .long y3_15]) hX hB (k_X7_at κ l (w) k1 k2 g b R C f (nI x) x (nI y5_15) y5_15 h1 h2 hs rfl rfl (by omega)) ⟨rfl, yk_X7_at⟩ wm_5_237 wm_5_238 wm_5_239 wm_1_7 wm_6_0 ⟨(show 0 + 1 ≤ d + 1 by omega), (show 8 + (3 + 11) + 0 ≤ 26 * (d + 1) by omega)⟩ ⟨Nat.le_of_ble_eq_true rfl, Nat.le_of_ble_eq_true rfl⟩ h1 rfl rfl rfl hl.1 rfl (Nat.le_of_ble_eq_true rfl) dX10_bySequences_66 (fun o w' H locs hp hB => ?_)
              obtain ⟨rfl, hw9⟩ := hp
              replace hB : Bd κ A s (w) H locs := by rw [hw9] at hB; exact hB
              refine W.eq (g2 := F0 m 69 ls [.long (f (x * 5 + y5_15)), .long ((z0_56).toInt64), .long y3_15]) rfl ?_
              refine lv_lmul hx hb dX10_bySequences_69 ?_
              refine lv_aload_n hx hb dX10_bySequences_70 rfl (lv_at hl 3 rfl) ?_
              refine lv_iload_n hx hb dX10_bySequences_71 rfl (lv_at hl 4 rfl) ?_
              refine lv_iconst (v := 1) hx hb dX10_bySequences_72 (by decide) ?_
              refine lv_iadd hx hb dX10_bySequences_73 ?_
              refine eqi (y := nI (x + 1)) (nI_add x 1) ?_
              refine lv_iload_n hx hb dX10_bySequences_74 rfl (lv_at hl 5 rfl) ?_
              refine lv_iconst (v := 1) hx hb dX10_bySequences_75 (by decide) ?_
              refine lv_iload hx hb dX10_bySequences_76 (lv_at hl 1 rfl) ?_
              refine lv_ishl hx hb dX10_bySequences_78 ?_
              refine lv_ior hx hb dX10_bySequences_79 ?_
              refine call_S (n := 3) (As := [.ref g, .int (nI (x + 1)), .int (y ||| (1 <<< ((nI y5_15) &&& 31)))]) (rest := [.long (((z0_56).toInt64) * (f (x * 5 + y5_15))), .long y3_15]) hX hB (ih (x + 1) (y ||| (1 <<< ((nI y5_15) &&& 31))) (by omega) (by omega)) ⟨by decide, by decide, by decide +kernel⟩ wm_7_88 wm_7_89 wm_1_6 wm_7_90 ⟨Nat.le_refl _, (show 8 + (7 + 11) + 26 * d ≤ 26 * (d + 1) by omega)⟩ ⟨Nat.le_of_ble_eq_true rfl, Nat.le_of_ble_eq_true rfl⟩ rfl hl.1 rfl (Nat.le_of_ble_eq_true rfl) dX10_bySequences_80 (fun o w' H locs hp hB => ?_)
              obtain ⟨rfl, hw9⟩ := hp
              replace hB : Bd κ A s (w) H locs := by rw [hw9] at hB; exact hB
              refine W.eq (g2 := F0 m 83 ls [.long (rec (x + 1) (y ||| (1 <<< ((nI y5_15) &&& 31)))), .long (((z0_56).toInt64) * (f (x * 5 + y5_15))), .long y3_15]) rfl ?_
              refine lv_lmul hx hb dX10_bySequences_83 ?_
              refine lv_ladd hx hb dX10_bySequences_84 ?_
              refine lv_lstore_n (lv' := [(3, .long (y3_15 + ((((z0_56).toInt64) * (f (x * 5 + y5_15))) * (rec (x + 1) (y ||| (1 <<< ((nI y5_15) &&& 31))))))), (6, .int z0_56), (5, .int (nI y5_15)), (0, .ref g), (1, .int (nI x)), (2, .int y)]) hx hb dX10_bySequences_85 rfl hl (by decide) rfl (fun ls hl => ?_)
              refine lv_iinc (v := nI (y5_15 + 1)) (lv' := [(5, .int (nI (y5_15 + 1))), (3, .long (y3_15 + ((((z0_56).toInt64) * (f (x * 5 + y5_15))) * (rec (x + 1) (y ||| (1 <<< ((nI y5_15) &&& 31))))))), (6, .int z0_56), (0, .ref g), (1, .int (nI x)), (2, .int y)]) hx hb dX10_bySequences_86 hl (k := 2) rfl (nI_add y5_15 1) (by decide) rfl (fun ls hl => ?_)
              refine lv_goto (tgt := 15) hx hb dX10_bySequences_89 (by decide) ?_
              exact ih15 (y5_15 + 1) (y3_15 + ((((z0_56).toInt64) * (f (x * 5 + y5_15))) * (rec (x + 1) (y ||| (1 <<< ((nI y5_15) &&& 31)))))) _ _ (by omega) (by omega) hR hB _ (lv_sub hl [0, 1, 3, 4, 5] rfl)
            refine lv_if_ne (tgt := 55) hx hb dX10_bySequences_48 (by decide) (fun c16 => ?_) (fun c16 => ?_)
            · replace hR := ifn c16 hR
              refine lv_iconst (v := (-1)) hx hb dX10_bySequences_55 (by decide) ?_
              exact jn56 (-1) _ _  hR hB _ hl
            · replace hR := ifp c16 hR
              refine lv_iconst (v := 1) hx hb dX10_bySequences_51 (by decide) ?_
              refine lv_goto (tgt := 56) hx hb dX10_bySequences_52 (by decide) ?_
              exact jn56 1 _ _  hR hB _ hl
          · replace hR := ifp c13 hR
            refine lv_goto (tgt := 86) hx hb dX10_bySequences_34 (by decide) ?_
            refine lv_iinc (v := nI (y5_15 + 1)) (lv' := [(5, .int (nI (y5_15 + 1))), (3, .long y3_15), (0, .ref g), (1, .int (nI x)), (2, .int y)]) hx hb dX10_bySequences_86 hl (k := 0) rfl (nI_add y5_15 1) (by decide) rfl (fun ls hl => ?_)
            refine lv_goto (tgt := 15) hx hb dX10_bySequences_89 (by decide) ?_
            exact ih15 (y5_15 + 1) y3_15 _ _ (by omega) (by omega) hR hB _ hl
    exact lp15 _ 0 0 _ _ (by omega) (Nat.lt_succ_self _) hR hB _ hl
  · rw [neqP (a := x) (b := R) (by omega) (by omega)] at c1
    replace hR := ifp c1 hR
    refine lv_lconst (v := 1) hx hb dX10_bySequences_8 (by decide) ?_
    rw [← hQ]
    exact end_l hX hB hA3 rfl (by obtain rfl := hR; exact ⟨rfl, rfl⟩) (Nat.le_of_ble_eq_true rfl) (Nat.le_of_ble_eq_true rfl) dX10_bySequences_9

noncomputable def bsv (R C : Nat) (f : Nat → Int64) (n : Nat) : Nat → Int32 → Int64 := @Nat.rec (fun _ => Nat → Int32 → Int64) (fun x y => D_bs_step0 R C f x y) (fun _ ih x y => D_bs_step R C f x y ih) n
theorem bs_all (κ : Kt) (l : Launch) (w : va_W) (k1 k2 g b R C : Nat) (f : Nat → Int64) (h1 : w[k1]? = some (gO g R C b)) (h2 : w[k2]? = some (lA κ b (R * 5) f)) (hs : shp R C) : ∀ (n x : Nat) (y : Int32), x ≤ R → R - x ≤ n → CM κ l yX10_bySequences cX10_bySequences 7 (some .long) (n + 1) (26 * (n + 1)) 0 0 [.ref g, .int (nI x), .int y] w (fun o w' => o = some (.long (bsv R C f n x y)) ∧ w' = w) := by
  intro n
  induction n with
  | zero => exact fun x y hx hn => k_bs_step0 κ l 0 w k1 k2 g b R C f _ x y h1 h2 hs rfl hx hn _ rfl
  | succ n ih => exact fun x y hx hn => k_bs_step κ l (n + 1) w k1 k2 g b R C f _ x y n (bsv R C f n) h1 h2 hs rfl hx hn hn (fun X Y hX hY => ih X Y hX hY) _ rfl
theorem k_X10_bySequences (κ : Kt) (l : Launch) (w : va_W) (k1 k2 g b R C : Nat) (f : Nat → Int64) (xx : Int32) (x : Nat) (y : Int32) (h1 : w[k1]? = some (gO g R C b)) (h2 : w[k2]? = some (lA κ b (R * 5) f)) (hs : shp R C) (hx : xx = nI x) (hR : x ≤ R) : CM κ l yX10_bySequences cX10_bySequences 7 (some .long) 5 (26 * 5) 0 0 [.ref g, .int xx, .int y] w (fun o w' => o = some (.long (bsv R C f 4 x y)) ∧ w' = w) := by
  subst hx
  exact bs_all κ l w k1 k2 g b R C f h1 h2 hs 4 x y hR (by have := hs.2.1; omega)
end
section
-- 35.rdet
/-! ===== determinants of the reference: what row changes do to them; remainders ===== -/
theorem mf_s {f rec : Nat → Int64} {r y j : Nat} : mfold f rec r y (j + 1) = if y / 2 ^ j % 2 = 0 then mfold f rec r y j else ((mfold f rec r y j).1 + (mfold f rec r y j).2.toInt64 * f (r * 5 + j) * rec (y - 2 ^ j), -(mfold f rec r y j).2) := by
  by_cases c : y / 2 ^ j % 2 = 0
  · simp only [mfold, if_pos c]
  · by_cases z : f (r * 5 + j) = 0
    · simp only [mfold, if_neg c, if_pos z]
      rw [z]
      simp
    · simp only [mfold, if_neg c, if_neg z]
theorem mf_0 {f rec : Nat → Int64} {r y : Nat} : mfold f rec r y 0 = (0, 1) := rfl
theorem t64a : (1 : Int32).toInt64 = 1 := by decide +kernel
theorem t64b : (-1 : Int32).toInt64 = -1 := by decide +kernel
def dt2 (f : Nat → Int64) : Int64 := f 0 * f 6 - f 1 * f 5
def dt3 (f : Nat → Int64) : Int64 := f 0 * (f 6 * f 12 - f 7 * f 11) - f 1 * (f 5 * f 12 - f 7 * f 10) + f 2 * (f 5 * f 11 - f 6 * f 10)
def dt4 (f : Nat → Int64) : Int64 := f 0 * (f 6 * (f 12 * f 18 - f 13 * f 17) - f 7 * (f 11 * f 18 - f 13 * f 16) + f 8 * (f 11 * f 17 - f 12 * f 16)) - f 1 * (f 5 * (f 12 * f 18 - f 13 * f 17) - f 7 * (f 10 * f 18 - f 13 * f 15) + f 8 * (f 10 * f 17 - f 12 * f 15)) + f 2 * (f 5 * (f 11 * f 18 - f 13 * f 16) - f 6 * (f 10 * f 18 - f 13 * f 15) + f 8 * (f 10 * f 16 - f 11 * f 15)) - f 3 * (f 5 * (f 11 * f 17 - f 12 * f 16) - f 6 * (f 10 * f 17 - f 12 * f 15) + f 7 * (f 10 * f 16 - f 11 * f 15))
def dtn (n : Nat) (f : Nat → Int64) : Int64 := match n with
  | 1 => f 0
  | 2 => dt2 f
  | 3 => dt3 f
  | _ => dt4 f
theorem mn1 (f : Nat → Int64) : mnv f 1 1 1 1 = f 0 := by
  simp [mnv, lb, tz]
theorem mn2 (f : Nat → Int64) : mnv f 2 2 3 3 = dt2 f := by
  simp [mnv, mf_s, mf_0, lb, tz, t64a, t64b, dt2]
  grind
theorem mn3 (f : Nat → Int64) : mnv f 3 3 7 7 = dt3 f := by
  simp [mnv, mf_s, mf_0, lb, tz, t64a, t64b, dt3]
  grind
theorem mn4 (f : Nat → Int64) : mnv f 4 4 15 15 = dt4 f := by
  simp [mnv, mf_s, mf_0, lb, tz, t64a, t64b, dt4]
  grind
theorem c4 {n : Nat} (h1 : 1 ≤ n) (h : n ≤ 4) : n = 1 ∨ n = 2 ∨ n = 3 ∨ n = 4 := by omega
theorem l4 {i : Nat} (h : i < 4) : i = 0 ∨ i = 1 ∨ i = 2 ∨ i = 3 := by omega
theorem mn_dt {n : Nat} (h1 : 1 ≤ n) (h : n ≤ 4) (f : Nat → Int64) : mnv f n n (2 ^ n - 1) (2 ^ n - 1) = dtn n f := by
  rcases c4 h1 h with rfl | rfl | rfl | rfl
  · exact mn1 f
  · exact mn2 f
  · exact mn3 f
  · exact mn4 f
theorem dx_xr {n i j : Nat} (h1 : 1 ≤ n) (h : n ≤ 4) (hi : i < n) (hj : j < n) (hij : i ≠ j) (f : Nat → Int64) : dtn n (xr n i j f) = -dtn n f := by
  rcases c4 h1 h with rfl | rfl | rfl | rfl
  · omega
  · rcases l4 (i := i) (by omega) with rfl | rfl | rfl | rfl <;> rcases l4 (i := j) (by omega) with rfl | rfl | rfl | rfl <;> first | (exfalso; omega) | (simp [dtn, dt2, xr]; grind)
  · rcases l4 (i := i) (by omega) with rfl | rfl | rfl | rfl <;> rcases l4 (i := j) (by omega) with rfl | rfl | rfl | rfl <;> first | (exfalso; omega) | (simp [dtn, dt3, xr]; grind)
  · rcases l4 (i := i) (by omega) with rfl | rfl | rfl | rfl <;> rcases l4 (i := j) (by omega) with rfl | rfl | rfl | rfl <;> first | (exfalso; omega) | (simp [dtn, dt4, xr]; grind)
theorem dx_tr {n i : Nat} (h1 : 1 ≤ n) (h : n ≤ 4) (hi : i < n) (f : Nat → Int64) : dtn n (tr n i f) = -dtn n f := by
  rcases c4 h1 h with rfl | rfl | rfl | rfl
  · rcases l4 (i := i) (by omega) with rfl | rfl | rfl | rfl <;> first | (exfalso; omega) | (simp [dtn, tr])
  · rcases l4 (i := i) (by omega) with rfl | rfl | rfl | rfl <;> first | (exfalso; omega) | (simp [dtn, dt2, tr]; grind)
  · rcases l4 (i := i) (by omega) with rfl | rfl | rfl | rfl <;> first | (exfalso; omega) | (simp [dtn, dt3, tr]; grind)
  · rcases l4 (i := i) (by omega) with rfl | rfl | rfl | rfl <;> first | (exfalso; omega) | (simp [dtn, dt4, tr]; grind)
theorem dx_ar {n i j : Nat} (h1 : 1 ≤ n) (h : n ≤ 4) (hi : i < n) (hj : j < n) (hij : i ≠ j) (t : Int64) (f : Nat → Int64) : dtn n (ar n i j t f) = dtn n f := by
  rcases c4 h1 h with rfl | rfl | rfl | rfl
  · omega
  · rcases l4 (i := i) (by omega) with rfl | rfl | rfl | rfl <;> rcases l4 (i := j) (by omega) with rfl | rfl | rfl | rfl <;> first | (exfalso; omega) | (simp [dtn, dt2, ar]; grind)
  · rcases l4 (i := i) (by omega) with rfl | rfl | rfl | rfl <;> rcases l4 (i := j) (by omega) with rfl | rfl | rfl | rfl <;> first | (exfalso; omega) | (simp [dtn, dt3, ar]; grind)
  · rcases l4 (i := i) (by omega) with rfl | rfl | rfl | rfl <;> rcases l4 (i := j) (by omega) with rfl | rfl | rfl | rfl <;> first | (exfalso; omega) | (simp [dtn, dt4, ar]; grind)
/-- below its diagonal nothing, on it no 0, in the first r columns -/
def Tri (R r : Nat) (F : Nat → Int64) : Prop := ∀ j, j < r → F (j * 5 + j) ≠ 0 ∧ ∀ i, j < i → i < R → F (i * 5 + j) = 0
theorem tri_0 {n r : Nat} (h : n ≤ 4) (hr : r < n) {F : Nat → Int64} (hT : Tri n r F) (hz : ∀ i, r ≤ i → i < n → F (i * 5 + r) = 0) : dtn n F = 0 := by
  have z : ∀ i j, j ≤ r → j < i → i < n → F (i * 5 + j) = 0 := fun i j h1 h2 h3 => by
    by_cases e : j = r
    · subst e; exact hz i (by omega) h3
    · exact (hT j (by omega)).2 i h2 h3
  have zr := hz r (Nat.le_refl _) hr
  rcases c4 (n := n) (by omega) h with rfl | rfl | rfl | rfl
  · rcases l4 (i := r) (by omega) with rfl | rfl | rfl | rfl <;> first | (exfalso; omega) | exact zr
  · rcases l4 (i := r) (by omega) with rfl | rfl | rfl | rfl <;> first | (exfalso; omega) | skip
    · have a1 := z 1 0 (by omega) (by omega) (by omega)
      simp [dtn, dt2] at zr a1 ⊢
      grind
    · have a1 := z 1 0 (by omega) (by omega) (by omega)
      simp [dtn, dt2] at zr a1 ⊢
      grind
  · rcases l4 (i := r) (by omega) with rfl | rfl | rfl | rfl <;> first | (exfalso; omega) | skip
    · have a1 := z 1 0 (by omega) (by omega) (by omega)
      have a2 := z 2 0 (by omega) (by omega) (by omega)
      simp [dtn, dt3] at zr a1 a2 ⊢
      grind
    · have a1 := z 1 0 (by omega) (by omega) (by omega)
      have a2 := z 2 0 (by omega) (by omega) (by omega)
      have a3 := z 2 1 (by omega) (by omega) (by omega)
      simp [dtn, dt3] at zr a1 a2 a3 ⊢
      grind
    · have a1 := z 1 0 (by omega) (by omega) (by omega)
      have a2 := z 2 0 (by omega) (by omega) (by omega)
      have a3 := z 2 1 (by omega) (by omega) (by omega)
      simp [dtn, dt3] at zr a1 a2 a3 ⊢
      grind
  · have a1 := z 1 0 (by omega) (by omega) (by omega)
    have a2 := z 2 0 (by omega) (by omega) (by omega)
    have a3 := z 3 0 (by omega) (by omega) (by omega)
    rcases l4 (i := r) (by omega) with rfl | rfl | rfl | rfl
    · simp [dtn, dt4] at zr a1 a2 a3 ⊢
      grind
    · have a4 := z 2 1 (by omega) (by omega) (by omega)
      have a5 := z 3 1 (by omega) (by omega) (by omega)
      simp [dtn, dt4] at zr a1 a2 a3 a4 a5 ⊢
      grind
    · have a4 := z 2 1 (by omega) (by omega) (by omega)
      have a5 := z 3 1 (by omega) (by omega) (by omega)
      have a6 := z 3 2 (by omega) (by omega) (by omega)
      simp [dtn, dt4] at zr a1 a2 a3 a4 a5 a6 ⊢
      grind
    · have a4 := z 2 1 (by omega) (by omega) (by omega)
      have a5 := z 3 1 (by omega) (by omega) (by omega)
      have a6 := z 3 2 (by omega) (by omega) (by omega)
      simp [dtn, dt4] at zr a1 a2 a3 a4 a5 a6 ⊢
      grind
/-- what row changes among the rows from r on keep -/
def RS (R C r : Nat) (f F : Nat → Int64) : Prop := (Tri R r f → Tri R r F) ∧ (R = C → (dtn R F = 0 ↔ dtn R f = 0))
theorem RS.rf {R C r : Nat} {f : Nat → Int64} : RS R C r f f := ⟨fun h => h, fun _ => Iff.rfl⟩
theorem RS.trans {R C r : Nat} {f g k : Nat → Int64} (h1 : RS R C r f g) (h2 : RS R C r g k) : RS R C r f k := ⟨fun h => h2.1 (h1.1 h), fun h => (h2.2 h).trans (h1.2 h)⟩
theorem neg0 {x : Int64} : -x = 0 ↔ x = 0 := by
  constructor
  · intro h
    have := congrArg (fun z => -z) h
    simpa using this
  · rintro rfl
    rfl
theorem RS_xr {R C r i j : Nat} {f : Nat → Int64} (hR : 1 ≤ R ∧ R ≤ 4) (hrC : r ≤ C) (hC : C ≤ 5) (hi : r ≤ i ∧ i < R) (hj : r ≤ j ∧ j < R) (hij : i ≠ j) : RS R C r f (xr C i j f) := by
  refine ⟨fun h a ha => ?_, fun e => ?_⟩
  · obtain ⟨h1, h2⟩ := h a ha
    refine ⟨?_, fun b h3 h4 => ?_⟩
    · unfold xr
      rw [if_neg (by omega), if_neg (by omega)]
      exact h1
    · unfold xr
      have e1 : (b * 5 + a) % 5 = a := by omega
      have e2 : (b * 5 + a) / 5 = b := by omega
      rw [e1, e2]
      split
      · exact h2 j (by omega) hj.2
      · split
        · exact h2 i (by omega) hi.2
        · exact h2 b h3 h4
  · subst e
    rw [dx_xr hR.1 hR.2 hi.2 hj.2 hij]
    exact neg0
theorem RS_tr {R C r i : Nat} {f : Nat → Int64} (hR : 1 ≤ R ∧ R ≤ 4) (hC : C ≤ 5) (hrC : r ≤ C) (hi : r ≤ i ∧ i < R) : RS R C r f (tr C i f) := by
  refine ⟨fun h a ha => ?_, fun e => ?_⟩
  · obtain ⟨h1, h2⟩ := h a ha
    refine ⟨?_, fun b h3 h4 => ?_⟩
    · unfold tr
      rw [if_neg (by omega)]
      exact h1
    · unfold tr
      split
      · rw [h2 b h3 h4]; rfl
      · exact h2 b h3 h4
  · subst e
    rw [dx_tr hR.1 hR.2 hi.2]
    exact neg0
theorem RS_ar {R C r i j : Nat} {t : Int64} {f : Nat → Int64} (hR : 1 ≤ R ∧ R ≤ 4) (hrC : r ≤ C) (hC : C ≤ 5) (hi : i < R) (hj : r ≤ j ∧ j < R) (hij : i ≠ j) : RS R C r f (ar C i j t f) := by
  refine ⟨fun h a ha => ?_, fun e => ?_⟩
  · obtain ⟨h1, h2⟩ := h a ha
    have h5 := h2 j (by omega) hj.2
    have key : ∀ b, ar C i j t f (b * 5 + a) = f (b * 5 + a) := fun b => by
      unfold ar
      have e1 : (b * 5 + a) % 5 = a := by omega
      rw [e1, h5]
      split
      · simp
      · rfl
    exact ⟨by rw [key]; exact h1, fun b h3 h4 => by rw [key]; exact h2 b h3 h4⟩
  · subst e
    rw [dx_ar hR.1 hR.2 hi hj.2 hij]
/-- sizes -/
def na (x : Int64) : Nat := x.toInt.natAbs
theorem na0 {x : Int64} : na x = 0 ↔ x = 0 := by
  unfold na
  rw [Int.natAbs_eq_zero]
  exact ⟨fun h => Int64.toInt_inj.mp h, fun h => by rw [h]; rfl⟩
theorem ng_int {x : Int64} (h : ng x) : -1000000000 ≤ x.toInt ∧ x.toInt ≤ 1000000000 := ⟨Int64.le_iff_toInt_le.mp h.1, Int64.le_iff_toInt_le.mp h.2⟩
theorem neg_int {x : Int64} (h : ng x) : (-x).toInt = -x.toInt := by
  have h1 := ng_int h
  rw [Int64.toInt_neg]
  exact Int.bmod_eq_of_le (by omega) (by omega)
abbrev ab (x : Int64) : Int64 := if 0 < x then x else -x
theorem ab_int {x : Int64} (h : ng x) : (ab x).toInt = na x := by
  have h1 := ng_int h
  unfold ab na
  by_cases c : 0 < x
  · rw [if_pos c]
    have c := Int64.lt_iff_toInt_lt.mp c
    rw [show (0 : Int64).toInt = 0 from rfl] at c
    omega
  · rw [if_neg c, neg_int h]
    have c : ¬ (0 : Int64).toInt < x.toInt := fun z => c (Int64.lt_iff_toInt_lt.mpr z)
    rw [show (0 : Int64).toInt = 0 from rfl] at c
    omega
theorem ab_lt {x y : Int64} (hx : ng x) (hy : ng y) : lg_cmp (ab x) (ab y) < 0 ↔ na x < na y := by
  rw [lg_cmp_lt, Int64.lt_iff_toInt_lt, ab_int hx, ab_int hy]
  omega
theorem xor_sign {x y : Int64} (hy : 0 ≤ y.toInt) : 0 ≤ (x ^^^ y).toInt ↔ 0 ≤ x.toInt := by
  have e1 : (x ^^^ y).toInt = (x.toBitVec ^^^ y.toBitVec).toInt := rfl
  have e2 : x.toInt = x.toBitVec.toInt := rfl
  have e3 : y.toInt = y.toBitVec.toInt := rfl
  have m1 := BitVec.msb_eq_toInt (x := x.toBitVec ^^^ y.toBitVec)
  have m2 := BitVec.msb_eq_toInt (x := x.toBitVec)
  have m3 := BitVec.msb_eq_toInt (x := y.toBitVec)
  rw [BitVec.msb_xor, m2, m3] at m1
  rw [e3] at hy
  rw [e1, e2]
  have d3 : decide (y.toBitVec.toInt < 0) = false := by simp; omega
  rw [d3, Bool.xor_false] at m1
  have := decide_eq_decide.mp m1
  omega
theorem lg0 {x : Int64} : lg_cmp x 0 = 0 ↔ x = 0 := lg_cmp_eq x 0
/-- what is left of x when p has been taken off as often as it goes -/
def rmf (x p : Int64) : Int64 := x + -(fdv x p) * p
theorem rmf_eq {x p : Int64} : rmf x p = x - fdv x p * p := by
  unfold rmf
  grind
theorem rmf_rem {x p : Int64} (hp : 0 < p.toInt) : rmf x p = x - x / p * p ∧ 0 ≤ (x - x / p * p).toInt ∨ rmf x p = x - x / p * p + p ∧ (x - x / p * p).toInt < 0 := by
  have h0 : ¬ p = 0 := fun e => by rw [e] at hp; exact absurd hp (by decide)
  have hr := rem_int (x := x) h0
  rw [rmf_eq]
  unfold fdv
  by_cases c1 : 0 ≤ lg_cmp (x ^^^ p) 0
  · rw [if_pos c1]
    have c2 := Int64.le_iff_toInt_le.mp ((lg_cmp_ge _ _).mp c1)
    rw [show (0 : Int64).toInt = 0 from rfl] at c2
    have c3 := (xor_sign (by omega)).mp c2
    refine Or.inl ⟨rfl, ?_⟩
    rw [hr]
    exact Int.tmod_nonneg _ c3
  · rw [if_neg c1]
    by_cases c2 : lg_cmp (x / p * p) x = 0
    · rw [if_pos c2]
      have c3 := (lg_cmp_eq _ _).mp c2
      refine Or.inl ⟨rfl, ?_⟩
      rw [c3]
      simp
    · rw [if_neg c2]
      have c3 : ¬ x / p * p = x := fun e => c2 ((lg_cmp_eq _ _).mpr e)
      have c4 : ¬ 0 ≤ x.toInt := fun z => c1 ((lg_cmp_ge _ _).mpr (Int64.le_iff_toInt_le.mpr ((xor_sign (by omega)).mpr z)))
      refine Or.inr ⟨by grind, ?_⟩
      have c5 : x - x / p * p ≠ 0 := fun e => c3 (by grind)
      have c6 : (x - x / p * p).toInt ≠ 0 := fun e => c5 (Int64.toInt_inj.mp e)
      rw [hr] at c6 ⊢
      have c7 := Int.tmod_nonneg p.toInt (a := -x.toInt) (by omega)
      rw [Int.neg_tmod] at c7
      omega
theorem rmf_int {x p : Int64} (hp : 0 < p.toInt) : 0 ≤ (rmf x p).toInt ∧ (rmf x p).toInt < p.toInt := by
  have h0 : ¬ p = 0 := fun e => by rw [e] at hp; exact absurd hp (by decide)
  have ha := rem_abs (x := x) h0
  have hl : x.toInt.natAbs % p.toInt.natAbs < p.toInt.natAbs := Nat.mod_lt _ (by omega)
  rcases rmf_rem (x := x) hp with ⟨e, h⟩ | ⟨e, h⟩
  · rw [e]
    omega
  · rw [e, Int64.toInt_add]
    have h1 := Int64.toInt_lt p
    rw [Int.bmod_eq_of_le (by omega) (by omega)]
    omega
theorem rmf_ne {x p : Int64} (hp : 0 < p.toInt) (h : ¬ x - x / p * p = 0) : rmf x p ≠ 0 := by
  rcases rmf_rem (x := x) hp with ⟨e, _⟩ | ⟨e, h2⟩
  · rw [e]; exact h
  · intro z
    have h0 : ¬ p = 0 := fun e => by rw [e] at hp; exact absurd hp (by decide)
    have ha := rem_abs (x := x) h0
    have hl : x.toInt.natAbs % p.toInt.natAbs < p.toInt.natAbs := Nat.mod_lt _ (by omega)
    have h1 := Int64.toInt_lt p
    have := congrArg Int64.toInt (e.symm.trans z)
    rw [Int64.toInt_add, Int.bmod_eq_of_le (by omega) (by omega), show (0 : Int64).toInt = 0 from rfl] at this
    omega
end
section
-- 36.rstep
theorem nI_m1 {m : Nat} (h : m < 2 ^ 31) : ¬ nI m = -1 := by
  intro e
  have h1 := nI_pos h
  rw [e] at h1
  exact h1 (by decide)
theorem tk_b0 {f2 : Nat → Int64} {i r c0 : Nat} {i2 : Int32} (h : lg_cmp (fdv (f2 (i * 5 + c0)) (f2 (r * 5 + c0))) 0 = 0 ∨ ¬ i2 = 0) : i2 = 0 → i2 = 0 ∧ f2 (i * 5 + c0) = rmf (f2 (i * 5 + c0)) (f2 (r * 5 + c0)) := by
  intro h0
  refine ⟨h0, ?_⟩
  have h1 := lg0.mp (h.resolve_right (fun z => z h0))
  unfold rmf
  rw [h1]
  grind
theorem tk_b1 {f2 : Nat → Int64} {i r c0 C : Nat} (hc : c0 < C) (hC : C ≤ 5) : ar C i r (-(fdv (f2 (i * 5 + c0)) (f2 (r * 5 + c0)))) f2 (i * 5 + c0) = rmf (f2 (i * 5 + c0)) (f2 (r * 5 + c0)) := by
  unfold ar rmf
  rw [if_pos (by omega), show (i * 5 + c0) % 5 = c0 by omega]

noncomputable def D_X8_takeOff (R : Nat) (C : Nat) (f1 : Nat → Int64) (f2 : Nat → Int64) (i1 : Int32) (i2 : Int32) (i : Nat) (r : Nat) (c0 : Nat) : (Nat → Int64) × (Nat → Int64) × Int32 × Int32 := (if (lg_cmp (fdv (f2 (i * 5 + c0)) (f2 (r * 5 + c0))) 0) = 0 then (f1, f2, i1, i2) else (if i2 = 0 then bnd1 (D_X7_isGreat R C (ar C i r (-(fdv (f2 (i * 5 + c0)) (f2 (r * 5 + c0)))) f2)) (fun (x4 : Int32) => (if x4 = 0 then bnd1 (D_X7_isGreat R R (ar R i r (-(fdv (f2 (i * 5 + c0)) (f2 (r * 5 + c0)))) f1)) (fun (x9 : Int32) => (if x9 = 0 then (ar R i r (-(fdv (f2 (i * 5 + c0)) (f2 (r * 5 + c0)))) f1, ar C i r (-(fdv (f2 (i * 5 + c0)) (f2 (r * 5 + c0)))) f2, i1, 0) else (ar R i r (-(fdv (f2 (i * 5 + c0)) (f2 (r * 5 + c0)))) f1, ar C i r (-(fdv (f2 (i * 5 + c0)) (f2 (r * 5 + c0)))) f2, i1, 1))) else (ar R i r (-(fdv (f2 (i * 5 + c0)) (f2 (r * 5 + c0)))) f1, ar C i r (-(fdv (f2 (i * 5 + c0)) (f2 (r * 5 + c0)))) f2, i1, 1))) else (f1, f2, i1, i2)))
theorem D_X8_takeOff_s {R : Nat} {C : Nat} {f1 : Nat → Int64} {f2 : Nat → Int64} {i1 : Int32} {i2 : Int32} {i : Nat} {r : Nat} {c0 : Nat} : D_X8_takeOff R C f1 f2 i1 i2 i r c0 = (if (lg_cmp (fdv (f2 (i * 5 + c0)) (f2 (r * 5 + c0))) 0) = 0 then (f1, f2, i1, i2) else (if i2 = 0 then bnd1 (D_X7_isGreat R C (ar C i r (-(fdv (f2 (i * 5 + c0)) (f2 (r * 5 + c0)))) f2)) (fun (x4 : Int32) => (if x4 = 0 then bnd1 (D_X7_isGreat R R (ar R i r (-(fdv (f2 (i * 5 + c0)) (f2 (r * 5 + c0)))) f1)) (fun (x9 : Int32) => (if x9 = 0 then (ar R i r (-(fdv (f2 (i * 5 + c0)) (f2 (r * 5 + c0)))) f1, ar C i r (-(fdv (f2 (i * 5 + c0)) (f2 (r * 5 + c0)))) f2, i1, 0) else (ar R i r (-(fdv (f2 (i * 5 + c0)) (f2 (r * 5 + c0)))) f1, ar C i r (-(fdv (f2 (i * 5 + c0)) (f2 (r * 5 + c0)))) f2, i1, 1))) else (ar R i r (-(fdv (f2 (i * 5 + c0)) (f2 (r * 5 + c0)))) f1, ar C i r (-(fdv (f2 (i * 5 + c0)) (f2 (r * 5 + c0)))) f2, i1, 1))) else (f1, f2, i1, i2))) := rfl
set_option maxHeartbeats 4000000 in
set_option maxRecDepth 100000 in
theorem k_X8_takeOff (κ : Kt) (l : Launch) (w : va_W) (s_0 g_c b_c g_w b_w R C : Nat) (f1 f2 : Nat → Int64) (i1 i2 : Int32) (xi : Int32) (i : Nat) (xr : Int32) (r : Nat) (xc0 : Int32) (c0 : Nat) (hs : shp R C) (hxi : xi = nI i) (hxr : xr = nI r) (hxc0 : xc0 = nI c0) (hi : i < R) (hr : r < R) (hc0 : c0 < C) (hne : i ≠ r) (hpv : f2 (r * 5 + c0) ≠ 0) (o_F1 : Nat → Int64) (o_F2 : Nat → Int64) (o_S1 : Int32) (o_G1 : Int32) (hR : D_X8_takeOff R C f1 f2 i1 i2 i r c0 = (o_F1, o_F2, o_S1, o_G1)) : CM κ l yX8_takeOff cX8_takeOff 6 (none) 2 49 0 0 [.ref s_0, .int xi, .int xr, .int xc0] (lA κ b_c (R * 5) f1 :: gO g_c R R b_c :: lA κ b_w (R * 5) f2 :: gO g_w R C b_w :: (s_0, .inr (9, [.ref g_w, .ref g_c, .int i1, .int i2])) :: w) (fun o w' => o = none ∧ (o_F2 = f2 ∨ o_F2 = ar C i r (-(fdv (f2 (i * 5 + c0)) (f2 (r * 5 + c0)))) f2) ∧ (o_G1 = 0 → i2 = 0 ∧ o_F2 (i * 5 + c0) = rmf (f2 (i * 5 + c0)) (f2 (r * 5 + c0))) ∧ (o_G1 = 0 → o_F2 = f2 ∨ ∀ k, k < R * 5 → ng (o_F2 k)) ∧ w' = lA κ b_c (R * 5) o_F1 :: gO g_c R R b_c :: lA κ b_w (R * 5) o_F2 :: gO g_w R C b_w :: (s_0, .inr (9, [.ref g_w, .ref g_c, .int o_S1, .int o_G1])) :: w) := by
  have hs0 := hs
  obtain ⟨hs1, hs2, hs3, hs4⟩ := hs0
  subst hxi
  subst hxr
  subst hxc0
  refine CM_begin (plainFor_of_name pn_RX8) (Nat.le_of_ble_eq_true rfl) ?_
  intro p e s m args below meth c A Q hX hnm hA3 hQ hB ls hl
  have hx := hX.1.1
  have hb := hX.1.2.1
  have hl : lv_has ls 6 [(0, .ref s_0), (1, .int (nI i)), (2, .int (nI r)), (3, .int (nI c0))] := hl
  replace hR := (D_X8_takeOff_s).symm.trans hR
  refine lv_aload_n hx hb dX8_takeOff_0 rfl (lv_at hl 0 rfl) ?_
  refine gf (k0 := 4) hX hB rfl rfl in8 0 (by decide) wm_6_159 rfl rfl dX8_takeOff_1 ?_
  refine lv_iload_n hx hb dX8_takeOff_4 rfl (lv_at hl 1 rfl) ?_
  refine lv_iload_n hx hb dX8_takeOff_5 rfl (lv_at hl 3 rfl) ?_
  refine call_V (n := 2) (k0 := 3) (As := [.int (nI i), .int (nI c0)]) (rest := []) hX hB (k_X7_at κ l (lA κ b_c (R * 5) f1 :: gO g_c R R b_c :: lA κ b_w (R * 5) f2 :: gO g_w R C b_w :: (s_0, .inr (9, [.ref g_w, .ref g_c, .int i1, .int i2])) :: w) 3 2 g_w b_w R C f2 (nI i) i (nI c0) c0 rfl rfl hs rfl rfl (by omega)) ⟨rfl, yk_X7_at⟩ wm_6_143 wm_5_238 wm_5_239 wm_1_7 wm_6_0 ⟨Nat.le_of_ble_eq_true rfl, Nat.le_of_ble_eq_true rfl⟩ ⟨Nat.le_of_ble_eq_true rfl, Nat.le_of_ble_eq_true rfl⟩ rfl rfl rfl rfl hl.1 rfl (Nat.le_of_ble_eq_true rfl) dX8_takeOff_6 (fun o w' H locs hp hB => ?_)
  obtain ⟨rfl, hw9⟩ := hp
  replace hB : Bd κ A s (lA κ b_c (R * 5) f1 :: gO g_c R R b_c :: lA κ b_w (R * 5) f2 :: gO g_w R C b_w :: (s_0, .inr (9, [.ref g_w, .ref g_c, .int i1, .int i2])) :: w) H locs := by rw [hw9] at hB; exact hB
  refine W.eq (g2 := F0 m 9 ls [.long (f2 (i * 5 + c0))]) rfl ?_
  refine lv_aload_n hx hb dX8_takeOff_9 rfl (lv_at hl 0 rfl) ?_
  refine gf (k0 := 4) hX hB rfl rfl in8 0 (by decide) wm_6_159 rfl rfl dX8_takeOff_10 ?_
  refine lv_iload_n hx hb dX8_takeOff_13 rfl (lv_at hl 2 rfl) ?_
  refine lv_iload_n hx hb dX8_takeOff_14 rfl (lv_at hl 3 rfl) ?_
  refine call_V (n := 2) (k0 := 3) (As := [.int (nI r), .int (nI c0)]) (rest := [.long (f2 (i * 5 + c0))]) hX hB (k_X7_at κ l (lA κ b_c (R * 5) f1 :: gO g_c R R b_c :: lA κ b_w (R * 5) f2 :: gO g_w R C b_w :: (s_0, .inr (9, [.ref g_w, .ref g_c, .int i1, .int i2])) :: w) 3 2 g_w b_w R C f2 (nI r) r (nI c0) c0 rfl rfl hs rfl rfl (by omega)) ⟨rfl, yk_X7_at⟩ wm_6_143 wm_5_238 wm_5_239 wm_1_7 wm_6_0 ⟨Nat.le_of_ble_eq_true rfl, Nat.le_of_ble_eq_true rfl⟩ ⟨Nat.le_of_ble_eq_true rfl, Nat.le_of_ble_eq_true rfl⟩ rfl rfl rfl rfl hl.1 rfl (Nat.le_of_ble_eq_true rfl) dX8_takeOff_15 (fun o w' H locs hp hB => ?_)
  obtain ⟨rfl, hw9⟩ := hp
  replace hB : Bd κ A s (lA κ b_c (R * 5) f1 :: gO g_c R R b_c :: lA κ b_w (R * 5) f2 :: gO g_w R C b_w :: (s_0, .inr (9, [.ref g_w, .ref g_c, .int i1, .int i2])) :: w) H locs := by rw [hw9] at hB; exact hB
  refine W.eq (g2 := F0 m 18 ls [.long (f2 (r * 5 + c0)), .long (f2 (i * 5 + c0))]) rfl ?_
  refine call_S (n := 2) (As := [.long (f2 (i * 5 + c0)), .long (f2 (r * 5 + c0))]) (rest := []) hX hB (k_J9_floorDiv_f86c9 κ l (lA κ b_c (R * 5) f1 :: gO g_c R R b_c :: lA κ b_w (R * 5) f2 :: gO g_w R C b_w :: (s_0, .inr (9, [.ref g_w, .ref g_c, .int i1, .int i2])) :: w) (f2 (i * 5 + c0)) (f2 (r * 5 + c0)) hpv) yk_J9_floorDiv_f86c9 wm_6_151 wm_2_20 wm_1_14 wm_2_21 ⟨Nat.le_of_ble_eq_true rfl, Nat.le_of_ble_eq_true rfl⟩ ⟨Nat.le_of_ble_eq_true rfl, Nat.le_of_ble_eq_true rfl⟩ rfl hl.1 rfl (Nat.le_of_ble_eq_true rfl) dX8_takeOff_18 (fun o w' H locs hp hB => ?_)
  obtain ⟨x1, rfl, ex1, hw9⟩ := hp
  rw [hw9] at hB
  subst ex1
  refine W.eq (g2 := F0 m 21 ls [.long (fdv (f2 (i * 5 + c0)) (f2 (r * 5 + c0)))]) rfl ?_
  refine lv_lstore (lv' := [(4, .long (fdv (f2 (i * 5 + c0)) (f2 (r * 5 + c0)))), (0, .ref s_0), (1, .int (nI i)), (2, .int (nI r)), (3, .int (nI c0))]) hx hb dX8_takeOff_21 hl (by decide) rfl (fun ls hl => ?_)
  refine lv_lload hx hb dX8_takeOff_23 (lv_at hl 0 rfl) ?_
  refine lv_lconst (v := 0) hx hb dX8_takeOff_25 (by decide) ?_
  refine W.lcmp hx hb dX8_takeOff_26 ?_
  refine lv_if_eq (tgt := 37) hx hb dX8_takeOff_27 (by decide) (fun c2 => ?_) (fun c2 => ?_)
  · replace hR := ifp c2 hR
    rw [← hQ]
    exact end_v hX hB hA3 rfl (by obtain ⟨rfl, rfl, rfl, rfl⟩ := pr4 hR; exact ⟨rfl, Or.inl rfl, tk_b0 (by first | exact Or.inl (by assumption) | exact Or.inr (by assumption)), (fun _ => Or.inl rfl), rfl⟩) (Nat.le_of_ble_eq_true rfl) (Nat.le_of_ble_eq_true rfl) dX8_takeOff_37
  · replace hR := ifn c2 hR
    refine lv_aload_n hx hb dX8_takeOff_30 rfl (lv_at hl 1 rfl) ?_
    refine gf (k0 := 4) hX hB rfl rfl in8 3 (by decide) wm_6_165 rfl rfl dX8_takeOff_31 ?_
    refine lv_if_eq (tgt := 38) hx hb dX8_takeOff_34 (by decide) (fun c3 => ?_) (fun c3 => ?_)
    · replace hR := ifp c3 hR
      refine lv_aload_n hx hb dX8_takeOff_38 rfl (lv_at hl 1 rfl) ?_
      refine gf (k0 := 4) hX hB rfl rfl in8 0 (by decide) wm_6_159 rfl rfl dX8_takeOff_39 ?_
      refine lv_iload_n hx hb dX8_takeOff_42 rfl (lv_at hl 2 rfl) ?_
      refine lv_iload_n hx hb dX8_takeOff_43 rfl (lv_at hl 3 rfl) ?_
      refine lv_lload hx hb dX8_takeOff_44 (lv_at hl 0 rfl) ?_
      refine lv_lneg hx hb dX8_takeOff_46 ?_
      refine call_V (n := 3) (k0 := 3) (As := [.int (nI i), .int (nI r), .long (-(fdv (f2 (i * 5 + c0)) (f2 (r * 5 + c0))))]) (rest := []) hX hB (k_X7_addRow κ l (lA κ b_c (R * 5) f1 :: gO g_c R R b_c :: lA κ b_w (R * 5) f2 :: gO g_w R C b_w :: (s_0, .inr (9, [.ref g_w, .ref g_c, .int i1, .int i2])) :: w) 3 2 g_w b_w R C f2 (nI i) i (nI r) r (-(fdv (f2 (i * 5 + c0)) (f2 (r * 5 + c0)))) rfl rfl hs rfl rfl (by omega) (by omega) (by omega)) ⟨rfl, yk_X7_addRow⟩ wm_6_152 wm_6_80 wm_6_81 wm_1_7 wm_6_82 ⟨Nat.le_of_ble_eq_true rfl, Nat.le_of_ble_eq_true rfl⟩ ⟨Nat.le_of_ble_eq_true rfl, Nat.le_of_ble_eq_true rfl⟩ rfl rfl rfl rfl hl.1 rfl (Nat.le_of_ble_eq_true rfl) dX8_takeOff_47 (fun o w' H locs hp hB => ?_)
      obtain ⟨rfl, hw9⟩ := hp
      replace hB : Bd κ A s (lA κ b_c (R * 5) f1 :: gO g_c R R b_c :: lA κ b_w (R * 5) (ar C i r (-(fdv (f2 (i * 5 + c0)) (f2 (r * 5 + c0)))) f2) :: gO g_w R C b_w :: (s_0, .inr (9, [.ref g_w, .ref g_c, .int i1, .int i2])) :: w) H locs := by rw [hw9] at hB; exact hB
      refine W.eq (g2 := F0 m 50 ls []) rfl ?_
      refine lv_aload_n hx hb dX8_takeOff_50 rfl (lv_at hl 1 rfl) ?_
      refine gf (k0 := 4) hX hB rfl rfl in8 1 (by decide) wm_6_161 rfl rfl dX8_takeOff_51 ?_
      refine lv_iload_n hx hb dX8_takeOff_54 rfl (lv_at hl 2 rfl) ?_
      refine lv_iload_n hx hb dX8_takeOff_55 rfl (lv_at hl 3 rfl) ?_
      refine lv_lload hx hb dX8_takeOff_56 (lv_at hl 0 rfl) ?_
      refine lv_lneg hx hb dX8_takeOff_58 ?_
      refine call_V (n := 3) (k0 := 1) (As := [.int (nI i), .int (nI r), .long (-(fdv (f2 (i * 5 + c0)) (f2 (r * 5 + c0))))]) (rest := []) hX hB (k_X7_addRow κ l (lA κ b_c (R * 5) f1 :: gO g_c R R b_c :: lA κ b_w (R * 5) (ar C i r (-(fdv (f2 (i * 5 + c0)) (f2 (r * 5 + c0)))) f2) :: gO g_w R C b_w :: (s_0, .inr (9, [.ref g_w, .ref g_c, .int i1, .int i2])) :: w) 1 0 g_c b_c R R f1 (nI i) i (nI r) r (-(fdv (f2 (i * 5 + c0)) (f2 (r * 5 + c0)))) rfl rfl ⟨by omega, by omega, by omega, by omega⟩ rfl rfl (by omega) (by omega) (by omega)) ⟨rfl, yk_X7_addRow⟩ wm_6_152 wm_6_80 wm_6_81 wm_1_7 wm_6_82 ⟨Nat.le_of_ble_eq_true rfl, Nat.le_of_ble_eq_true rfl⟩ ⟨Nat.le_of_ble_eq_true rfl, Nat.le_of_ble_eq_true rfl⟩ rfl rfl rfl rfl hl.1 rfl (Nat.le_of_ble_eq_true rfl) dX8_takeOff_59 (fun o w' H locs hp hB => ?_)
      obtain ⟨rfl, hw9⟩ := hp
      replace hB : Bd κ A s (lA κ b_c (R * 5) (ar R i r (-(fdv (f2 (i * 5 + c0)) (f2 (r * 5 + c0)))) f1) :: gO g_c R R b_c :: lA κ b_w (R * 5) (ar C i r (-(fdv (f2 (i * 5 + c0)) (f2 (r * 5 + c0)))) f2) :: gO g_w R C b_w :: (s_0, .inr (9, [.ref g_w, .ref g_c, .int i1, .int i2])) :: w) H locs := by rw [hw9] at hB; exact hB
      refine W.eq (g2 := F0 m 62 ls []) rfl ?_
      refine lv_aload_n hx hb dX8_takeOff_62 rfl (lv_at hl 1 rfl) ?_
      refine lv_aload_n hx hb dX8_takeOff_63 rfl (lv_at hl 1 rfl) ?_
      refine gf (k0 := 4) hX hB rfl rfl in8 0 (by decide) wm_6_159 rfl rfl dX8_takeOff_64 ?_
      obtain ⟨x4, hd5⟩ := ex1 (D_X7_isGreat R C (ar C i r (-(fdv (f2 (i * 5 + c0)) (f2 (r * 5 + c0)))) f2))
      replace hR := bnd1_use hd5 hR
      refine call_V (n := 0) (k0 := 3) (As := []) (rest := [.ref s_0]) hX hB (k_X7_isGreat κ l (lA κ b_c (R * 5) (ar R i r (-(fdv (f2 (i * 5 + c0)) (f2 (r * 5 + c0)))) f1) :: gO g_c R R b_c :: lA κ b_w (R * 5) (ar C i r (-(fdv (f2 (i * 5 + c0)) (f2 (r * 5 + c0)))) f2) :: gO g_w R C b_w :: (s_0, .inr (9, [.ref g_w, .ref g_c, .int i1, .int i2])) :: w) 3 2 g_w b_w R C (ar C i r (-(fdv (f2 (i * 5 + c0)) (f2 (r * 5 + c0)))) f2) rfl rfl hs x4 hd5) ⟨rfl, yk_X7_isGreat⟩ wm_6_153 wm_6_154 wm_6_155 wm_1_7 wm_6_156 ⟨Nat.le_of_ble_eq_true rfl, Nat.le_of_ble_eq_true rfl⟩ ⟨Nat.le_of_ble_eq_true rfl, Nat.le_of_ble_eq_true rfl⟩ rfl rfl rfl rfl hl.1 rfl (Nat.le_of_ble_eq_true rfl) dX8_takeOff_67 (fun o w' H locs hp hB => ?_)
      obtain ⟨rfl, hf6, hf7, hw9⟩ := hp
      replace hB : Bd κ A s (lA κ b_c (R * 5) (ar R i r (-(fdv (f2 (i * 5 + c0)) (f2 (r * 5 + c0)))) f1) :: gO g_c R R b_c :: lA κ b_w (R * 5) (ar C i r (-(fdv (f2 (i * 5 + c0)) (f2 (r * 5 + c0)))) f2) :: gO g_w R C b_w :: (s_0, .inr (9, [.ref g_w, .ref g_c, .int i1, .int i2])) :: w) H locs := by rw [hw9] at hB; exact hB
      rcases hf6 with rfl | rfl
      · replace hR := ifp rfl hR
        refine W.eq (g2 := F0 m 70 ls [.int 0, .ref s_0]) rfl ?_
        refine lv_if_ne (tgt := 83) hx hb dX8_takeOff_70 (by decide) (fun c8 => False.elim (by revert c8; decide)) (fun _ => ?_)
        refine lv_aload_n hx hb dX8_takeOff_73 rfl (lv_at hl 1 rfl) ?_
        refine gf (k0 := 4) hX hB rfl rfl in8 1 (by decide) wm_6_161 rfl rfl dX8_takeOff_74 ?_
        obtain ⟨x9, hd10⟩ := ex1 (D_X7_isGreat R R (ar R i r (-(fdv (f2 (i * 5 + c0)) (f2 (r * 5 + c0)))) f1))
        replace hR := bnd1_use hd10 hR
        refine call_V (n := 0) (k0 := 1) (As := []) (rest := [.ref s_0]) hX hB (k_X7_isGreat κ l (lA κ b_c (R * 5) (ar R i r (-(fdv (f2 (i * 5 + c0)) (f2 (r * 5 + c0)))) f1) :: gO g_c R R b_c :: lA κ b_w (R * 5) (ar C i r (-(fdv (f2 (i * 5 + c0)) (f2 (r * 5 + c0)))) f2) :: gO g_w R C b_w :: (s_0, .inr (9, [.ref g_w, .ref g_c, .int i1, .int i2])) :: w) 1 0 g_c b_c R R (ar R i r (-(fdv (f2 (i * 5 + c0)) (f2 (r * 5 + c0)))) f1) rfl rfl ⟨by omega, by omega, by omega, by omega⟩ x9 hd10) ⟨rfl, yk_X7_isGreat⟩ wm_6_153 wm_6_154 wm_6_155 wm_1_7 wm_6_156 ⟨Nat.le_of_ble_eq_true rfl, Nat.le_of_ble_eq_true rfl⟩ ⟨Nat.le_of_ble_eq_true rfl, Nat.le_of_ble_eq_true rfl⟩ rfl rfl rfl rfl hl.1 rfl (Nat.le_of_ble_eq_true rfl) dX8_takeOff_77 (fun o w' H locs hp hB => ?_)
        obtain ⟨rfl, hf11, hf12, hw9⟩ := hp
        replace hB : Bd κ A s (lA κ b_c (R * 5) (ar R i r (-(fdv (f2 (i * 5 + c0)) (f2 (r * 5 + c0)))) f1) :: gO g_c R R b_c :: lA κ b_w (R * 5) (ar C i r (-(fdv (f2 (i * 5 + c0)) (f2 (r * 5 + c0)))) f2) :: gO g_w R C b_w :: (s_0, .inr (9, [.ref g_w, .ref g_c, .int i1, .int i2])) :: w) H locs := by rw [hw9] at hB; exact hB
        rcases hf11 with rfl | rfl
        · replace hR := ifp rfl hR
          refine W.eq (g2 := F0 m 80 ls [.int 0, .ref s_0]) rfl ?_
          refine lv_if_eq (tgt := 87) hx hb dX8_takeOff_80 (by decide) (fun _ => ?_) (fun c13 => False.elim (by revert c13; decide))
          refine lv_iconst (v := 0) hx hb dX8_takeOff_87 (by decide) ?_
          refine pf (ty := .boolean) (k0 := 4) hX hB rfl rfl in8 tyX8_ok nmX8 3 (by decide) wm_6_165 rfl rfl rfl rfl rfl (Nat.le_of_ble_eq_true rfl) (w1 := lA κ b_c (R * 5) (ar R i r (-(fdv (f2 (i * 5 + c0)) (f2 (r * 5 + c0)))) f1) :: gO g_c R R b_c :: lA κ b_w (R * 5) (ar C i r (-(fdv (f2 (i * 5 + c0)) (f2 (r * 5 + c0)))) f2) :: gO g_w R C b_w :: (s_0, .inr (9, [.ref g_w, .ref g_c, .int i1, .int 0])) :: w) rfl dX8_takeOff_88 (fun H locs hB => ?_)
          rw [← hQ]
          exact end_v hX hB hA3 rfl (by obtain ⟨rfl, rfl, rfl, rfl⟩ := pr4 hR; exact ⟨rfl, Or.inr rfl, fun _ => ⟨by assumption, tk_b1 (by omega) (by omega)⟩, (fun _ => Or.inr (hf7 rfl)), rfl⟩) (Nat.le_of_ble_eq_true rfl) (Nat.le_of_ble_eq_true rfl) dX8_takeOff_91
        · replace hR := ifn (by decide) hR
          refine W.eq (g2 := F0 m 80 ls [.int 1, .ref s_0]) rfl ?_
          refine lv_if_eq (tgt := 87) hx hb dX8_takeOff_80 (by decide) (fun c14 => False.elim (by revert c14; decide)) (fun _ => ?_)
          refine lv_iconst (v := 1) hx hb dX8_takeOff_83 (by decide) ?_
          refine lv_goto (tgt := 88) hx hb dX8_takeOff_84 (by decide) ?_
          refine pf (ty := .boolean) (k0 := 4) hX hB rfl rfl in8 tyX8_ok nmX8 3 (by decide) wm_6_165 rfl rfl rfl rfl rfl (Nat.le_of_ble_eq_true rfl) (w1 := lA κ b_c (R * 5) (ar R i r (-(fdv (f2 (i * 5 + c0)) (f2 (r * 5 + c0)))) f1) :: gO g_c R R b_c :: lA κ b_w (R * 5) (ar C i r (-(fdv (f2 (i * 5 + c0)) (f2 (r * 5 + c0)))) f2) :: gO g_w R C b_w :: (s_0, .inr (9, [.ref g_w, .ref g_c, .int i1, .int 1])) :: w) rfl dX8_takeOff_88 (fun H locs hB => ?_)
          rw [← hQ]
          exact end_v hX hB hA3 rfl (by obtain ⟨rfl, rfl, rfl, rfl⟩ := pr4 hR; exact ⟨rfl, Or.inr rfl, fun h => absurd h (by decide), (fun h => absurd h (by decide)), rfl⟩) (Nat.le_of_ble_eq_true rfl) (Nat.le_of_ble_eq_true rfl) dX8_takeOff_91
      · replace hR := ifn (by decide) hR
        refine W.eq (g2 := F0 m 70 ls [.int 1, .ref s_0]) rfl ?_
        refine lv_if_ne (tgt := 83) hx hb dX8_takeOff_70 (by decide) (fun _ => ?_) (fun c15 => False.elim (by revert c15; decide))
        refine lv_iconst (v := 1) hx hb dX8_takeOff_83 (by decide) ?_
        refine lv_goto (tgt := 88) hx hb dX8_takeOff_84 (by decide) ?_
        refine pf (ty := .boolean) (k0 := 4) hX hB rfl rfl in8 tyX8_ok nmX8 3 (by decide) wm_6_165 rfl rfl rfl rfl rfl (Nat.le_of_ble_eq_true rfl) (w1 := lA κ b_c (R * 5) (ar R i r (-(fdv (f2 (i * 5 + c0)) (f2 (r * 5 + c0)))) f1) :: gO g_c R R b_c :: lA κ b_w (R * 5) (ar C i r (-(fdv (f2 (i * 5 + c0)) (f2 (r * 5 + c0)))) f2) :: gO g_w R C b_w :: (s_0, .inr (9, [.ref g_w, .ref g_c, .int i1, .int 1])) :: w) rfl dX8_takeOff_88 (fun H locs hB => ?_)
        rw [← hQ]
        exact end_v hX hB hA3 rfl (by obtain ⟨rfl, rfl, rfl, rfl⟩ := pr4 hR; exact ⟨rfl, Or.inr rfl, fun h => absurd h (by decide), (fun h => absurd h (by decide)), rfl⟩) (Nat.le_of_ble_eq_true rfl) (Nat.le_of_ble_eq_true rfl) dX8_takeOff_91
    · replace hR := ifn c3 hR
      rw [← hQ]
      exact end_v hX hB hA3 rfl (by obtain ⟨rfl, rfl, rfl, rfl⟩ := pr4 hR; exact ⟨rfl, Or.inl rfl, tk_b0 (by first | exact Or.inl (by assumption) | exact Or.inr (by assumption)), (fun _ => Or.inl rfl), rfl⟩) (Nat.le_of_ble_eq_true rfl) (Nat.le_of_ble_eq_true rfl) dX8_takeOff_37

def PM (R r c0 N : Nat) (F : Nat → Int64) : Prop := (∀ i, r ≤ i → i < R → F (i * 5 + c0) = 0) ∨ ∃ i, r ≤ i ∧ i < R ∧ F (i * 5 + c0) ≠ 0 ∧ na (F (i * 5 + c0)) ≤ N
theorem PM_ex (R r c0 : Nat) (F : Nat → Int64) (hc : c0 < 5) (hng : ∀ k, k < R * 5 → ng (F k)) : ∃ N, N ≤ 1000000000 ∧ PM R r c0 N F := by
  by_cases h : ∀ i, r ≤ i → i < R → F (i * 5 + c0) = 0
  · exact ⟨0, Nat.zero_le _, Or.inl h⟩
  · have ⟨i, hi⟩ := Classical.not_forall.mp h
    have ⟨h1, h2⟩ := Classical.not_imp.mp hi
    have ⟨h3, h4⟩ := Classical.not_imp.mp h2
    have h5 := ng_int (hng (i * 5 + c0) (by omega))
    exact ⟨na (F (i * 5 + c0)), by unfold na; omega, Or.inr ⟨i, h1, h3, h4, Nat.le_refl _⟩⟩
/-- the least so far in a column, from row r to row y -/
def LPr (R r c0 : Nat) (F : Nat → Int64) (y : Nat) (x : Int32) : Prop := (x = -1 ∧ ∀ i, r ≤ i → i < y → F (i * 5 + c0) = 0) ∨ ∃ m, x = nI m ∧ r ≤ m ∧ m < R ∧ F (m * 5 + c0) ≠ 0 ∧ ∀ i, r ≤ i → i < y → F (i * 5 + c0) ≠ 0 → na (F (m * 5 + c0)) ≤ na (F (i * 5 + c0))
section LPS
variable {R r c0 y : Nat} {F : Nat → Int64} {x : Int32} {t1 t2 : Int64}
theorem LPr_0 : LPr R r c0 F r (-1) := Or.inl ⟨rfl, fun i h1 h2 => absurd h2 (by omega)⟩
theorem LPr_m (h : LPr R r c0 F y x) (hR : R ≤ 4) (hx : ¬ x < 0) : 0 ≤ x ∧ x.toNatClampNeg < R := by
  rcases h with ⟨rfl, _⟩ | ⟨m, rfl, _, h2, _⟩
  · exact absurd (by decide) hx
  · exact ⟨nI_pos' (by omega), by rw [nI_clamp (by omega)]; exact h2⟩
theorem LPr_z (h : LPr R r c0 F y x) (c : lg_cmp (F (y * 5 + c0)) 0 = 0) : LPr R r c0 F (y + 1) x := by
  have c := lg0.mp c
  rcases h with ⟨rfl, h⟩ | ⟨m, rfl, h1, h2, h3, h4⟩
  · refine Or.inl ⟨rfl, fun i a b => ?_⟩
    by_cases e : i = y
    · rw [e]; exact c
    · exact h i a (by omega)
  · refine Or.inr ⟨m, rfl, h1, h2, h3, fun i a b hn => ?_⟩
    by_cases e : i = y
    · rw [e] at hn; exact absurd c hn
    · exact h4 i a (by omega) hn
theorem LPr_n1 (h : LPr R r c0 F y x) (hR : R ≤ 4) (hy : r ≤ y) (hyR : y < R) (c : ¬ lg_cmp (F (y * 5 + c0)) 0 = 0) (hx : x < 0) : LPr R r c0 F (y + 1) (nI y) := by
  have c : ¬ F (y * 5 + c0) = 0 := fun e => c (lg0.mpr e)
  rcases h with ⟨rfl, h⟩ | ⟨m, rfl, h1, h2, h3, h4⟩
  · refine Or.inr ⟨y, rfl, hy, hyR, c, fun i a b hn => ?_⟩
    by_cases e : i = y
    · rw [e]; exact Nat.le_refl _
    · exact absurd (h i a (by omega)) hn
  · exact absurd hx (nI_pos (by omega))
theorem LPr_n2 (h : LPr R r c0 F y x) (hc : c0 < 5) (hng : ∀ k, k < R * 5 → ng (F k)) (hR : R ≤ 4) (hy : r ≤ y) (hyR : y < R) (c : ¬ lg_cmp (F (y * 5 + c0)) 0 = 0) (hx : ¬ x < 0) (e1 : t1 = ab (F (y * 5 + c0))) (e2 : t2 = ab (F (x.toNatClampNeg * 5 + c0))) (d : ¬ 0 ≤ lg_cmp t1 t2) : LPr R r c0 F (y + 1) (nI y) := by
  have c : ¬ F (y * 5 + c0) = 0 := fun e => c (lg0.mpr e)
  rcases h with ⟨rfl, h⟩ | ⟨m, rfl, h1, h2, h3, h4⟩
  · exact absurd (by decide) hx
  · rw [nI_clamp (by omega)] at e2
    subst e1; subst e2
    have d := (ab_lt (hng _ (by omega)) (hng _ (by omega))).mp (Int32.not_le.mp d)
    refine Or.inr ⟨y, rfl, hy, hyR, c, fun i a b hn => ?_⟩
    by_cases e : i = y
    · rw [e]; exact Nat.le_refl _
    · exact Nat.le_trans (Nat.le_of_lt d) (h4 i a (by omega) hn)
theorem LPr_k (h : LPr R r c0 F y x) (hc : c0 < 5) (hng : ∀ k, k < R * 5 → ng (F k)) (hR : R ≤ 4) (hyR : y < R) (hx : ¬ x < 0) (e1 : t1 = ab (F (y * 5 + c0))) (e2 : t2 = ab (F (x.toNatClampNeg * 5 + c0))) (d : 0 ≤ lg_cmp t1 t2) : LPr R r c0 F (y + 1) x := by
  rcases h with ⟨rfl, h⟩ | ⟨m, rfl, h1, h2, h3, h4⟩
  · exact absurd (by decide) hx
  · rw [nI_clamp (by omega)] at e2
    subst e1; subst e2
    have d : ¬ na (F (y * 5 + c0)) < na (F (m * 5 + c0)) := fun z => Int32.not_lt.mpr d ((ab_lt (hng _ (by omega)) (hng _ (by omega))).mpr z)
    refine Or.inr ⟨m, rfl, h1, h2, h3, fun i a b hn => ?_⟩
    by_cases e : i = y
    · rw [e]; omega
    · exact h4 i a (by omega) hn
theorem PM_m {N m : Nat} (h : PM R r c0 N F) (h2 : r ≤ m ∧ m < R) (h3 : F (m * 5 + c0) ≠ 0) (h4 : ∀ i, r ≤ i → i < R → F (i * 5 + c0) ≠ 0 → na (F (m * 5 + c0)) ≤ na (F (i * 5 + c0))) : na (F (m * 5 + c0)) ≤ N := by
  rcases h with h | ⟨i, a1, a2, a3, a4⟩
  · exact absurd (h m h2.1 h2.2) h3
  · exact Nat.le_trans (h4 i a1 a2 a3) a4
end LPS
theorem ng_neg {x : Int64} (h : ng x) : ng (-x) := by
  have h1 := ng_int h
  have h2 := neg_int h
  refine ⟨Int64.le_iff_toInt_le.mpr ?_, Int64.le_iff_toInt_le.mpr ?_⟩
  · show (-1000000000 : Int) ≤ _
    omega
  · show _ ≤ (1000000000 : Int)
    omega
theorem ng_xr {R C i j : Nat} {f : Nat → Int64} (hi : i < R) (hj : j < R) (h : ∀ k, k < R * 5 → ng (f k)) : ∀ k, k < R * 5 → ng (xr C i j f k) := by
  intro k hk
  unfold xr
  split
  · exact h _ (by omega)
  · split
    · exact h _ (by omega)
    · exact h k hk
theorem ng_tr {R C i : Nat} {f : Nat → Int64} (h : ∀ k, k < R * 5 → ng (f k)) : ∀ k, k < R * 5 → ng (tr C i f k) := by
  intro k hk
  unfold tr
  split
  · exact ng_neg (h _ hk)
  · exact h k hk
/-- the loop over passes -/
def HI (R C r c0 : Nat) (f2 : Nat → Int64) (N : Nat) (M : Int32) (F : Nat → Int64) (G : Int32) : Prop := RS R C r f2 F ∧ (G = 0 → ∀ k, k < R * 5 → ng (F k)) ∧ (¬ M = 0 → G = 0 → PM R r c0 N F) ∧ (M = 0 ∨ ¬ G = 0 → F (r * 5 + c0) ≠ 0) ∧ (M = 0 → G = 0 → ∀ i, r < i → i < R → F (i * 5 + c0) = 0)
/-- the loop over the rows below -/
def KI (R C r c0 : Nat) (F0 : Nat → Int64) (i : Nat) (M : Int32) (F : Nat → Int64) (G : Int32) : Prop := RS R C r F0 F ∧ (G = 0 → ∀ k, k < R * 5 → ng (F k)) ∧ F (r * 5 + c0) = F0 (r * 5 + c0) ∧ (G = 0 → ∀ a, r < a → a < i → 0 ≤ (F (a * 5 + c0)).toInt ∧ (F (a * 5 + c0)).toInt < (F0 (r * 5 + c0)).toInt) ∧ (M = 0 → G = 0 → ∀ a, r < a → a < i → F (a * 5 + c0) = 0) ∧ (¬ M = 0 → G = 0 → ∃ a, r < a ∧ a < i ∧ F (a * 5 + c0) ≠ 0)
/-- the loop over the rows above -/
def LI (R C r c0 : Nat) (F0 : Nat → Int64) (G0 : Int32) (F : Nat → Int64) (G : Int32) : Prop := RS R C r F0 F ∧ (G = 0 → ∀ k, k < R * 5 → ng (F k)) ∧ (∀ a, r ≤ a → F (a * 5 + c0) = F0 (a * 5 + c0)) ∧ (G = 0 → G0 = 0)
/-- what isCleared says -/
def CI (R C r c0 : Nat) (f2 F : Nat → Int64) (G x : Int32) : Prop := RS R C r f2 F ∧ (G = 0 → ∀ k, k < R * 5 → ng (F k)) ∧ (x = 1 → F (r * 5 + c0) ≠ 0 ∧ (G = 0 → ∀ i, r < i → i < R → F (i * 5 + c0) = 0)) ∧ (x = 0 → ∀ i, r ≤ i → i < R → F (i * 5 + c0) = 0)
section CIS
variable {R C r c0 N i m : Nat} {f2 F0 F F1 : Nat → Int64} {M G G0 G1 : Int32}
theorem HI_0 (hG : G = 0) (hng : ∀ k, k < R * 5 → ng (f2 k)) (h : PM R r c0 N f2) : HI R C r c0 f2 N 1 f2 G := ⟨RS.rf, fun _ => hng, fun _ _ => h, fun z => z.elim (fun z => absurd z (by decide)) (fun z => absurd hG z), fun z => absurd z (by decide)⟩
theorem HI_e0 (h : HI R C r c0 f2 N M F G) (hM : M = 0) : RS R C r f2 F ∧ (G = 0 → ∀ k, k < R * 5 → ng (F k)) ∧ F (r * 5 + c0) ≠ 0 ∧ (G = 0 → ∀ i, r < i → i < R → F (i * 5 + c0) = 0) := ⟨h.1, h.2.1, h.2.2.2.1 (Or.inl hM), h.2.2.2.2 hM⟩
theorem HI_e1 (h : HI R C r c0 f2 N M F G) (hG : ¬ G = 0) : RS R C r f2 F ∧ (G = 0 → ∀ k, k < R * 5 → ng (F k)) ∧ F (r * 5 + c0) ≠ 0 ∧ (G = 0 → ∀ i, r < i → i < R → F (i * 5 + c0) = 0) := ⟨h.1, h.2.1, h.2.2.2.1 (Or.inr hG), fun z => absurd z hG⟩
theorem KI_0 (hG : G = 0) (hng : ∀ k, k < R * 5 → ng (F0 k)) : KI R C r c0 F0 (r + 1) 0 F0 G := ⟨RS.rf, fun _ => hng, rfl, fun _ a h1 h2 => absurd h2 (by omega), fun _ _ a h1 h2 => absurd h2 (by omega), fun z => absurd rfl z⟩
theorem KI_pv (h : KI R C r c0 F0 i M F G) (hp : 0 < (F0 (r * 5 + c0)).toInt) : F (r * 5 + c0) ≠ 0 := by
  rw [h.2.2.1]
  intro e
  rw [e] at hp
  exact absurd hp (by decide)
theorem or1 (x : Int32) : ¬ x ||| 1 = 0 := by
  intro h
  have h1 := congrArg (fun z => z.toBitVec.getLsbD 0) h
  simp [Int32.toBitVec_or] at h1
theorem KI_s (hC : C ≤ 5) (hc : c0 < C) (hR : 1 ≤ R ∧ R ≤ 4) (hrC : r ≤ C) (hr : r < R) (hi : r + 1 ≤ i) (hiR : i < R) (hp : 0 < (F0 (r * 5 + c0)).toInt) (h : KI R C r c0 F0 i M F G)
    (hA : F1 = F ∨ F1 = ar C i r (-(fdv (F (i * 5 + c0)) (F (r * 5 + c0)))) F) (hB : G1 = 0 → G = 0 ∧ F1 (i * 5 + c0) = rmf (F (i * 5 + c0)) (F (r * 5 + c0))) (hCn : G1 = 0 → F1 = F ∨ ∀ k, k < R * 5 → ng (F1 k)) {M1 : Int32} (hM : (F1 (i * 5 + c0) = 0 ∧ M1 = M) ∨ (F1 (i * 5 + c0) ≠ 0 ∧ ¬ M1 = 0)) : KI R C r c0 F0 (i + 1) M1 F1 G1 := by
  obtain ⟨h1, h2, h3, h4, h5, h6⟩ := h
  have ho : ∀ a, a ≠ i → F1 (a * 5 + c0) = F (a * 5 + c0) := fun a ha => by
    rcases hA with rfl | rfl
    · rfl
    · unfold ar
      rw [if_neg (by omega)]
  refine ⟨h1.trans ?_, fun hg => ?_, ?_, fun hg a a1 a2 => ?_, fun hm hg a a1 a2 => ?_, fun hm hg => ?_⟩
  · rcases hA with rfl | rfl
    · exact RS.rf
    · exact RS_ar hR hrC hC hiR ⟨Nat.le_refl _, hr⟩ (by omega)
  · rcases hCn hg with e | e
    · rw [e]; exact h2 (hB hg).1
    · exact e
  · rw [ho r (by omega)]; exact h3
  · by_cases e : a = i
    · subst e
      rw [(hB hg).2, h3]
      exact rmf_int hp
    · rw [ho a e]
      exact h4 (hB hg).1 a a1 (by omega)
  · rcases hM with ⟨hz, rfl⟩ | ⟨_, hm1⟩
    · by_cases e : a = i
      · rw [e]; exact hz
      · rw [ho a e]
        exact h5 hm (hB hg).1 a a1 (by omega)
    · exact absurd hm hm1
  · by_cases e : F1 (i * 5 + c0) = 0
    · rcases hM with ⟨_, rfl⟩ | ⟨hz, _⟩
      · obtain ⟨a, a1, a2, a3⟩ := h6 hm (hB hg).1
        exact ⟨a, a1, by omega, by rw [ho a (by omega)]; exact a3⟩
      · exact absurd e hz
    · exact ⟨i, by omega, by omega, e⟩
theorem KI_s0 (hC : C ≤ 5) (hc : c0 < C) (hR : 1 ≤ R ∧ R ≤ 4) (hrC : r ≤ C) (hr : r < R) (hi : r + 1 ≤ i) (hiR : i < R) (hp : 0 < (F0 (r * 5 + c0)).toInt) (h : KI R C r c0 F0 i M F G)
    (hA : F1 = F ∨ F1 = ar C i r (-(fdv (F (i * 5 + c0)) (F (r * 5 + c0)))) F) (hB : G1 = 0 → G = 0 ∧ F1 (i * 5 + c0) = rmf (F (i * 5 + c0)) (F (r * 5 + c0))) (hCn : G1 = 0 → F1 = F ∨ ∀ k, k < R * 5 → ng (F1 k)) (c : lg_cmp (F1 (i * 5 + c0)) 0 = 0) : KI R C r c0 F0 (i + 1) (M ||| 0) F1 G1 :=
  KI_s hC hc hR hrC hr hi hiR hp h hA hB hCn (Or.inl ⟨lg0.mp c, Int32.or_zero⟩)
theorem KI_s1 (hC : C ≤ 5) (hc : c0 < C) (hR : 1 ≤ R ∧ R ≤ 4) (hrC : r ≤ C) (hr : r < R) (hi : r + 1 ≤ i) (hiR : i < R) (hp : 0 < (F0 (r * 5 + c0)).toInt) (h : KI R C r c0 F0 i M F G)
    (hA : F1 = F ∨ F1 = ar C i r (-(fdv (F (i * 5 + c0)) (F (r * 5 + c0)))) F) (hB : G1 = 0 → G = 0 ∧ F1 (i * 5 + c0) = rmf (F (i * 5 + c0)) (F (r * 5 + c0))) (hCn : G1 = 0 → F1 = F ∨ ∀ k, k < R * 5 → ng (F1 k)) (c : ¬ lg_cmp (F1 (i * 5 + c0)) 0 = 0) : KI R C r c0 F0 (i + 1) (M ||| 1) F1 G1 :=
  KI_s hC hc hR hrC hr hi hiR hp h hA hB hCn (Or.inr ⟨fun e => c (lg0.mpr e), or1 M⟩)
theorem KI_H (h1 : RS R C r f2 F0) (hp : 0 < (F0 (r * 5 + c0)).toInt) (hN : na (F0 (r * 5 + c0)) ≤ N) (h : KI R C r c0 F0 i M F G) (hi : i = R) : HI R C r c0 f2 (N - 1) M F G := by
  obtain ⟨k1, k2, k3, k4, k5, k6⟩ := h
  refine ⟨h1.trans k1, k2, fun hM hG => ?_, fun _ => ?_, fun hM hG a a1 a2 => k5 hM hG a a1 (by omega)⟩
  · obtain ⟨a, a1, a2, a3⟩ := k6 hM hG
    refine Or.inr ⟨a, by omega, by omega, a3, ?_⟩
    have h5 := k4 hG a a1 a2
    unfold na at hN ⊢
    omega
  · rw [k3]
    intro e
    rw [e] at hp
    exact absurd hp (by decide)
theorem LI_0 (h : G0 = 0 → ∀ k, k < R * 5 → ng (F0 k)) : LI R C r c0 F0 G0 F0 G0 := ⟨RS.rf, h, fun _ _ => rfl, fun h => h⟩
theorem LI_s (hC : C ≤ 5) (hR : 1 ≤ R ∧ R ≤ 4) (hc : c0 < C) (hrC : r ≤ C) (hr : r < R) (hi : i < r) (h : LI R C r c0 F0 G0 F G)
    (hA : F1 = F ∨ F1 = ar C i r (-(fdv (F (i * 5 + c0)) (F (r * 5 + c0)))) F) (hB : G1 = 0 → G = 0 ∧ F1 (i * 5 + c0) = rmf (F (i * 5 + c0)) (F (r * 5 + c0))) (hCn : G1 = 0 → F1 = F ∨ ∀ k, k < R * 5 → ng (F1 k)) : LI R C r c0 F0 G0 F1 G1 := by
  obtain ⟨h1, h2, h3, h4⟩ := h
  refine ⟨h1.trans ?_, fun hg => ?_, fun a ha => ?_, fun hg => h4 (hB hg).1⟩
  · rcases hA with rfl | rfl
    · exact RS.rf
    · exact RS_ar hR hrC hC (by omega) ⟨Nat.le_refl _, hr⟩ (by omega)
  · rcases hCn hg with e | e
    · rw [e]; exact h2 (hB hg).1
    · exact e
  · rw [← h3 a ha]
    rcases hA with rfl | rfl
    · rfl
    · unfold ar
      rw [if_neg (by omega)]
theorem LI_C (hE : RS R C r f2 F0 ∧ (G0 = 0 → ∀ k, k < R * 5 → ng (F0 k)) ∧ F0 (r * 5 + c0) ≠ 0 ∧ (G0 = 0 → ∀ i, r < i → i < R → F0 (i * 5 + c0) = 0)) (h : LI R C r c0 F0 G0 F G) : CI R C r c0 f2 F G 1 :=
  ⟨hE.1.trans h.1, h.2.1, fun _ => ⟨by rw [h.2.2.1 r (Nat.le_refl _)]; exact hE.2.2.1, fun hg a a1 a2 => by rw [h.2.2.1 a (by omega)]; exact hE.2.2.2 (h.2.2.2 hg) a a1 a2⟩, fun z => absurd z (by decide)⟩
theorem pos_of {x : Int64} (h : 0 ≤ lg_cmp x 0) (hn : x ≠ 0) : 0 < x.toInt := by
  have h1 := Int64.le_iff_toInt_le.mp ((lg_cmp_ge _ _).mp h)
  have h2 : x.toInt ≠ 0 := fun e => hn (Int64.toInt_inj.mp e)
  rw [show (0 : Int64).toInt = 0 from rfl] at h1
  omega
theorem pos_neg {x : Int64} (hg : ng x) (h : ¬ 0 ≤ lg_cmp x 0) : 0 < (-x).toInt := by
  have h1 : ¬ 0 ≤ x.toInt := fun z => h ((lg_cmp_ge _ _).mpr (Int64.le_iff_toInt_le.mpr z))
  rw [neg_int hg]
  omega
theorem na_neg {x : Int64} (hg : ng x) : na (-x) = na x := by
  unfold na
  rw [neg_int hg]
  omega
theorem tr_r (hc : c0 < C) (hC : C ≤ 5) : tr C r F (r * 5 + c0) = -F (r * 5 + c0) := by
  unfold tr
  rw [if_pos (by omega)]
theorem xr_r (hc : c0 < C) (hC : C ≤ 5) : xr C m r F (r * 5 + c0) = F (m * 5 + c0) := by
  unfold xr
  by_cases e : (r * 5 + c0) % 5 < C ∧ (r * 5 + c0) / 5 = m
  · rw [if_pos e]
    congr 1
    omega
  · rw [if_neg e, if_pos (by omega), show (r * 5 + c0) % 5 = c0 by omega]
end CIS

noncomputable def D_X8_least_5 (R : Nat) (f2 : Nat → Int64) (c0 : Nat) (nn : Nat) : Nat → Int32 → Int32 := @Nat.rec (fun _ => Nat → Int32 → Int32) (fun _ _ => default) (fun _ lb5 (y4_5 : Nat) (y3_5 : Int32) => (if R ≤ y4_5 then y3_5 else (if (lg_cmp (f2 (y4_5 * 5 + c0)) 0) = 0 then (lb5 (y4_5 + 1) y3_5) else (if y3_5 < 0 then (lb5 (y4_5 + 1) (nI y4_5)) else nm ((if 0 < (f2 (y4_5 * 5 + c0)) then (f2 (y4_5 * 5 + c0)) else -(f2 (y4_5 * 5 + c0))) : Int64) (fun (t13 : Int64) => nm ((if 0 < (f2 (((y3_5).toNatClampNeg) * 5 + c0)) then (f2 (((y3_5).toNatClampNeg) * 5 + c0)) else -(f2 (((y3_5).toNatClampNeg) * 5 + c0))) : Int64) (fun (t14 : Int64) => (if 0 ≤ (lg_cmp t13 t14) then (lb5 (y4_5 + 1) y3_5) else (lb5 (y4_5 + 1) (nI y4_5))))))))) nn
theorem D_X8_least_5_s {R : Nat} {f2 : Nat → Int64} {c0 : Nat} {nn : Nat} {y4_5 : Nat} {y3_5 : Int32} : D_X8_least_5 R f2 c0 (nn + 1) y4_5 y3_5 = (if R ≤ y4_5 then y3_5 else (if (lg_cmp (f2 (y4_5 * 5 + c0)) 0) = 0 then ((D_X8_least_5 R f2 c0 nn) (y4_5 + 1) y3_5) else (if y3_5 < 0 then ((D_X8_least_5 R f2 c0 nn) (y4_5 + 1) (nI y4_5)) else nm ((if 0 < (f2 (y4_5 * 5 + c0)) then (f2 (y4_5 * 5 + c0)) else -(f2 (y4_5 * 5 + c0))) : Int64) (fun (t13 : Int64) => nm ((if 0 < (f2 (((y3_5).toNatClampNeg) * 5 + c0)) then (f2 (((y3_5).toNatClampNeg) * 5 + c0)) else -(f2 (((y3_5).toNatClampNeg) * 5 + c0))) : Int64) (fun (t14 : Int64) => (if 0 ≤ (lg_cmp t13 t14) then ((D_X8_least_5 R f2 c0 nn) (y4_5 + 1) y3_5) else ((D_X8_least_5 R f2 c0 nn) (y4_5 + 1) (nI y4_5)))))))) := rfl
noncomputable def D_X8_least (R : Nat) (C : Nat) (f1 : Nat → Int64) (f2 : Nat → Int64) (i1 : Int32) (i2 : Int32) (r : Nat) (c0 : Nat) : Int32 := (D_X8_least_5 R f2 c0 (R + 1 - r + 1) r (-1))
theorem D_X8_least_s {R : Nat} {C : Nat} {f1 : Nat → Int64} {f2 : Nat → Int64} {i1 : Int32} {i2 : Int32} {r : Nat} {c0 : Nat} : D_X8_least R C f1 f2 i1 i2 r c0 = (D_X8_least_5 R f2 c0 (R + 1 - r + 1) r (-1)) := rfl
set_option maxHeartbeats 4000000 in
set_option maxRecDepth 100000 in
theorem k_X8_least (κ : Kt) (l : Launch) (w : va_W) (s_0 g_c b_c g_w b_w R C : Nat) (f1 f2 : Nat → Int64) (i1 i2 : Int32) (xr : Int32) (r : Nat) (xc0 : Int32) (c0 : Nat) (hs : shp R C) (hxr : xr = nI r) (hxc0 : xc0 = nI c0) (hr : r < R) (hc0 : c0 < C) (hng : ∀ k, k < R * 5 → ng (f2 k)) (o_x : Int32) (hR : D_X8_least R C f1 f2 i1 i2 r c0 = o_x) : CM κ l yX8_least cX8_least 5 (some .int) 1 22 0 0 [.ref s_0, .int xr, .int xc0] (lA κ b_c (R * 5) f1 :: gO g_c R R b_c :: lA κ b_w (R * 5) f2 :: gO g_w R C b_w :: (s_0, .inr (9, [.ref g_w, .ref g_c, .int i1, .int i2])) :: w) (fun o w' => o = some (.int o_x) ∧ (LPr R r c0 f2 R o_x) ∧ w' = lA κ b_c (R * 5) f1 :: gO g_c R R b_c :: lA κ b_w (R * 5) f2 :: gO g_w R C b_w :: (s_0, .inr (9, [.ref g_w, .ref g_c, .int i1, .int i2])) :: w) := by
  have hs0 := hs
  obtain ⟨hs1, hs2, hs3, hs4⟩ := hs0
  subst hxr
  subst hxc0
  refine CM_begin (plainFor_of_name pn_RX8) (Nat.le_of_ble_eq_true rfl) ?_
  intro p e s m args below meth c A Q hX hnm hA3 hQ hB ls hl
  have hx := hX.1.1
  have hb := hX.1.2.1
  have hl : lv_has ls 5 [(0, .ref s_0), (1, .int (nI r)), (2, .int (nI c0))] := hl
  replace hR := (D_X8_least_s).symm.trans hR
  refine lv_iconst (v := (-1)) hx hb dX8_least_0 (by decide) ?_
  refine lv_istore_n (lv' := [(3, .int (-1)), (0, .ref s_0), (1, .int (nI r)), (2, .int (nI c0))]) hx hb dX8_least_1 rfl hl (by decide) rfl (fun ls hl => ?_)
  refine lv_iload_n hx hb dX8_least_2 rfl (lv_at hl 2 rfl) ?_
  refine lv_istore (lv' := [(4, .int (nI r)), (3, .int (-1)), (0, .ref s_0), (1, .int (nI r)), (2, .int (nI c0))]) hx hb dX8_least_3 hl (by decide) rfl (fun ls hl => ?_)
  have lp5 : ∀ (nn5 : Nat) (y4_5 : Nat) (y3_5 : Int32) (H : Heap) (locs : List Loc), (y4_5 ≤ R) → (r ≤ y4_5) → (LPr R r c0 f2 y4_5 y3_5) → R + 1 - y4_5 < nn5 → D_X8_least_5 R f2 c0 nn5 y4_5 y3_5 = o_x → Bd κ A s (lA κ b_c (R * 5) f1 :: gO g_c R R b_c :: lA κ b_w (R * 5) f2 :: gO g_w R C b_w :: (s_0, .inr (9, [.ref g_w, .ref g_c, .int i1, .int i2])) :: w) H locs → ∀ ls : Array Slot, lv_has ls 5 [(4, .int (nI y4_5)), (3, .int y3_5), (0, .ref s_0), (1, .int (nI r)), (2, .int (nI c0))] → W p l e (Rm 1 22 0 0) s m args below meth c H locs (0) (0) Q (F0 m 5 ls []) := by
    intro nn5
    induction nn5 with
    | zero => intro y4_5 y3_5 H locs hn4_5 hlo_5 hv_5 hμ; exact absurd hμ (Nat.not_lt_zero _)
    | succ nn5 ih5 =>
      intro y4_5 y3_5 H locs hn4_5 hlo_5 hv_5 hμ5 hR hB ls hl
      replace hR := (D_X8_least_5_s).symm.trans hR
      refine lv_iload hx hb dX8_least_5 (lv_at hl 0 rfl) ?_
      refine lv_aload_n hx hb dX8_least_7 rfl (lv_at hl 2 rfl) ?_
      refine gf (k0 := 4) hX hB rfl rfl in8 0 (by decide) wm_6_159 rfl rfl dX8_least_8 ?_
      refine gf (k0 := 3) hX hB rfl rfl in7 0 (by decide) wm_5_146 rfl rfl dX8_least_11 ?_
      refine lv_icmp_ge (tgt := 74) hx hb dX8_least_14 (by decide) (fun c10 => ?_) (fun c10 => ?_)
      · rw [nleP (a := R) (b := y4_5) (by omega) (by omega)] at c10
        replace hR := ifp c10 hR
        refine lv_iload_n hx hb dX8_least_74 rfl (lv_at hl 1 rfl) ?_
        rw [← hQ]
        exact end_i hX hB hA3 rfl rfl (by obtain rfl := hR; exact ⟨rfl, (show LPr R r c0 f2 R y3_5 from (show y4_5 = R by omega) ▸ hv_5), rfl⟩) (Nat.le_of_ble_eq_true rfl) (Nat.le_of_ble_eq_true rfl) dX8_least_75
      · rw [nleP (a := R) (b := y4_5) (by omega) (by omega)] at c10
        replace hR := ifn c10 hR
        refine lv_aload_n hx hb dX8_least_17 rfl (lv_at hl 2 rfl) ?_
        refine gf (k0 := 4) hX hB rfl rfl in8 0 (by decide) wm_6_159 rfl rfl dX8_least_18 ?_
        refine lv_iload hx hb dX8_least_21 (lv_at hl 0 rfl) ?_
        refine lv_iload_n hx hb dX8_least_23 rfl (lv_at hl 4 rfl) ?_
        refine call_V (n := 2) (k0 := 3) (As := [.int (nI y4_5), .int (nI c0)]) (rest := []) hX hB (k_X7_at κ l (lA κ b_c (R * 5) f1 :: gO g_c R R b_c :: lA κ b_w (R * 5) f2 :: gO g_w R C b_w :: (s_0, .inr (9, [.ref g_w, .ref g_c, .int i1, .int i2])) :: w) 3 2 g_w b_w R C f2 (nI y4_5) y4_5 (nI c0) c0 rfl rfl hs rfl rfl (by omega)) ⟨rfl, yk_X7_at⟩ wm_6_143 wm_5_238 wm_5_239 wm_1_7 wm_6_0 ⟨Nat.le_of_ble_eq_true rfl, Nat.le_of_ble_eq_true rfl⟩ ⟨Nat.le_of_ble_eq_true rfl, Nat.le_of_ble_eq_true rfl⟩ rfl rfl rfl rfl hl.1 rfl (Nat.le_of_ble_eq_true rfl) dX8_least_24 (fun o w' H locs hp hB => ?_)
        obtain ⟨rfl, hw9⟩ := hp
        replace hB : Bd κ A s (lA κ b_c (R * 5) f1 :: gO g_c R R b_c :: lA κ b_w (R * 5) f2 :: gO g_w R C b_w :: (s_0, .inr (9, [.ref g_w, .ref g_c, .int i1, .int i2])) :: w) H locs := by rw [hw9] at hB; exact hB
        refine W.eq (g2 := F0 m 27 ls [.long (f2 (y4_5 * 5 + c0))]) rfl ?_
        refine lv_lconst (v := 0) hx hb dX8_least_27 (by decide) ?_
        refine W.lcmp hx hb dX8_least_28 ?_
        refine lv_if_eq (tgt := 68) hx hb dX8_least_29 (by decide) (fun c11 => ?_) (fun c11 => ?_)
        · replace hR := ifp c11 hR
          refine lv_iinc (v := nI (y4_5 + 1)) (lv' := [(4, .int (nI (y4_5 + 1))), (3, .int y3_5), (0, .ref s_0), (1, .int (nI r)), (2, .int (nI c0))]) hx hb dX8_least_68 hl (k := 0) rfl (nI_add y4_5 1) (by decide) rfl (fun ls hl => ?_)
          refine lv_goto (tgt := 5) hx hb dX8_least_71 (by decide) ?_
          exact ih5 (y4_5 + 1) y3_5 _ _ (by omega) (by omega) (by first | exact LPr_z hv_5 (by assumption) | exact LPr_n1 hv_5 hs2 (by omega) (by omega) (by assumption) (by assumption) | exact LPr_n2 hv_5 (by omega) hng hs2 (by omega) (by omega) (by assumption) (by assumption) (by assumption) (by assumption) (by assumption) | exact LPr_k hv_5 (by omega) hng hs2 (by omega) (by assumption) (by assumption) (by assumption) (by assumption)) (by omega) hR hB _ hl
        · replace hR := ifn c11 hR
          refine lv_iload_n hx hb dX8_least_32 rfl (lv_at hl 1 rfl) ?_
          refine lv_if_lt (tgt := 65) hx hb dX8_least_33 (by decide) (fun c12 => ?_) (fun c12 => ?_)
          · replace hR := ifp c12 hR
            refine lv_iload hx hb dX8_least_65 (lv_at hl 0 rfl) ?_
            refine lv_istore_n (lv' := [(3, .int (nI y4_5)), (4, .int (nI y4_5)), (0, .ref s_0), (1, .int (nI r)), (2, .int (nI c0))]) hx hb dX8_least_67 rfl hl (by decide) rfl (fun ls hl => ?_)
            refine lv_iinc (v := nI (y4_5 + 1)) (lv' := [(4, .int (nI (y4_5 + 1))), (3, .int (nI y4_5)), (0, .ref s_0), (1, .int (nI r)), (2, .int (nI c0))]) hx hb dX8_least_68 hl (k := 1) rfl (nI_add y4_5 1) (by decide) rfl (fun ls hl => ?_)
            refine lv_goto (tgt := 5) hx hb dX8_least_71 (by decide) ?_
            exact ih5 (y4_5 + 1) (nI y4_5) _ _ (by omega) (by omega) (by first | exact LPr_z hv_5 (by assumption) | exact LPr_n1 hv_5 hs2 (by omega) (by omega) (by assumption) (by assumption) | exact LPr_n2 hv_5 (by omega) hng hs2 (by omega) (by omega) (by assumption) (by assumption) (by assumption) (by assumption) (by assumption) | exact LPr_k hv_5 (by omega) hng hs2 (by omega) (by assumption) (by assumption) (by assumption) (by assumption)) (by omega) hR hB _ hl
          · replace hR := ifn c12 hR
            obtain ⟨hmk0, hmk⟩ := LPr_m hv_5 hs2 c12
            refine lv_aload_n hx hb dX8_least_36 rfl (lv_at hl 2 rfl) ?_
            refine gf (k0 := 4) hX hB rfl rfl in8 0 (by decide) wm_6_159 rfl rfl dX8_least_37 ?_
            refine lv_iload hx hb dX8_least_40 (lv_at hl 0 rfl) ?_
            refine lv_iload_n hx hb dX8_least_42 rfl (lv_at hl 4 rfl) ?_
            refine call_V (n := 2) (k0 := 3) (As := [.int (nI y4_5), .int (nI c0)]) (rest := []) hX hB (k_X7_at κ l (lA κ b_c (R * 5) f1 :: gO g_c R R b_c :: lA κ b_w (R * 5) f2 :: gO g_w R C b_w :: (s_0, .inr (9, [.ref g_w, .ref g_c, .int i1, .int i2])) :: w) 3 2 g_w b_w R C f2 (nI y4_5) y4_5 (nI c0) c0 rfl rfl hs rfl rfl (by omega)) ⟨rfl, yk_X7_at⟩ wm_6_143 wm_5_238 wm_5_239 wm_1_7 wm_6_0 ⟨Nat.le_of_ble_eq_true rfl, Nat.le_of_ble_eq_true rfl⟩ ⟨Nat.le_of_ble_eq_true rfl, Nat.le_of_ble_eq_true rfl⟩ rfl rfl rfl rfl hl.1 rfl (Nat.le_of_ble_eq_true rfl) dX8_least_43 (fun o w' H locs hp hB => ?_)
            obtain ⟨rfl, hw9⟩ := hp
            replace hB : Bd κ A s (lA κ b_c (R * 5) f1 :: gO g_c R R b_c :: lA κ b_w (R * 5) f2 :: gO g_w R C b_w :: (s_0, .inr (9, [.ref g_w, .ref g_c, .int i1, .int i2])) :: w) H locs := by rw [hw9] at hB; exact hB
            refine W.eq (g2 := F0 m 46 ls [.long (f2 (y4_5 * 5 + c0))]) rfl ?_
            refine va_mabs_long hx hb (by rw [hX.1.2.2.1]; exact hl.1.symm) hX.1.2.2.2.1 (hX.1.2.2.2.2 _ wm_6_144) (hX.1.2.2.2.2 _ wm_1_237) (hX.1.2.2.2.2 _ wm_1_14) (hX.1.2.2.2.2 _ wm_1_238) (Nat.le_of_ble_eq_true rfl) (Nat.le_of_ble_eq_true rfl) (Nat.le_of_ble_eq_true rfl) (Nat.le_of_ble_eq_true rfl) dX8_least_46 ?_
            refine lv_topl (fun t13 et13 => ?_)
            replace hR := nm_use et13 hR
            refine lv_aload_n hx hb dX8_least_49 rfl (lv_at hl 2 rfl) ?_
            refine gf (k0 := 4) hX hB rfl rfl in8 0 (by decide) wm_6_159 rfl rfl dX8_least_50 ?_
            refine lv_iload_n hx hb dX8_least_53 rfl (lv_at hl 1 rfl) ?_
            refine lv_iload_n hx hb dX8_least_54 rfl (lv_at hl 4 rfl) ?_
            refine call_V (n := 2) (k0 := 3) (As := [.int y3_5, .int (nI c0)]) (rest := [.long t13]) hX hB (k_X7_at κ l (lA κ b_c (R * 5) f1 :: gO g_c R R b_c :: lA κ b_w (R * 5) f2 :: gO g_w R C b_w :: (s_0, .inr (9, [.ref g_w, .ref g_c, .int i1, .int i2])) :: w) 3 2 g_w b_w R C f2 y3_5 ((y3_5).toNatClampNeg) (nI c0) c0 rfl rfl hs (nI_rep (by assumption)) rfl (by omega)) ⟨rfl, yk_X7_at⟩ wm_6_143 wm_5_238 wm_5_239 wm_1_7 wm_6_0 ⟨Nat.le_of_ble_eq_true rfl, Nat.le_of_ble_eq_true rfl⟩ ⟨Nat.le_of_ble_eq_true rfl, Nat.le_of_ble_eq_true rfl⟩ rfl rfl rfl rfl hl.1 rfl (Nat.le_of_ble_eq_true rfl) dX8_least_55 (fun o w' H locs hp hB => ?_)
            obtain ⟨rfl, hw9⟩ := hp
            replace hB : Bd κ A s (lA κ b_c (R * 5) f1 :: gO g_c R R b_c :: lA κ b_w (R * 5) f2 :: gO g_w R C b_w :: (s_0, .inr (9, [.ref g_w, .ref g_c, .int i1, .int i2])) :: w) H locs := by rw [hw9] at hB; exact hB
            refine W.eq (g2 := F0 m 58 ls [.long (f2 (((y3_5).toNatClampNeg) * 5 + c0)), .long t13]) rfl ?_
            refine va_mabs_long hx hb (by rw [hX.1.2.2.1]; exact hl.1.symm) hX.1.2.2.2.1 (hX.1.2.2.2.2 _ wm_6_144) (hX.1.2.2.2.2 _ wm_1_237) (hX.1.2.2.2.2 _ wm_1_14) (hX.1.2.2.2.2 _ wm_1_238) (Nat.le_of_ble_eq_true rfl) (Nat.le_of_ble_eq_true rfl) (Nat.le_of_ble_eq_true rfl) (Nat.le_of_ble_eq_true rfl) dX8_least_58 ?_
            refine lv_topl (fun t14 et14 => ?_)
            replace hR := nm_use et14 hR
            refine W.lcmp hx hb dX8_least_61 ?_
            refine lv_if_ge (tgt := 68) hx hb dX8_least_62 (by decide) (fun c15 => ?_) (fun c15 => ?_)
            · replace hR := ifp c15 hR
              refine lv_iinc (v := nI (y4_5 + 1)) (lv' := [(4, .int (nI (y4_5 + 1))), (3, .int y3_5), (0, .ref s_0), (1, .int (nI r)), (2, .int (nI c0))]) hx hb dX8_least_68 hl (k := 0) rfl (nI_add y4_5 1) (by decide) rfl (fun ls hl => ?_)
              refine lv_goto (tgt := 5) hx hb dX8_least_71 (by decide) ?_
              exact ih5 (y4_5 + 1) y3_5 _ _ (by omega) (by omega) (by first | exact LPr_z hv_5 (by assumption) | exact LPr_n1 hv_5 hs2 (by omega) (by omega) (by assumption) (by assumption) | exact LPr_n2 hv_5 (by omega) hng hs2 (by omega) (by omega) (by assumption) (by assumption) (by assumption) (by assumption) (by assumption) | exact LPr_k hv_5 (by omega) hng hs2 (by omega) (by assumption) (by assumption) (by assumption) (by assumption)) (by omega) hR hB _ hl
            · replace hR := ifn c15 hR
              refine lv_iload hx hb dX8_least_65 (lv_at hl 0 rfl) ?_
              refine lv_istore_n (lv' := [(3, .int (nI y4_5)), (4, .int (nI y4_5)), (0, .ref s_0), (1, .int (nI r)), (2, .int (nI c0))]) hx hb dX8_least_67 rfl hl (by decide) rfl (fun ls hl => ?_)
              refine lv_iinc (v := nI (y4_5 + 1)) (lv' := [(4, .int (nI (y4_5 + 1))), (3, .int (nI y4_5)), (0, .ref s_0), (1, .int (nI r)), (2, .int (nI c0))]) hx hb dX8_least_68 hl (k := 1) rfl (nI_add y4_5 1) (by decide) rfl (fun ls hl => ?_)
              refine lv_goto (tgt := 5) hx hb dX8_least_71 (by decide) ?_
              exact ih5 (y4_5 + 1) (nI y4_5) _ _ (by omega) (by omega) (by first | exact LPr_z hv_5 (by assumption) | exact LPr_n1 hv_5 hs2 (by omega) (by omega) (by assumption) (by assumption) | exact LPr_n2 hv_5 (by omega) hng hs2 (by omega) (by omega) (by assumption) (by assumption) (by assumption) (by assumption) (by assumption) | exact LPr_k hv_5 (by omega) hng hs2 (by omega) (by assumption) (by assumption) (by assumption) (by assumption)) (by omega) hR hB _ hl
  exact lp5 _ r (-1) _ _ (by omega) (by omega) LPr_0 (Nat.lt_succ_self _) hR hB _ hl
noncomputable def D_X8_isCleared_164 (R : Nat) (C : Nat) (r : Nat) (c0 : Nat) (nn : Nat) : Nat → (Nat → Int64) → (Nat → Int64) → Int32 → Int32 → Int32 × (Nat → Int64) × (Nat → Int64) × Int32 × Int32 := @Nat.rec (fun _ => Nat → (Nat → Int64) → (Nat → Int64) → Int32 → Int32 → Int32 × (Nat → Int64) × (Nat → Int64) × Int32 × Int32) (fun _ _ _ _ _ => default) (fun _ lb164 (y4_164 : Nat) (f1_164 : Nat → Int64) (f2_164 : Nat → Int64) (i1_164 : Int32) (i2_164 : Int32) => (if r ≤ y4_164 then (1, f1_164, f2_164, i1_164, i2_164) else bnd4 (D_X8_takeOff R C f1_164 f2_164 i1_164 i2_164 y4_164 r c0) (fun (F184 : Nat → Int64) (F185 : Nat → Int64) (S186 : Int32) (G187 : Int32) => (lb164 (y4_164 + 1) F184 F185 S186 G187)))) nn
theorem D_X8_isCleared_164_s {R : Nat} {C : Nat} {r : Nat} {c0 : Nat} {nn : Nat} {y4_164 : Nat} {f1_164 : Nat → Int64} {f2_164 : Nat → Int64} {i1_164 : Int32} {i2_164 : Int32} : D_X8_isCleared_164 R C r c0 (nn + 1) y4_164 f1_164 f2_164 i1_164 i2_164 = (if r ≤ y4_164 then (1, f1_164, f2_164, i1_164, i2_164) else bnd4 (D_X8_takeOff R C f1_164 f2_164 i1_164 i2_164 y4_164 r c0) (fun (F184 : Nat → Int64) (F185 : Nat → Int64) (S186 : Int32) (G187 : Int32) => ((D_X8_isCleared_164 R C r c0 nn) (y4_164 + 1) F184 F185 S186 G187))) := rfl
noncomputable def D_X8_isCleared_164_1 (R : Nat) (C : Nat) (r : Nat) (c0 : Nat) (nn : Nat) : Nat → (Nat → Int64) → (Nat → Int64) → Int32 → Int32 → Int32 × (Nat → Int64) × (Nat → Int64) × Int32 × Int32 := @Nat.rec (fun _ => Nat → (Nat → Int64) → (Nat → Int64) → Int32 → Int32 → Int32 × (Nat → Int64) × (Nat → Int64) × Int32 × Int32) (fun _ _ _ _ _ => default) (fun _ lb164 (y4_164 : Nat) (f1_164 : Nat → Int64) (f2_164 : Nat → Int64) (i1_164 : Int32) (i2_164 : Int32) => (if r ≤ y4_164 then (1, f1_164, f2_164, i1_164, i2_164) else bnd4 (D_X8_takeOff R C f1_164 f2_164 i1_164 i2_164 y4_164 r c0) (fun (F212 : Nat → Int64) (F213 : Nat → Int64) (S214 : Int32) (G215 : Int32) => (lb164 (y4_164 + 1) F212 F213 S214 G215)))) nn
theorem D_X8_isCleared_164_1_s {R : Nat} {C : Nat} {r : Nat} {c0 : Nat} {nn : Nat} {y4_164 : Nat} {f1_164 : Nat → Int64} {f2_164 : Nat → Int64} {i1_164 : Int32} {i2_164 : Int32} : D_X8_isCleared_164_1 R C r c0 (nn + 1) y4_164 f1_164 f2_164 i1_164 i2_164 = (if r ≤ y4_164 then (1, f1_164, f2_164, i1_164, i2_164) else bnd4 (D_X8_takeOff R C f1_164 f2_164 i1_164 i2_164 y4_164 r c0) (fun (F212 : Nat → Int64) (F213 : Nat → Int64) (S214 : Int32) (G215 : Int32) => ((D_X8_isCleared_164_1 R C r c0 nn) (y4_164 + 1) F212 F213 S214 G215))) := rfl
noncomputable def D_X8_isCleared_109 (R : Nat) (C : Nat) (r : Nat) (c0 : Nat) (lb2 : Int32 → (Nat → Int64) → (Nat → Int64) → Int32 → Int32 → Int32 × (Nat → Int64) × (Nat → Int64) × Int32 × Int32) (nn : Nat) : Nat → Int32 → (Nat → Int64) → (Nat → Int64) → Int32 → Int32 → Int32 × (Nat → Int64) × (Nat → Int64) × Int32 × Int32 := @Nat.rec (fun _ => Nat → Int32 → (Nat → Int64) → (Nat → Int64) → Int32 → Int32 → Int32 × (Nat → Int64) × (Nat → Int64) × Int32 × Int32) (fun _ _ _ _ _ _ => default) (fun _ lb109 (y5_109 : Nat) (y3_109 : Int32) (f1_109 : Nat → Int64) (f2_109 : Nat → Int64) (i1_109 : Int32) (i2_109 : Int32) => (if R ≤ y5_109 then (lb2 y3_109 f1_109 f2_109 i1_109 i2_109) else bnd4 (D_X8_takeOff R C f1_109 f2_109 i1_109 i2_109 y5_109 r c0) (fun (F248 : Nat → Int64) (F249 : Nat → Int64) (S250 : Int32) (G251 : Int32) => (if (lg_cmp (F249 (y5_109 * 5 + c0)) 0) = 0 then (lb109 (y5_109 + 1) (y3_109 ||| 0) F248 F249 S250 G251) else (lb109 (y5_109 + 1) (y3_109 ||| 1) F248 F249 S250 G251))))) nn
theorem D_X8_isCleared_109_s {R : Nat} {C : Nat} {r : Nat} {c0 : Nat} {lb2 : Int32 → (Nat → Int64) → (Nat → Int64) → Int32 → Int32 → Int32 × (Nat → Int64) × (Nat → Int64) × Int32 × Int32} {nn : Nat} {y5_109 : Nat} {y3_109 : Int32} {f1_109 : Nat → Int64} {f2_109 : Nat → Int64} {i1_109 : Int32} {i2_109 : Int32} : D_X8_isCleared_109 R C r c0 lb2 (nn + 1) y5_109 y3_109 f1_109 f2_109 i1_109 i2_109 = (if R ≤ y5_109 then (lb2 y3_109 f1_109 f2_109 i1_109 i2_109) else bnd4 (D_X8_takeOff R C f1_109 f2_109 i1_109 i2_109 y5_109 r c0) (fun (F248 : Nat → Int64) (F249 : Nat → Int64) (S250 : Int32) (G251 : Int32) => (if (lg_cmp (F249 (y5_109 * 5 + c0)) 0) = 0 then ((D_X8_isCleared_109 R C r c0 lb2 nn) (y5_109 + 1) (y3_109 ||| 0) F248 F249 S250 G251) else ((D_X8_isCleared_109 R C r c0 lb2 nn) (y5_109 + 1) (y3_109 ||| 1) F248 F249 S250 G251)))) := rfl
noncomputable def D_X8_isCleared_j102 (R : Nat) (C : Nat) (r : Nat) (c0 : Nat) (lb2 : Int32 → (Nat → Int64) → (Nat → Int64) → Int32 → Int32 → Int32 × (Nat → Int64) × (Nat → Int64) × Int32 × Int32) (i2_2 : Int32) (f1_102 : Nat → Int64) (f2_102 : Nat → Int64) (i1_102 : Int32) : Int32 × (Nat → Int64) × (Nat → Int64) × Int32 × Int32 := (D_X8_isCleared_109 R C r c0 lb2 (R + 1 - (r + 1) + 1) (r + 1) 0 f1_102 f2_102 i1_102 i2_2)
theorem D_X8_isCleared_j102_s {R : Nat} {C : Nat} {r : Nat} {c0 : Nat} {lb2 : Int32 → (Nat → Int64) → (Nat → Int64) → Int32 → Int32 → Int32 × (Nat → Int64) × (Nat → Int64) × Int32 × Int32} {i2_2 : Int32} {f1_102 : Nat → Int64} {f2_102 : Nat → Int64} {i1_102 : Int32} : D_X8_isCleared_j102 R C r c0 lb2 i2_2 f1_102 f2_102 i1_102 = (D_X8_isCleared_109 R C r c0 lb2 (R + 1 - (r + 1) + 1) (r + 1) 0 f1_102 f2_102 i1_102 i2_2) := rfl
noncomputable def D_X8_isCleared_j63 (R : Nat) (C : Nat) (r : Nat) (c0 : Nat) (lb2 : Int32 → (Nat → Int64) → (Nat → Int64) → Int32 → Int32 → Int32 × (Nat → Int64) × (Nat → Int64) × Int32 × Int32) (i2_2 : Int32) (f1_63 : Nat → Int64) (f2_63 : Nat → Int64) (i1_63 : Int32) : Int32 × (Nat → Int64) × (Nat → Int64) × Int32 × Int32 := (if 0 ≤ (lg_cmp (f2_63 (r * 5 + c0)) 0) then (D_X8_isCleared_j102 R C r c0 lb2 i2_2 f1_63 f2_63 i1_63) else (D_X8_isCleared_j102 R C r c0 lb2 i2_2 (tr R r f1_63) (tr C r f2_63) (-i1_63)))
theorem D_X8_isCleared_j63_s {R : Nat} {C : Nat} {r : Nat} {c0 : Nat} {lb2 : Int32 → (Nat → Int64) → (Nat → Int64) → Int32 → Int32 → Int32 × (Nat → Int64) × (Nat → Int64) × Int32 × Int32} {i2_2 : Int32} {f1_63 : Nat → Int64} {f2_63 : Nat → Int64} {i1_63 : Int32} : D_X8_isCleared_j63 R C r c0 lb2 i2_2 f1_63 f2_63 i1_63 = (if 0 ≤ (lg_cmp (f2_63 (r * 5 + c0)) 0) then (D_X8_isCleared_j102 R C r c0 lb2 i2_2 f1_63 f2_63 i1_63) else (D_X8_isCleared_j102 R C r c0 lb2 i2_2 (tr R r f1_63) (tr C r f2_63) (-i1_63))) := rfl
noncomputable def D_X8_isCleared_2 (R : Nat) (C : Nat) (r : Nat) (c0 : Nat) (nn : Nat) : Int32 → (Nat → Int64) → (Nat → Int64) → Int32 → Int32 → Int32 × (Nat → Int64) × (Nat → Int64) × Int32 × Int32 := @Nat.rec (fun _ => Int32 → (Nat → Int64) → (Nat → Int64) → Int32 → Int32 → Int32 × (Nat → Int64) × (Nat → Int64) × Int32 × Int32) (fun _ _ _ _ _ => default) (fun _ lb2 (y3_2 : Int32) (f1_2 : Nat → Int64) (f2_2 : Nat → Int64) (i1_2 : Int32) (i2_2 : Int32) => (if y3_2 = 0 then (D_X8_isCleared_164 R C r c0 (r + 1 - 0 + 1) 0 f1_2 f2_2 i1_2 i2_2) else (if i2_2 = 0 then bnd1 (D_X8_least R C f1_2 f2_2 i1_2 i2_2 r c0) (fun (x220 : Int32) => (if x220 = -1 then (0, f1_2, f2_2, i1_2, i2_2) else nm ((x220).toNatClampNeg) (fun (ml : Nat) => (if ml = r then (D_X8_isCleared_j63 R C r c0 lb2 i2_2 f1_2 f2_2 i1_2) else (D_X8_isCleared_j63 R C r c0 lb2 i2_2 (xr R ml r f1_2) (xr C ml r f2_2) (-i1_2)))))) else (D_X8_isCleared_164_1 R C r c0 (r + 1 - 0 + 1) 0 f1_2 f2_2 i1_2 i2_2)))) nn
theorem D_X8_isCleared_2_s {R : Nat} {C : Nat} {r : Nat} {c0 : Nat} {nn : Nat} {y3_2 : Int32} {f1_2 : Nat → Int64} {f2_2 : Nat → Int64} {i1_2 : Int32} {i2_2 : Int32} : D_X8_isCleared_2 R C r c0 (nn + 1) y3_2 f1_2 f2_2 i1_2 i2_2 = (if y3_2 = 0 then (D_X8_isCleared_164 R C r c0 (r + 1 - 0 + 1) 0 f1_2 f2_2 i1_2 i2_2) else (if i2_2 = 0 then bnd1 (D_X8_least R C f1_2 f2_2 i1_2 i2_2 r c0) (fun (x220 : Int32) => (if x220 = -1 then (0, f1_2, f2_2, i1_2, i2_2) else nm ((x220).toNatClampNeg) (fun (ml : Nat) => (if ml = r then (D_X8_isCleared_j63 R C r c0 (D_X8_isCleared_2 R C r c0 nn) i2_2 f1_2 f2_2 i1_2) else (D_X8_isCleared_j63 R C r c0 (D_X8_isCleared_2 R C r c0 nn) i2_2 (xr R ml r f1_2) (xr C ml r f2_2) (-i1_2)))))) else (D_X8_isCleared_164_1 R C r c0 (r + 1 - 0 + 1) 0 f1_2 f2_2 i1_2 i2_2))) := rfl
noncomputable def D_X8_isCleared (R : Nat) (C : Nat) (f1 : Nat → Int64) (f2 : Nat → Int64) (i1 : Int32) (i2 : Int32) (r : Nat) (c0 : Nat) : Int32 × (Nat → Int64) × (Nat → Int64) × Int32 × Int32 := (D_X8_isCleared_2 R C r c0 (1000000000 + 1) 1 f1 f2 i1 i2)
theorem D_X8_isCleared_s {R : Nat} {C : Nat} {f1 : Nat → Int64} {f2 : Nat → Int64} {i1 : Int32} {i2 : Int32} {r : Nat} {c0 : Nat} : D_X8_isCleared R C f1 f2 i1 i2 r c0 = (D_X8_isCleared_2 R C r c0 (1000000000 + 1) 1 f1 f2 i1 i2) := rfl
set_option maxHeartbeats 4000000 in
set_option maxRecDepth 100000 in
theorem k_X8_isCleared (κ : Kt) (l : Launch) (w : va_W) (s_0 g_c b_c g_w b_w R C : Nat) (f1 f2 : Nat → Int64) (i1 i2 : Int32) (xr : Int32) (r : Nat) (xc0 : Int32) (c0 : Nat) (hs : shp R C) (hxr : xr = nI r) (hxc0 : xc0 = nI c0) (hr : r < R) (hc0 : c0 < C) (hrC : r ≤ c0) (hgr : i2 = 0) (hng : ∀ k, k < R * 5 → ng (f2 k)) (o_x : Int32) (o_F1 : Nat → Int64) (o_F2 : Nat → Int64) (o_S1 : Int32) (o_G1 : Int32) (hR : D_X8_isCleared R C f1 f2 i1 i2 r c0 = (o_x, o_F1, o_F2, o_S1, o_G1)) : CM κ l yX8_isCleared cX8_isCleared 6 (some .boolean) 3 74 0 0 [.ref s_0, .int xr, .int xc0] (lA κ b_c (R * 5) f1 :: gO g_c R R b_c :: lA κ b_w (R * 5) f2 :: gO g_w R C b_w :: (s_0, .inr (9, [.ref g_w, .ref g_c, .int i1, .int i2])) :: w) (fun o w' => o = some (.int o_x) ∧ (o_x = 0 ∨ o_x = 1) ∧ (CI R C r c0 f2 o_F2 o_G1 o_x) ∧ w' = lA κ b_c (R * 5) o_F1 :: gO g_c R R b_c :: lA κ b_w (R * 5) o_F2 :: gO g_w R C b_w :: (s_0, .inr (9, [.ref g_w, .ref g_c, .int o_S1, .int o_G1])) :: w) := by
  have hs0 := hs
  obtain ⟨hs1, hs2, hs3, hs4⟩ := hs0
  subst hxr
  subst hxc0
  refine CM_begin (plainFor_of_name pn_RX8) (Nat.le_of_ble_eq_true rfl) ?_
  intro p e s m args below meth c A Q hX hnm hA3 hQ hB ls hl
  have hx := hX.1.1
  have hb := hX.1.2.1
  have hl : lv_has ls 6 [(0, .ref s_0), (1, .int (nI r)), (2, .int (nI c0))] := hl
  obtain ⟨N0, hNb, hN0⟩ := PM_ex R r c0 f2 (by omega) hng
  have hrC : r ≤ C := by omega
  replace hR := (D_X8_isCleared_s).symm.trans hR
  refine lv_iconst (v := 1) hx hb dX8_isCleared_0 (by decide) ?_
  refine lv_istore_n (lv' := [(3, .int 1), (0, .ref s_0), (1, .int (nI r)), (2, .int (nI c0))]) hx hb dX8_isCleared_1 rfl hl (by decide) rfl (fun ls hl => ?_)
  have lp2 : ∀ (nn2 : Nat) (y3_2 : Int32) (f1_2 : Nat → Int64) (f2_2 : Nat → Int64) (i1_2 : Int32) (i2_2 : Int32) (N_2 : Nat) (H : Heap) (locs : List Loc), (HI R C r c0 f2 N_2 y3_2 f2_2 i2_2) → N_2 < nn2 → D_X8_isCleared_2 R C r c0 nn2 y3_2 f1_2 f2_2 i1_2 i2_2 = (o_x, o_F1, o_F2, o_S1, o_G1) → Bd κ A s (lA κ b_c (R * 5) f1_2 :: gO g_c R R b_c :: lA κ b_w (R * 5) f2_2 :: gO g_w R C b_w :: (s_0, .inr (9, [.ref g_w, .ref g_c, .int i1_2, .int i2_2])) :: w) H locs → ∀ ls : Array Slot, lv_has ls 6 [(3, .int y3_2), (0, .ref s_0), (1, .int (nI r)), (2, .int (nI c0))] → W p l e (Rm 3 74 0 0) s m args below meth c H locs (0) (0) Q (F0 m 2 ls []) := by
    intro nn2
    induction nn2 with
    | zero => intro y3_2 f1_2 f2_2 i1_2 i2_2 N_2 H locs hH_2 hμ; exact absurd hμ (Nat.not_lt_zero _)
    | succ nn2 ih2 =>
      intro y3_2 f1_2 f2_2 i1_2 i2_2 N_2 H locs hH_2 hμ2 hR hB ls hl
      replace hR := (D_X8_isCleared_2_s).symm.trans hR
      refine lv_iload_n hx hb dX8_isCleared_2 rfl (lv_at hl 0 rfl) ?_
      refine lv_if_eq (tgt := 161) hx hb dX8_isCleared_3 (by decide) (fun c164 => ?_) (fun c164 => ?_)
      · replace hR := ifp c164 hR
        have hE := HI_e0 hH_2 c164
        refine lv_iconst (v := 0) hx hb dX8_isCleared_161 (by decide) ?_
        refine lv_istore (lv' := [(4, .int 0), (3, .int y3_2), (0, .ref s_0), (1, .int (nI r)), (2, .int (nI c0))]) hx hb dX8_isCleared_162 hl (by decide) rfl (fun ls hl => ?_)
        have lp164 : ∀ (nn164 : Nat) (y4_164 : Nat) (f1_164 : Nat → Int64) (f2_164 : Nat → Int64) (i1_164 : Int32) (i2_164 : Int32) (H : Heap) (locs : List Loc), (y4_164 ≤ r) → (LI R C r c0 f2_2 i2_2 f2_164 i2_164) → r + 1 - y4_164 < nn164 → D_X8_isCleared_164 R C r c0 nn164 y4_164 f1_164 f2_164 i1_164 i2_164 = (o_x, o_F1, o_F2, o_S1, o_G1) → Bd κ A s (lA κ b_c (R * 5) f1_164 :: gO g_c R R b_c :: lA κ b_w (R * 5) f2_164 :: gO g_w R C b_w :: (s_0, .inr (9, [.ref g_w, .ref g_c, .int i1_164, .int i2_164])) :: w) H locs → ∀ ls : Array Slot, lv_has ls 6 [(4, .int (nI y4_164)), (3, .int y3_2), (0, .ref s_0), (1, .int (nI r)), (2, .int (nI c0))] → W p l e (Rm 3 74 0 0) s m args below meth c H locs (0) (0) Q (F0 m 164 ls []) := by
          intro nn164
          induction nn164 with
          | zero => intro y4_164 f1_164 f2_164 i1_164 i2_164 H locs hn4_164 hL_164 hμ; exact absurd hμ (Nat.not_lt_zero _)
          | succ nn164 ih164 =>
            intro y4_164 f1_164 f2_164 i1_164 i2_164 H locs hn4_164 hL_164 hμ164 hR hB ls hl
            replace hR := (D_X8_isCleared_164_s).symm.trans hR
            refine lv_iload hx hb dX8_isCleared_164 (lv_at hl 0 rfl) ?_
            refine lv_iload_n hx hb dX8_isCleared_166 rfl (lv_at hl 3 rfl) ?_
            refine lv_icmp_ge (tgt := 184) hx hb dX8_isCleared_167 (by decide) (fun c183 => ?_) (fun c183 => ?_)
            · rw [nleP (a := r) (b := y4_164) (by omega) (by omega)] at c183
              replace hR := ifp c183 hR
              refine lv_iconst (v := 1) hx hb dX8_isCleared_184 (by decide) ?_
              rw [← hQ]
              exact end_i hX hB hA3 rfl rfl (by obtain ⟨rfl, rfl, rfl, rfl, rfl⟩ := pr5 hR; exact ⟨rfl, (Or.inr rfl), (LI_C hE hL_164), rfl⟩) (Nat.le_of_ble_eq_true rfl) (Nat.le_of_ble_eq_true rfl) dX8_isCleared_185
            · rw [nleP (a := r) (b := y4_164) (by omega) (by omega)] at c183
              replace hR := ifn c183 hR
              refine lv_aload_n hx hb dX8_isCleared_170 rfl (lv_at hl 2 rfl) ?_
              refine lv_iload hx hb dX8_isCleared_171 (lv_at hl 0 rfl) ?_
              refine lv_iload_n hx hb dX8_isCleared_173 rfl (lv_at hl 3 rfl) ?_
              refine lv_iload_n hx hb dX8_isCleared_174 rfl (lv_at hl 4 rfl) ?_
              obtain ⟨F184, F185, S186, G187, hd188⟩ := ex4 (D_X8_takeOff R C f1_164 f2_164 i1_164 i2_164 y4_164 r c0)
              replace hR := bnd4_use hd188 hR
              refine call_V (n := 3) (k0 := 4) (As := [.int (nI y4_164), .int (nI r), .int (nI c0)]) (rest := []) hX hB (k_X8_takeOff κ l (w) s_0 g_c b_c g_w b_w R C f1_164 f2_164 i1_164 i2_164 (nI y4_164) y4_164 (nI r) r (nI c0) c0 hs rfl rfl rfl (by omega) (by omega) (by omega) (by omega) (by rw [hL_164.2.2.1 r (Nat.le_refl _)]; exact hE.2.2.1) F184 F185 S186 G187 hd188) ⟨rfl, yk_X8_takeOff⟩ wm_6_147 wm_6_149 wp_40 wm_1_15 wm_6_150 ⟨Nat.le_of_ble_eq_true rfl, Nat.le_of_ble_eq_true rfl⟩ ⟨Nat.le_of_ble_eq_true rfl, Nat.le_of_ble_eq_true rfl⟩ rfl rfl rfl rfl hl.1 rfl (Nat.le_of_ble_eq_true rfl) dX8_isCleared_175 (fun o w' H locs hp hB => ?_)
              obtain ⟨rfl, hf189, hf190, hf191, hw9⟩ := hp
              replace hB : Bd κ A s (lA κ b_c (R * 5) F184 :: gO g_c R R b_c :: lA κ b_w (R * 5) F185 :: gO g_w R C b_w :: (s_0, .inr (9, [.ref g_w, .ref g_c, .int S186, .int G187])) :: w) H locs := by rw [hw9] at hB; exact hB
              refine W.eq (g2 := F0 m 178 ls []) rfl ?_
              refine lv_iinc (v := nI (y4_164 + 1)) (lv' := [(4, .int (nI (y4_164 + 1))), (3, .int y3_2), (0, .ref s_0), (1, .int (nI r)), (2, .int (nI c0))]) hx hb dX8_isCleared_178 hl (k := 0) rfl (nI_add y4_164 1) (by decide) rfl (fun ls hl => ?_)
              refine lv_goto (tgt := 164) hx hb dX8_isCleared_181 (by decide) ?_
              exact ih164 (y4_164 + 1) F184 F185 S186 G187 _ _ (by omega) (LI_s hs4 ⟨hs1, hs2⟩ hc0 hrC hr (by omega) hL_164 hf189 hf190 hf191) (by omega) hR hB _ hl
        exact lp164 _ 0 f1_2 f2_2 i1_2 i2_2 _ _ (by omega) (LI_0 hE.2.1) (Nat.lt_succ_self _) hR hB _ hl
      · replace hR := ifn c164 hR
        have hM := c164
        refine lv_aload_n hx hb dX8_isCleared_6 rfl (lv_at hl 1 rfl) ?_
        refine gf (k0 := 4) hX hB rfl rfl in8 3 (by decide) wm_6_165 rfl rfl dX8_isCleared_7 ?_
        refine lv_if_ne (tgt := 161) hx hb dX8_isCleared_10 (by decide) (fun c192 => ?_) (fun c192 => ?_)
        · replace hR := ifn c192 hR
          have hE := HI_e1 hH_2 c192
          refine lv_iconst (v := 0) hx hb dX8_isCleared_161 (by decide) ?_
          refine lv_istore (lv' := [(4, .int 0), (3, .int y3_2), (0, .ref s_0), (1, .int (nI r)), (2, .int (nI c0))]) hx hb dX8_isCleared_162 hl (by decide) rfl (fun ls hl => ?_)
          have lp164 : ∀ (nn164 : Nat) (y4_164 : Nat) (f1_164 : Nat → Int64) (f2_164 : Nat → Int64) (i1_164 : Int32) (i2_164 : Int32) (H : Heap) (locs : List Loc), (y4_164 ≤ r) → (LI R C r c0 f2_2 i2_2 f2_164 i2_164) → r + 1 - y4_164 < nn164 → D_X8_isCleared_164_1 R C r c0 nn164 y4_164 f1_164 f2_164 i1_164 i2_164 = (o_x, o_F1, o_F2, o_S1, o_G1) → Bd κ A s (lA κ b_c (R * 5) f1_164 :: gO g_c R R b_c :: lA κ b_w (R * 5) f2_164 :: gO g_w R C b_w :: (s_0, .inr (9, [.ref g_w, .ref g_c, .int i1_164, .int i2_164])) :: w) H locs → ∀ ls : Array Slot, lv_has ls 6 [(4, .int (nI y4_164)), (3, .int y3_2), (0, .ref s_0), (1, .int (nI r)), (2, .int (nI c0))] → W p l e (Rm 3 74 0 0) s m args below meth c H locs (0) (0) Q (F0 m 164 ls []) := by
            intro nn164
            induction nn164 with
            | zero => intro y4_164 f1_164 f2_164 i1_164 i2_164 H locs hn4_164 hL_164 hμ; exact absurd hμ (Nat.not_lt_zero _)
            | succ nn164 ih164 =>
              intro y4_164 f1_164 f2_164 i1_164 i2_164 H locs hn4_164 hL_164 hμ164 hR hB ls hl
              replace hR := (D_X8_isCleared_164_1_s).symm.trans hR
              refine lv_iload hx hb dX8_isCleared_164 (lv_at hl 0 rfl) ?_
              refine lv_iload_n hx hb dX8_isCleared_166 rfl (lv_at hl 3 rfl) ?_
              refine lv_icmp_ge (tgt := 184) hx hb dX8_isCleared_167 (by decide) (fun c211 => ?_) (fun c211 => ?_)
              · rw [nleP (a := r) (b := y4_164) (by omega) (by omega)] at c211
                replace hR := ifp c211 hR
                refine lv_iconst (v := 1) hx hb dX8_isCleared_184 (by decide) ?_
                rw [← hQ]
                exact end_i hX hB hA3 rfl rfl (by obtain ⟨rfl, rfl, rfl, rfl, rfl⟩ := pr5 hR; exact ⟨rfl, (Or.inr rfl), (LI_C hE hL_164), rfl⟩) (Nat.le_of_ble_eq_true rfl) (Nat.le_of_ble_eq_true rfl) dX8_isCleared_185
              · rw [nleP (a := r) (b := y4_164) (by omega) (by omega)] at c211
                replace hR := ifn c211 hR
                refine lv_aload_n hx hb dX8_isCleared_170 rfl (lv_at hl 2 rfl) ?_
                refine lv_iload hx hb dX8_isCleared_171 (lv_at hl 0 rfl) ?_
                refine lv_iload_n hx hb dX8_isCleared_173 rfl (lv_at hl 3 rfl) ?_
                refine lv_iload_n hx hb dX8_isCleared_174 rfl (lv_at hl 4 rfl) ?_
                obtain ⟨F212, F213, S214, G215, hd216⟩ := ex4 (D_X8_takeOff R C f1_164 f2_164 i1_164 i2_164 y4_164 r c0)
                replace hR := bnd4_use hd216 hR
                refine call_V (n := 3) (k0 := 4) (As := [.int (nI y4_164), .int (nI r), .int (nI c0)]) (rest := []) hX hB (k_X8_takeOff κ l (w) s_0 g_c b_c g_w b_w R C f1_164 f2_164 i1_164 i2_164 (nI y4_164) y4_164 (nI r) r (nI c0) c0 hs rfl rfl rfl (by omega) (by omega) (by omega) (by omega) (by rw [hL_164.2.2.1 r (Nat.le_refl _)]; exact hE.2.2.1) F212 F213 S214 G215 hd216) ⟨rfl, yk_X8_takeOff⟩ wm_6_147 wm_6_149 wp_40 wm_1_15 wm_6_150 ⟨Nat.le_of_ble_eq_true rfl, Nat.le_of_ble_eq_true rfl⟩ ⟨Nat.le_of_ble_eq_true rfl, Nat.le_of_ble_eq_true rfl⟩ rfl rfl rfl rfl hl.1 rfl (Nat.le_of_ble_eq_true rfl) dX8_isCleared_175 (fun o w' H locs hp hB => ?_)
                obtain ⟨rfl, hf217, hf218, hf219, hw9⟩ := hp
                replace hB : Bd κ A s (lA κ b_c (R * 5) F212 :: gO g_c R R b_c :: lA κ b_w (R * 5) F213 :: gO g_w R C b_w :: (s_0, .inr (9, [.ref g_w, .ref g_c, .int S214, .int G215])) :: w) H locs := by rw [hw9] at hB; exact hB
                refine W.eq (g2 := F0 m 178 ls []) rfl ?_
                refine lv_iinc (v := nI (y4_164 + 1)) (lv' := [(4, .int (nI (y4_164 + 1))), (3, .int y3_2), (0, .ref s_0), (1, .int (nI r)), (2, .int (nI c0))]) hx hb dX8_isCleared_178 hl (k := 0) rfl (nI_add y4_164 1) (by decide) rfl (fun ls hl => ?_)
                refine lv_goto (tgt := 164) hx hb dX8_isCleared_181 (by decide) ?_
                exact ih164 (y4_164 + 1) F212 F213 S214 G215 _ _ (by omega) (LI_s hs4 ⟨hs1, hs2⟩ hc0 hrC hr (by omega) hL_164 hf217 hf218 hf219) (by omega) hR hB _ hl
          exact lp164 _ 0 f1_2 f2_2 i1_2 i2_2 _ _ (by omega) (LI_0 hE.2.1) (Nat.lt_succ_self _) hR hB _ hl
        · replace hR := ifp c192 hR
          have hG := c192
          refine lv_aload_n hx hb dX8_isCleared_13 rfl (lv_at hl 1 rfl) ?_
          refine lv_iload_n hx hb dX8_isCleared_14 rfl (lv_at hl 2 rfl) ?_
          refine lv_iload_n hx hb dX8_isCleared_15 rfl (lv_at hl 3 rfl) ?_
          obtain ⟨x220, hd221⟩ := ex1 (D_X8_least R C f1_2 f2_2 i1_2 i2_2 r c0)
          replace hR := bnd1_use hd221 hR
          refine call_V (n := 2) (k0 := 4) (As := [.int (nI r), .int (nI c0)]) (rest := []) hX hB (k_X8_least κ l (w) s_0 g_c b_c g_w b_w R C f1_2 f2_2 i1_2 i2_2 (nI r) r (nI c0) c0 hs rfl rfl hr hc0 (hH_2.2.1 hG) x220 hd221) ⟨rfl, yk_X8_least⟩ wm_6_139 wm_6_141 wp_39 wm_1_15 wm_6_142 ⟨Nat.le_of_ble_eq_true rfl, Nat.le_of_ble_eq_true rfl⟩ ⟨Nat.le_of_ble_eq_true rfl, Nat.le_of_ble_eq_true rfl⟩ rfl rfl rfl rfl hl.1 rfl (Nat.le_of_ble_eq_true rfl) dX8_isCleared_16 (fun o w' H locs hp hB => ?_)
          obtain ⟨rfl, hf222, hw9⟩ := hp
          replace hB : Bd κ A s (lA κ b_c (R * 5) f1_2 :: gO g_c R R b_c :: lA κ b_w (R * 5) f2_2 :: gO g_w R C b_w :: (s_0, .inr (9, [.ref g_w, .ref g_c, .int i1_2, .int i2_2])) :: w) H locs := by rw [hw9] at hB; exact hB
          rcases hf222 with ⟨rfl, hmz⟩ | ⟨ml, rfl, hm1, hm2, hm3, hm4⟩
          · replace hR := ifp rfl hR
            refine W.eq (g2 := F0 m 19 ls [.int (-1)]) rfl ?_
            refine lv_istore (lv' := [(4, .int (-1)), (3, .int y3_2), (0, .ref s_0), (1, .int (nI r)), (2, .int (nI c0))]) hx hb dX8_isCleared_19 hl (by decide) rfl (fun ls hl => ?_)
            refine lv_iload hx hb dX8_isCleared_21 (lv_at hl 0 rfl) ?_
            refine lv_if_ge (tgt := 28) hx hb dX8_isCleared_23 (by decide) (fun c223 => False.elim (by revert c223; decide)) (fun _ => ?_)
            refine lv_iconst (v := 0) hx hb dX8_isCleared_26 (by decide) ?_
            rw [← hQ]
            exact end_i hX hB hA3 rfl rfl (by obtain ⟨rfl, rfl, rfl, rfl, rfl⟩ := pr5 hR; exact ⟨rfl, (Or.inl rfl), ⟨hH_2.1, hH_2.2.1, fun h => absurd h (by decide), fun _ => hmz⟩, rfl⟩) (Nat.le_of_ble_eq_true rfl) (Nat.le_of_ble_eq_true rfl) dX8_isCleared_27
          · replace hR := ifn (nI_m1 (by omega)) hR
            replace hR := nm_use (nI_clamp (by omega)).symm hR
            refine W.eq (g2 := F0 m 19 ls [.int (nI ml)]) rfl ?_
            refine lv_istore (lv' := [(4, .int (nI ml)), (3, .int y3_2), (0, .ref s_0), (1, .int (nI r)), (2, .int (nI c0))]) hx hb dX8_isCleared_19 hl (by decide) rfl (fun ls hl => ?_)
            refine lv_iload hx hb dX8_isCleared_21 (lv_at hl 0 rfl) ?_
            refine lv_if_ge (tgt := 28) hx hb dX8_isCleared_23 (by decide) (fun _ => ?_) (fun c224 => absurd (nI_pos' (n := ml) (by omega)) c224)
            have hmN := PM_m (hH_2.2.2.1 hM hG) ⟨hm1, hm2⟩ hm3 hm4
            have hN1 : 1 ≤ N_2 := by have := (not_congr na0).mpr hm3; omega
            refine lv_iload hx hb dX8_isCleared_28 (lv_at hl 0 rfl) ?_
            refine lv_iload_n hx hb dX8_isCleared_30 rfl (lv_at hl 3 rfl) ?_
            have jn63 : ∀ (f1_63 : Nat → Int64) (f2_63 : Nat → Int64) (i1_63 : Int32) (H : Heap) (locs : List Loc), (RS R C r f2 f2_63) → (∀ k, k < R * 5 → ng (f2_63 k)) → (f2_63 (r * 5 + c0) ≠ 0 ∧ na (f2_63 (r * 5 + c0)) ≤ N_2) → D_X8_isCleared_j63 R C r c0 (D_X8_isCleared_2 R C r c0 nn2) i2_2 f1_63 f2_63 i1_63 = (o_x, o_F1, o_F2, o_S1, o_G1) → Bd κ A s (lA κ b_c (R * 5) f1_63 :: gO g_c R R b_c :: lA κ b_w (R * 5) f2_63 :: gO g_w R C b_w :: (s_0, .inr (9, [.ref g_w, .ref g_c, .int i1_63, .int i2_2])) :: w) H locs → ∀ ls : Array Slot, lv_has ls 6 [(4, .int (nI ml)), (3, .int y3_2), (0, .ref s_0), (1, .int (nI r)), (2, .int (nI c0))] → W p l e (Rm 3 74 0 0) s m args below meth c H locs (0) (0) Q (F0 m 63 ls []) := by
              intro f1_63 f2_63 i1_63 H locs hJ1 hJ2 hJ3 hR hB ls hl
              replace hR := (D_X8_isCleared_j63_s).symm.trans hR
              refine lv_aload_n hx hb dX8_isCleared_63 rfl (lv_at hl 2 rfl) ?_
              refine gf (k0 := 4) hX hB rfl rfl in8 0 (by decide) wm_6_159 rfl rfl dX8_isCleared_64 ?_
              refine lv_iload_n hx hb dX8_isCleared_67 rfl (lv_at hl 3 rfl) ?_
              refine lv_iload_n hx hb dX8_isCleared_68 rfl (lv_at hl 4 rfl) ?_
              refine call_V (n := 2) (k0 := 3) (As := [.int (nI r), .int (nI c0)]) (rest := []) hX hB (k_X7_at κ l (lA κ b_c (R * 5) f1_63 :: gO g_c R R b_c :: lA κ b_w (R * 5) f2_63 :: gO g_w R C b_w :: (s_0, .inr (9, [.ref g_w, .ref g_c, .int i1_63, .int i2_2])) :: w) 3 2 g_w b_w R C f2_63 (nI r) r (nI c0) c0 rfl rfl hs rfl rfl (by omega)) ⟨rfl, yk_X7_at⟩ wm_6_143 wm_5_238 wm_5_239 wm_1_7 wm_6_0 ⟨Nat.le_of_ble_eq_true rfl, Nat.le_of_ble_eq_true rfl⟩ ⟨Nat.le_of_ble_eq_true rfl, Nat.le_of_ble_eq_true rfl⟩ rfl rfl rfl rfl hl.1 rfl (Nat.le_of_ble_eq_true rfl) dX8_isCleared_69 (fun o w' H locs hp hB => ?_)
              obtain ⟨rfl, hw9⟩ := hp
              replace hB : Bd κ A s (lA κ b_c (R * 5) f1_63 :: gO g_c R R b_c :: lA κ b_w (R * 5) f2_63 :: gO g_w R C b_w :: (s_0, .inr (9, [.ref g_w, .ref g_c, .int i1_63, .int i2_2])) :: w) H locs := by rw [hw9] at hB; exact hB
              refine W.eq (g2 := F0 m 72 ls [.long (f2_63 (r * 5 + c0))]) rfl ?_
              refine lv_lconst (v := 0) hx hb dX8_isCleared_72 (by decide) ?_
              refine W.lcmp hx hb dX8_isCleared_73 ?_
              have jn102 : ∀ (f1_102 : Nat → Int64) (f2_102 : Nat → Int64) (i1_102 : Int32) (H : Heap) (locs : List Loc), (RS R C r f2 f2_102) → (∀ k, k < R * 5 → ng (f2_102 k)) → (0 < (f2_102 (r * 5 + c0)).toInt) → (na (f2_102 (r * 5 + c0)) ≤ N_2) → D_X8_isCleared_j102 R C r c0 (D_X8_isCleared_2 R C r c0 nn2) i2_2 f1_102 f2_102 i1_102 = (o_x, o_F1, o_F2, o_S1, o_G1) → Bd κ A s (lA κ b_c (R * 5) f1_102 :: gO g_c R R b_c :: lA κ b_w (R * 5) f2_102 :: gO g_w R C b_w :: (s_0, .inr (9, [.ref g_w, .ref g_c, .int i1_102, .int i2_2])) :: w) H locs → ∀ ls : Array Slot, lv_has ls 6 [(4, .int (nI ml)), (3, .int y3_2), (0, .ref s_0), (1, .int (nI r)), (2, .int (nI c0))] → W p l e (Rm 3 74 0 0) s m args below meth c H locs (0) (0) Q (F0 m 102 ls []) := by
                intro f1_102 f2_102 i1_102 H locs hQ1 hQ2 hQ3 hQ4 hR hB ls hl
                replace hR := (D_X8_isCleared_j102_s).symm.trans hR
                refine lv_iconst (v := 0) hx hb dX8_isCleared_102 (by decide) ?_
                refine lv_istore_n (lv' := [(3, .int 0), (4, .int (nI ml)), (0, .ref s_0), (1, .int (nI r)), (2, .int (nI c0))]) hx hb dX8_isCleared_103 rfl hl (by decide) rfl (fun ls hl => ?_)
                refine lv_iload_n hx hb dX8_isCleared_104 rfl (lv_at hl 3 rfl) ?_
                refine lv_iconst (v := 1) hx hb dX8_isCleared_105 (by decide) ?_
                refine lv_iadd hx hb dX8_isCleared_106 ?_
                refine eqi (y := nI (r + 1)) (nI_add r 1) ?_
                refine lv_istore (lv' := [(5, .int (nI (r + 1))), (3, .int 0), (4, .int (nI ml)), (0, .ref s_0), (1, .int (nI r)), (2, .int (nI c0))]) hx hb dX8_isCleared_107 hl (by decide) rfl (fun ls hl => ?_)
                have lp109 : ∀ (nn109 : Nat) (y5_109 : Nat) (y3_109 : Int32) (f1_109 : Nat → Int64) (f2_109 : Nat → Int64) (i1_109 : Int32) (i2_109 : Int32) (H : Heap) (locs : List Loc), (y5_109 ≤ R) → (r + 1 ≤ y5_109) → (KI R C r c0 f2_102 y5_109 y3_109 f2_109 i2_109) → R + 1 - y5_109 < nn109 → D_X8_isCleared_109 R C r c0 (D_X8_isCleared_2 R C r c0 nn2) nn109 y5_109 y3_109 f1_109 f2_109 i1_109 i2_109 = (o_x, o_F1, o_F2, o_S1, o_G1) → Bd κ A s (lA κ b_c (R * 5) f1_109 :: gO g_c R R b_c :: lA κ b_w (R * 5) f2_109 :: gO g_w R C b_w :: (s_0, .inr (9, [.ref g_w, .ref g_c, .int i1_109, .int i2_109])) :: w) H locs → ∀ ls : Array Slot, lv_has ls 6 [(5, .int (nI y5_109)), (3, .int y3_109), (4, .int (nI ml)), (0, .ref s_0), (1, .int (nI r)), (2, .int (nI c0))] → W p l e (Rm 3 74 0 0) s m args below meth c H locs (0) (0) Q (F0 m 109 ls []) := by
                  intro nn109
                  induction nn109 with
                  | zero => intro y5_109 y3_109 f1_109 f2_109 i1_109 i2_109 H locs hn5_109 hlo_109 hK_109 hμ; exact absurd hμ (Nat.not_lt_zero _)
                  | succ nn109 ih109 =>
                    intro y5_109 y3_109 f1_109 f2_109 i1_109 i2_109 H locs hn5_109 hlo_109 hK_109 hμ109 hR hB ls hl
                    replace hR := (D_X8_isCleared_109_s).symm.trans hR
                    refine lv_iload hx hb dX8_isCleared_109 (lv_at hl 0 rfl) ?_
                    refine lv_aload_n hx hb dX8_isCleared_111 rfl (lv_at hl 3 rfl) ?_
                    refine gf (k0 := 4) hX hB rfl rfl in8 0 (by decide) wm_6_159 rfl rfl dX8_isCleared_112 ?_
                    refine gf (k0 := 3) hX hB rfl rfl in7 0 (by decide) wm_5_146 rfl rfl dX8_isCleared_115 ?_
                    refine lv_icmp_ge (tgt := 158) hx hb dX8_isCleared_118 (by decide) (fun c247 => ?_) (fun c247 => ?_)
                    · rw [nleP (a := R) (b := y5_109) (by omega) (by omega)] at c247
                      replace hR := ifp c247 hR
                      refine lv_goto (tgt := 2) hx hb dX8_isCleared_158 (by decide) ?_
                      exact ih2 y3_109 f1_109 f2_109 i1_109 i2_109 (N_2 - 1) _ _ (KI_H hQ1 hQ3 hQ4 hK_109 (by omega)) (by omega) hR hB _ (lv_sub hl [1, 3, 4, 5] rfl)
                    · rw [nleP (a := R) (b := y5_109) (by omega) (by omega)] at c247
                      replace hR := ifn c247 hR
                      refine lv_aload_n hx hb dX8_isCleared_121 rfl (lv_at hl 3 rfl) ?_
                      refine lv_iload hx hb dX8_isCleared_122 (lv_at hl 0 rfl) ?_
                      refine lv_iload_n hx hb dX8_isCleared_124 rfl (lv_at hl 4 rfl) ?_
                      refine lv_iload_n hx hb dX8_isCleared_125 rfl (lv_at hl 5 rfl) ?_
                      obtain ⟨F248, F249, S250, G251, hd252⟩ := ex4 (D_X8_takeOff R C f1_109 f2_109 i1_109 i2_109 y5_109 r c0)
                      replace hR := bnd4_use hd252 hR
                      refine call_V (n := 3) (k0 := 4) (As := [.int (nI y5_109), .int (nI r), .int (nI c0)]) (rest := []) hX hB (k_X8_takeOff κ l (w) s_0 g_c b_c g_w b_w R C f1_109 f2_109 i1_109 i2_109 (nI y5_109) y5_109 (nI r) r (nI c0) c0 hs rfl rfl rfl (by omega) (by omega) (by omega) (by omega) (KI_pv hK_109 hQ3) F248 F249 S250 G251 hd252) ⟨rfl, yk_X8_takeOff⟩ wm_6_147 wm_6_149 wp_40 wm_1_15 wm_6_150 ⟨Nat.le_of_ble_eq_true rfl, Nat.le_of_ble_eq_true rfl⟩ ⟨Nat.le_of_ble_eq_true rfl, Nat.le_of_ble_eq_true rfl⟩ rfl rfl rfl rfl hl.1 rfl (Nat.le_of_ble_eq_true rfl) dX8_isCleared_126 (fun o w' H locs hp hB => ?_)
                      obtain ⟨rfl, hf253, hf254, hf255, hw9⟩ := hp
                      replace hB : Bd κ A s (lA κ b_c (R * 5) F248 :: gO g_c R R b_c :: lA κ b_w (R * 5) F249 :: gO g_w R C b_w :: (s_0, .inr (9, [.ref g_w, .ref g_c, .int S250, .int G251])) :: w) H locs := by rw [hw9] at hB; exact hB
                      refine W.eq (g2 := F0 m 129 ls []) rfl ?_
                      refine lv_iload_n hx hb dX8_isCleared_129 rfl (lv_at hl 1 rfl) ?_
                      refine lv_aload_n hx hb dX8_isCleared_130 rfl (lv_at hl 3 rfl) ?_
                      refine gf (k0 := 4) hX hB rfl rfl in8 0 (by decide) wm_6_159 rfl rfl dX8_isCleared_131 ?_
                      refine lv_iload hx hb dX8_isCleared_134 (lv_at hl 0 rfl) ?_
                      refine lv_iload_n hx hb dX8_isCleared_136 rfl (lv_at hl 5 rfl) ?_
                      refine call_V (n := 2) (k0 := 3) (As := [.int (nI y5_109), .int (nI c0)]) (rest := [.int y3_109]) hX hB (k_X7_at κ l (lA κ b_c (R * 5) F248 :: gO g_c R R b_c :: lA κ b_w (R * 5) F249 :: gO g_w R C b_w :: (s_0, .inr (9, [.ref g_w, .ref g_c, .int S250, .int G251])) :: w) 3 2 g_w b_w R C F249 (nI y5_109) y5_109 (nI c0) c0 rfl rfl hs rfl rfl (by omega)) ⟨rfl, yk_X7_at⟩ wm_6_143 wm_5_238 wm_5_239 wm_1_7 wm_6_0 ⟨Nat.le_of_ble_eq_true rfl, Nat.le_of_ble_eq_true rfl⟩ ⟨Nat.le_of_ble_eq_true rfl, Nat.le_of_ble_eq_true rfl⟩ rfl rfl rfl rfl hl.1 rfl (Nat.le_of_ble_eq_true rfl) dX8_isCleared_137 (fun o w' H locs hp hB => ?_)
                      obtain ⟨rfl, hw9⟩ := hp
                      replace hB : Bd κ A s (lA κ b_c (R * 5) F248 :: gO g_c R R b_c :: lA κ b_w (R * 5) F249 :: gO g_w R C b_w :: (s_0, .inr (9, [.ref g_w, .ref g_c, .int S250, .int G251])) :: w) H locs := by rw [hw9] at hB; exact hB
                      refine W.eq (g2 := F0 m 140 ls [.long (F249 (y5_109 * 5 + c0)), .int y3_109]) rfl ?_
                      refine lv_lconst (v := 0) hx hb dX8_isCleared_140 (by decide) ?_
                      refine W.lcmp hx hb dX8_isCleared_141 ?_
                      refine lv_if_eq (tgt := 149) hx hb dX8_isCleared_142 (by decide) (fun c256 => ?_) (fun c256 => ?_)
                      · replace hR := ifp c256 hR
                        refine lv_iconst (v := 0) hx hb dX8_isCleared_149 (by decide) ?_
                        refine lv_ior hx hb dX8_isCleared_150 ?_
                        refine lv_istore_n (lv' := [(3, .int (y3_109 ||| 0)), (5, .int (nI y5_109)), (4, .int (nI ml)), (0, .ref s_0), (1, .int (nI r)), (2, .int (nI c0))]) hx hb dX8_isCleared_151 rfl hl (by decide) rfl (fun ls hl => ?_)
                        refine lv_iinc (v := nI (y5_109 + 1)) (lv' := [(5, .int (nI (y5_109 + 1))), (3, .int (y3_109 ||| 0)), (4, .int (nI ml)), (0, .ref s_0), (1, .int (nI r)), (2, .int (nI c0))]) hx hb dX8_isCleared_152 hl (k := 1) rfl (nI_add y5_109 1) (by decide) rfl (fun ls hl => ?_)
                        refine lv_goto (tgt := 109) hx hb dX8_isCleared_155 (by decide) ?_
                        exact ih109 (y5_109 + 1) (y3_109 ||| 0) F248 F249 S250 G251 _ _ (by omega) (by omega) (KI_s0 hs4 hc0 ⟨hs1, hs2⟩ hrC hr hlo_109 (by omega) hQ3 hK_109 hf253 hf254 hf255 (by assumption)) (by omega) hR hB _ hl
                      · replace hR := ifn c256 hR
                        refine lv_iconst (v := 1) hx hb dX8_isCleared_145 (by decide) ?_
                        refine lv_goto (tgt := 150) hx hb dX8_isCleared_146 (by decide) ?_
                        refine lv_ior hx hb dX8_isCleared_150 ?_
                        refine lv_istore_n (lv' := [(3, .int (y3_109 ||| 1)), (5, .int (nI y5_109)), (4, .int (nI ml)), (0, .ref s_0), (1, .int (nI r)), (2, .int (nI c0))]) hx hb dX8_isCleared_151 rfl hl (by decide) rfl (fun ls hl => ?_)
                        refine lv_iinc (v := nI (y5_109 + 1)) (lv' := [(5, .int (nI (y5_109 + 1))), (3, .int (y3_109 ||| 1)), (4, .int (nI ml)), (0, .ref s_0), (1, .int (nI r)), (2, .int (nI c0))]) hx hb dX8_isCleared_152 hl (k := 1) rfl (nI_add y5_109 1) (by decide) rfl (fun ls hl => ?_)
                        refine lv_goto (tgt := 109) hx hb dX8_isCleared_155 (by decide) ?_
                        exact ih109 (y5_109 + 1) (y3_109 ||| 1) F248 F249 S250 G251 _ _ (by omega) (by omega) (KI_s1 hs4 hc0 ⟨hs1, hs2⟩ hrC hr hlo_109 (by omega) hQ3 hK_109 hf253 hf254 hf255 (by assumption)) (by omega) hR hB _ hl
                exact lp109 _ (r + 1) 0 f1_102 f2_102 i1_102 i2_2 _ _ (by omega) (by omega) (KI_0 hG hQ2) (Nat.lt_succ_self _) hR hB _ hl
              refine lv_if_ge (tgt := 102) hx hb dX8_isCleared_74 (by decide) (fun c257 => ?_) (fun c257 => ?_)
              · replace hR := ifp c257 hR
                exact jn102 f1_63 f2_63 i1_63 _ _ hJ1 hJ2 (pos_of (by assumption) hJ3.1) hJ3.2 hR hB _ hl
              · replace hR := ifn c257 hR
                refine lv_aload_n hx hb dX8_isCleared_77 rfl (lv_at hl 2 rfl) ?_
                refine gf (k0 := 4) hX hB rfl rfl in8 0 (by decide) wm_6_159 rfl rfl dX8_isCleared_78 ?_
                refine lv_iload_n hx hb dX8_isCleared_81 rfl (lv_at hl 3 rfl) ?_
                refine call_V (n := 1) (k0 := 3) (As := [.int (nI r)]) (rest := []) hX hB (k_X7_turnRow κ l (lA κ b_c (R * 5) f1_63 :: gO g_c R R b_c :: lA κ b_w (R * 5) f2_63 :: gO g_w R C b_w :: (s_0, .inr (9, [.ref g_w, .ref g_c, .int i1_63, .int i2_2])) :: w) 3 2 g_w b_w R C f2_63 (nI r) r rfl rfl hs rfl (by omega)) ⟨rfl, yk_X7_turnRow⟩ wm_6_146 wm_6_68 wm_6_69 wm_1_7 wm_6_70 ⟨Nat.le_of_ble_eq_true rfl, Nat.le_of_ble_eq_true rfl⟩ ⟨Nat.le_of_ble_eq_true rfl, Nat.le_of_ble_eq_true rfl⟩ rfl rfl rfl rfl hl.1 rfl (Nat.le_of_ble_eq_true rfl) dX8_isCleared_82 (fun o w' H locs hp hB => ?_)
                obtain ⟨rfl, hw9⟩ := hp
                replace hB : Bd κ A s (lA κ b_c (R * 5) f1_63 :: gO g_c R R b_c :: lA κ b_w (R * 5) (tr C r f2_63) :: gO g_w R C b_w :: (s_0, .inr (9, [.ref g_w, .ref g_c, .int i1_63, .int i2_2])) :: w) H locs := by rw [hw9] at hB; exact hB
                refine W.eq (g2 := F0 m 85 ls []) rfl ?_
                refine lv_aload_n hx hb dX8_isCleared_85 rfl (lv_at hl 2 rfl) ?_
                refine gf (k0 := 4) hX hB rfl rfl in8 1 (by decide) wm_6_161 rfl rfl dX8_isCleared_86 ?_
                refine lv_iload_n hx hb dX8_isCleared_89 rfl (lv_at hl 3 rfl) ?_
                refine call_V (n := 1) (k0 := 1) (As := [.int (nI r)]) (rest := []) hX hB (k_X7_turnRow κ l (lA κ b_c (R * 5) f1_63 :: gO g_c R R b_c :: lA κ b_w (R * 5) (tr C r f2_63) :: gO g_w R C b_w :: (s_0, .inr (9, [.ref g_w, .ref g_c, .int i1_63, .int i2_2])) :: w) 1 0 g_c b_c R R f1_63 (nI r) r rfl rfl ⟨by omega, by omega, by omega, by omega⟩ rfl (by omega)) ⟨rfl, yk_X7_turnRow⟩ wm_6_146 wm_6_68 wm_6_69 wm_1_7 wm_6_70 ⟨Nat.le_of_ble_eq_true rfl, Nat.le_of_ble_eq_true rfl⟩ ⟨Nat.le_of_ble_eq_true rfl, Nat.le_of_ble_eq_true rfl⟩ rfl rfl rfl rfl hl.1 rfl (Nat.le_of_ble_eq_true rfl) dX8_isCleared_90 (fun o w' H locs hp hB => ?_)
                obtain ⟨rfl, hw9⟩ := hp
                replace hB : Bd κ A s (lA κ b_c (R * 5) (tr R r f1_63) :: gO g_c R R b_c :: lA κ b_w (R * 5) (tr C r f2_63) :: gO g_w R C b_w :: (s_0, .inr (9, [.ref g_w, .ref g_c, .int i1_63, .int i2_2])) :: w) H locs := by rw [hw9] at hB; exact hB
                refine W.eq (g2 := F0 m 93 ls []) rfl ?_
                refine lv_aload_n hx hb dX8_isCleared_93 rfl (lv_at hl 2 rfl) ?_
                refine lv_aload_n hx hb dX8_isCleared_94 rfl (lv_at hl 2 rfl) ?_
                refine gf (k0 := 4) hX hB rfl rfl in8 2 (by decide) wm_6_163 rfl rfl dX8_isCleared_95 ?_
                refine lv_ineg hx hb dX8_isCleared_98 ?_
                refine pf (ty := .int) (k0 := 4) hX hB rfl rfl in8 tyX8_ok nmX8 2 (by decide) wm_6_163 rfl rfl rfl rfl rfl (Nat.le_of_ble_eq_true rfl) (w1 := lA κ b_c (R * 5) (tr R r f1_63) :: gO g_c R R b_c :: lA κ b_w (R * 5) (tr C r f2_63) :: gO g_w R C b_w :: (s_0, .inr (9, [.ref g_w, .ref g_c, .int (-i1_63), .int i2_2])) :: w) rfl dX8_isCleared_99 (fun H locs hB => ?_)
                exact jn102 (tr R r f1_63) (tr C r f2_63) (-i1_63) _ _ (hJ1.trans (RS_tr ⟨hs1, hs2⟩ hs4 hrC ⟨Nat.le_refl _, hr⟩)) (ng_tr hJ2) (by rw [tr_r hc0 hs4]; exact pos_neg (hJ2 _ (by omega)) (by assumption)) (by rw [tr_r hc0 hs4, na_neg (hJ2 _ (by omega))]; exact hJ3.2) hR hB _ hl
            refine lv_icmp_eq (tgt := 63) hx hb dX8_isCleared_31 (by decide) (fun c258 => ?_) (fun c258 => ?_)
            · rw [neqP (a := ml) (b := r) (by omega) (by omega)] at c258
              replace hR := ifp c258 hR
              exact jn63 f1_2 f2_2 i1_2 _ _ hH_2.1 (hH_2.2.1 hG) ((show ml = r by omega) ▸ ⟨hm3, hmN⟩) hR hB _ hl
            · rw [neqP (a := ml) (b := r) (by omega) (by omega)] at c258
              replace hR := ifn c258 hR
              refine lv_aload_n hx hb dX8_isCleared_34 rfl (lv_at hl 2 rfl) ?_
              refine gf (k0 := 4) hX hB rfl rfl in8 0 (by decide) wm_6_159 rfl rfl dX8_isCleared_35 ?_
              refine lv_iload hx hb dX8_isCleared_38 (lv_at hl 0 rfl) ?_
              refine lv_iload_n hx hb dX8_isCleared_40 rfl (lv_at hl 3 rfl) ?_
              refine call_V (n := 2) (k0 := 3) (As := [.int (nI ml), .int (nI r)]) (rest := []) hX hB (k_X7_exchangeRows κ l (lA κ b_c (R * 5) f1_2 :: gO g_c R R b_c :: lA κ b_w (R * 5) f2_2 :: gO g_w R C b_w :: (s_0, .inr (9, [.ref g_w, .ref g_c, .int i1_2, .int i2_2])) :: w) 3 2 g_w b_w R C f2_2 (nI ml) ml (nI r) r rfl rfl hs rfl rfl (by omega) (by omega)) ⟨rfl, yk_X7_exchangeRows⟩ wm_6_145 wm_6_52 wm_6_53 wm_1_7 wm_6_54 ⟨Nat.le_of_ble_eq_true rfl, Nat.le_of_ble_eq_true rfl⟩ ⟨Nat.le_of_ble_eq_true rfl, Nat.le_of_ble_eq_true rfl⟩ rfl rfl rfl rfl hl.1 rfl (Nat.le_of_ble_eq_true rfl) dX8_isCleared_41 (fun o w' H locs hp hB => ?_)
              obtain ⟨rfl, hw9⟩ := hp
              replace hB : Bd κ A s (lA κ b_c (R * 5) f1_2 :: gO g_c R R b_c :: lA κ b_w (R * 5) (xr C ml r f2_2) :: gO g_w R C b_w :: (s_0, .inr (9, [.ref g_w, .ref g_c, .int i1_2, .int i2_2])) :: w) H locs := by rw [hw9] at hB; exact hB
              refine W.eq (g2 := F0 m 44 ls []) rfl ?_
              refine lv_aload_n hx hb dX8_isCleared_44 rfl (lv_at hl 2 rfl) ?_
              refine gf (k0 := 4) hX hB rfl rfl in8 1 (by decide) wm_6_161 rfl rfl dX8_isCleared_45 ?_
              refine lv_iload hx hb dX8_isCleared_48 (lv_at hl 0 rfl) ?_
              refine lv_iload_n hx hb dX8_isCleared_50 rfl (lv_at hl 3 rfl) ?_
              refine call_V (n := 2) (k0 := 1) (As := [.int (nI ml), .int (nI r)]) (rest := []) hX hB (k_X7_exchangeRows κ l (lA κ b_c (R * 5) f1_2 :: gO g_c R R b_c :: lA κ b_w (R * 5) (xr C ml r f2_2) :: gO g_w R C b_w :: (s_0, .inr (9, [.ref g_w, .ref g_c, .int i1_2, .int i2_2])) :: w) 1 0 g_c b_c R R f1_2 (nI ml) ml (nI r) r rfl rfl ⟨by omega, by omega, by omega, by omega⟩ rfl rfl (by omega) (by omega)) ⟨rfl, yk_X7_exchangeRows⟩ wm_6_145 wm_6_52 wm_6_53 wm_1_7 wm_6_54 ⟨Nat.le_of_ble_eq_true rfl, Nat.le_of_ble_eq_true rfl⟩ ⟨Nat.le_of_ble_eq_true rfl, Nat.le_of_ble_eq_true rfl⟩ rfl rfl rfl rfl hl.1 rfl (Nat.le_of_ble_eq_true rfl) dX8_isCleared_51 (fun o w' H locs hp hB => ?_)
              obtain ⟨rfl, hw9⟩ := hp
              replace hB : Bd κ A s (lA κ b_c (R * 5) (xr R ml r f1_2) :: gO g_c R R b_c :: lA κ b_w (R * 5) (xr C ml r f2_2) :: gO g_w R C b_w :: (s_0, .inr (9, [.ref g_w, .ref g_c, .int i1_2, .int i2_2])) :: w) H locs := by rw [hw9] at hB; exact hB
              refine W.eq (g2 := F0 m 54 ls []) rfl ?_
              refine lv_aload_n hx hb dX8_isCleared_54 rfl (lv_at hl 2 rfl) ?_
              refine lv_aload_n hx hb dX8_isCleared_55 rfl (lv_at hl 2 rfl) ?_
              refine gf (k0 := 4) hX hB rfl rfl in8 2 (by decide) wm_6_163 rfl rfl dX8_isCleared_56 ?_
              refine lv_ineg hx hb dX8_isCleared_59 ?_
              refine pf (ty := .int) (k0 := 4) hX hB rfl rfl in8 tyX8_ok nmX8 2 (by decide) wm_6_163 rfl rfl rfl rfl rfl (Nat.le_of_ble_eq_true rfl) (w1 := lA κ b_c (R * 5) (xr R ml r f1_2) :: gO g_c R R b_c :: lA κ b_w (R * 5) (xr C ml r f2_2) :: gO g_w R C b_w :: (s_0, .inr (9, [.ref g_w, .ref g_c, .int (-i1_2), .int i2_2])) :: w) rfl dX8_isCleared_60 (fun H locs hB => ?_)
              exact jn63 (xr R ml r f1_2) (xr C ml r f2_2) (-i1_2) _ _ (hH_2.1.trans (RS_xr ⟨hs1, hs2⟩ hrC hs4 ⟨hm1, hm2⟩ ⟨Nat.le_refl _, hr⟩ (by omega))) (ng_xr hm2 hr (hH_2.2.1 hG)) (by rw [xr_r hc0 hs4]; exact ⟨hm3, hmN⟩) hR hB _ hl
  exact lp2 (1000000000 + 1) 1 f1 f2 i1 i2 N0 _ _ (HI_0 hgr hng hN0) (by omega) hR hB _ hl
noncomputable def D_X8_rank_20 (C : Nat) (f2 : Nat → Int64) (lb4 : Nat → Nat → Int32) (y2_4 : Nat) (y1_4 : Nat) (nn : Nat) : Nat → Int32 → Int32 := @Nat.rec (fun _ => Nat → Int32 → Int32) (fun _ _ => default) (fun _ lb20 (y4_20 : Nat) (y3_20 : Int32) => (if C ≤ y4_20 then (if y3_20 = 0 then (lb4 (y2_4 + 1) (y1_4 + 0)) else (lb4 (y2_4 + 1) (y1_4 + 1))) else (if (lg_cmp (f2 (y2_4 * 5 + y4_20)) 0) = 0 then (lb20 (y4_20 + 1) (y3_20 ||| 0)) else (lb20 (y4_20 + 1) (y3_20 ||| 1))))) nn
theorem D_X8_rank_20_s {C : Nat} {f2 : Nat → Int64} {lb4 : Nat → Nat → Int32} {y2_4 : Nat} {y1_4 : Nat} {nn : Nat} {y4_20 : Nat} {y3_20 : Int32} : D_X8_rank_20 C f2 lb4 y2_4 y1_4 (nn + 1) y4_20 y3_20 = (if C ≤ y4_20 then (if y3_20 = 0 then (lb4 (y2_4 + 1) (y1_4 + 0)) else (lb4 (y2_4 + 1) (y1_4 + 1))) else (if (lg_cmp (f2 (y2_4 * 5 + y4_20)) 0) = 0 then ((D_X8_rank_20 C f2 lb4 y2_4 y1_4 nn) (y4_20 + 1) (y3_20 ||| 0)) else ((D_X8_rank_20 C f2 lb4 y2_4 y1_4 nn) (y4_20 + 1) (y3_20 ||| 1)))) := rfl
noncomputable def D_X8_rank_4 (R : Nat) (C : Nat) (f2 : Nat → Int64) (nn : Nat) : Nat → Nat → Int32 := @Nat.rec (fun _ => Nat → Nat → Int32) (fun _ _ => default) (fun _ lb4 (y2_4 : Nat) (y1_4 : Nat) => (if R ≤ y2_4 then nI y1_4 else (D_X8_rank_20 C f2 lb4 y2_4 y1_4 (C + 1 - 0 + 1) 0 0))) nn
theorem D_X8_rank_4_s {R : Nat} {C : Nat} {f2 : Nat → Int64} {nn : Nat} {y2_4 : Nat} {y1_4 : Nat} : D_X8_rank_4 R C f2 (nn + 1) y2_4 y1_4 = (if R ≤ y2_4 then nI y1_4 else (D_X8_rank_20 C f2 (D_X8_rank_4 R C f2 nn) y2_4 y1_4 (C + 1 - 0 + 1) 0 0)) := rfl
noncomputable def D_X8_rank (R : Nat) (C : Nat) (f1 : Nat → Int64) (f2 : Nat → Int64) (i1 : Int32) (i2 : Int32) : Int32 := (D_X8_rank_4 R C f2 (R + 1 - 0 + 1) 0 0)
theorem D_X8_rank_s {R : Nat} {C : Nat} {f1 : Nat → Int64} {f2 : Nat → Int64} {i1 : Int32} {i2 : Int32} : D_X8_rank R C f1 f2 i1 i2 = (D_X8_rank_4 R C f2 (R + 1 - 0 + 1) 0 0) := rfl
set_option maxHeartbeats 4000000 in
set_option maxRecDepth 100000 in
theorem k_X8_rank (κ : Kt) (l : Launch) (w : va_W) (s_0 g_c b_c g_w b_w R C : Nat) (f1 f2 : Nat → Int64) (i1 i2 : Int32) (hs : shp R C) (o_x : Int32) (hR : D_X8_rank R C f1 f2 i1 i2 = o_x) : CM κ l yX8_rank cX8_rank 5 (some .int) 1 22 0 0 [.ref s_0] (lA κ b_c (R * 5) f1 :: gO g_c R R b_c :: lA κ b_w (R * 5) f2 :: gO g_w R C b_w :: (s_0, .inr (9, [.ref g_w, .ref g_c, .int i1, .int i2])) :: w) (fun o w' => o = some (.int o_x) ∧ w' = lA κ b_c (R * 5) f1 :: gO g_c R R b_c :: lA κ b_w (R * 5) f2 :: gO g_w R C b_w :: (s_0, .inr (9, [.ref g_w, .ref g_c, .int i1, .int i2])) :: w) := by
  have hs0 := hs
  obtain ⟨hs1, hs2, hs3, hs4⟩ := hs0
  refine CM_begin (plainFor_of_name pn_RX8) (Nat.le_of_ble_eq_true rfl) ?_
  intro p e s m args below meth c A Q hX hnm hA3 hQ hB ls hl
  have hx := hX.1.1
  have hb := hX.1.2.1
  have hl : lv_has ls 5 [(0, .ref s_0)] := hl
  replace hR := (D_X8_rank_s).symm.trans hR
  refine lv_iconst (v := 0) hx hb dX8_rank_0 (by decide) ?_
  refine lv_istore_n (lv' := [(1, .int 0), (0, .ref s_0)]) hx hb dX8_rank_1 rfl hl (by decide) rfl (fun ls hl => ?_)
  refine lv_iconst (v := 0) hx hb dX8_rank_2 (by decide) ?_
  refine lv_istore_n (lv' := [(2, .int 0), (1, .int 0), (0, .ref s_0)]) hx hb dX8_rank_3 rfl hl (by decide) rfl (fun ls hl => ?_)
  have lp4 : ∀ (nn4 : Nat) (y2_4 : Nat) (y1_4 : Nat) (H : Heap) (locs : List Loc), (y2_4 ≤ R) → R + 1 - y2_4 < nn4 → D_X8_rank_4 R C f2 nn4 y2_4 y1_4 = o_x → Bd κ A s (lA κ b_c (R * 5) f1 :: gO g_c R R b_c :: lA κ b_w (R * 5) f2 :: gO g_w R C b_w :: (s_0, .inr (9, [.ref g_w, .ref g_c, .int i1, .int i2])) :: w) H locs → ∀ ls : Array Slot, lv_has ls 5 [(2, .int (nI y2_4)), (1, .int (nI y1_4)), (0, .ref s_0)] → W p l e (Rm 1 22 0 0) s m args below meth c H locs (0) (0) Q (F0 m 4 ls []) := by
    intro nn4
    induction nn4 with
    | zero => intro y2_4 y1_4 H locs hn2_4 hμ; exact absurd hμ (Nat.not_lt_zero _)
    | succ nn4 ih4 =>
      intro y2_4 y1_4 H locs hn2_4 hμ4 hR hB ls hl
      replace hR := (D_X8_rank_4_s).symm.trans hR
      refine lv_iload_n hx hb dX8_rank_4 rfl (lv_at hl 0 rfl) ?_
      refine lv_aload_n hx hb dX8_rank_5 rfl (lv_at hl 2 rfl) ?_
      refine gf (k0 := 4) hX hB rfl rfl in8 0 (by decide) wm_6_159 rfl rfl dX8_rank_6 ?_
      refine gf (k0 := 3) hX hB rfl rfl in7 0 (by decide) wm_5_146 rfl rfl dX8_rank_9 ?_
      refine lv_icmp_ge (tgt := 79) hx hb dX8_rank_12 (by decide) (fun c33 => ?_) (fun c33 => ?_)
      · rw [nleP (a := R) (b := y2_4) (by omega) (by omega)] at c33
        replace hR := ifp c33 hR
        refine lv_iload_n hx hb dX8_rank_79 rfl (lv_at hl 1 rfl) ?_
        rw [← hQ]
        exact end_i hX hB hA3 rfl rfl (by obtain rfl := hR; exact ⟨rfl, rfl⟩) (Nat.le_of_ble_eq_true rfl) (Nat.le_of_ble_eq_true rfl) dX8_rank_80
      · rw [nleP (a := R) (b := y2_4) (by omega) (by omega)] at c33
        replace hR := ifn c33 hR
        refine lv_iconst (v := 0) hx hb dX8_rank_15 (by decide) ?_
        refine lv_istore_n (lv' := [(3, .int 0), (2, .int (nI y2_4)), (1, .int (nI y1_4)), (0, .ref s_0)]) hx hb dX8_rank_16 rfl hl (by decide) rfl (fun ls hl => ?_)
        refine lv_iconst (v := 0) hx hb dX8_rank_17 (by decide) ?_
        refine lv_istore (lv' := [(4, .int 0), (3, .int 0), (2, .int (nI y2_4)), (1, .int (nI y1_4)), (0, .ref s_0)]) hx hb dX8_rank_18 hl (by decide) rfl (fun ls hl => ?_)
        have lp20 : ∀ (nn20 : Nat) (y4_20 : Nat) (y3_20 : Int32) (H : Heap) (locs : List Loc), (y4_20 ≤ C) → C + 1 - y4_20 < nn20 → D_X8_rank_20 C f2 (D_X8_rank_4 R C f2 nn4) y2_4 y1_4 nn20 y4_20 y3_20 = o_x → Bd κ A s (lA κ b_c (R * 5) f1 :: gO g_c R R b_c :: lA κ b_w (R * 5) f2 :: gO g_w R C b_w :: (s_0, .inr (9, [.ref g_w, .ref g_c, .int i1, .int i2])) :: w) H locs → ∀ ls : Array Slot, lv_has ls 5 [(4, .int (nI y4_20)), (3, .int y3_20), (2, .int (nI y2_4)), (1, .int (nI y1_4)), (0, .ref s_0)] → W p l e (Rm 1 22 0 0) s m args below meth c H locs (0) (0) Q (F0 m 20 ls []) := by
          intro nn20
          induction nn20 with
          | zero => intro y4_20 y3_20 H locs hn4_20 hμ; exact absurd hμ (Nat.not_lt_zero _)
          | succ nn20 ih20 =>
            intro y4_20 y3_20 H locs hn4_20 hμ20 hR hB ls hl
            replace hR := (D_X8_rank_20_s).symm.trans hR
            refine lv_iload hx hb dX8_rank_20 (lv_at hl 0 rfl) ?_
            refine lv_aload_n hx hb dX8_rank_22 rfl (lv_at hl 4 rfl) ?_
            refine gf (k0 := 4) hX hB rfl rfl in8 0 (by decide) wm_6_159 rfl rfl dX8_rank_23 ?_
            refine gf (k0 := 3) hX hB rfl rfl in7 1 (by decide) wm_5_151 rfl rfl dX8_rank_26 ?_
            refine lv_icmp_ge (tgt := 61) hx hb dX8_rank_29 (by decide) (fun c46 => ?_) (fun c46 => ?_)
            · rw [nleP (a := C) (b := y4_20) (by omega) (by omega)] at c46
              replace hR := ifp c46 hR
              refine lv_iload_n hx hb dX8_rank_61 rfl (lv_at hl 3 rfl) ?_
              refine lv_iload_n hx hb dX8_rank_62 rfl (lv_at hl 1 rfl) ?_
              refine lv_if_eq (tgt := 70) hx hb dX8_rank_63 (by decide) (fun c47 => ?_) (fun c47 => ?_)
              · replace hR := ifp c47 hR
                refine lv_iconst (v := 0) hx hb dX8_rank_70 (by decide) ?_
                refine lv_iadd hx hb dX8_rank_71 ?_
                refine eqi (y := nI (y1_4 + 0)) (nI_add y1_4 0) ?_
                refine lv_istore_n (lv' := [(1, .int (nI (y1_4 + 0))), (4, .int (nI y4_20)), (3, .int y3_20), (2, .int (nI y2_4)), (0, .ref s_0)]) hx hb dX8_rank_72 rfl hl (by decide) rfl (fun ls hl => ?_)
                refine lv_iinc (v := nI (y2_4 + 1)) (lv' := [(2, .int (nI (y2_4 + 1))), (1, .int (nI (y1_4 + 0))), (4, .int (nI y4_20)), (3, .int y3_20), (0, .ref s_0)]) hx hb dX8_rank_73 hl (k := 3) rfl (nI_add y2_4 1) (by decide) rfl (fun ls hl => ?_)
                refine lv_goto (tgt := 4) hx hb dX8_rank_76 (by decide) ?_
                exact ih4 (y2_4 + 1) (y1_4 + 0) _ _ (by omega) (by omega) hR hB _ (lv_sub hl [0, 1, 4] rfl)
              · replace hR := ifn c47 hR
                refine lv_iconst (v := 1) hx hb dX8_rank_66 (by decide) ?_
                refine lv_goto (tgt := 71) hx hb dX8_rank_67 (by decide) ?_
                refine lv_iadd hx hb dX8_rank_71 ?_
                refine eqi (y := nI (y1_4 + 1)) (nI_add y1_4 1) ?_
                refine lv_istore_n (lv' := [(1, .int (nI (y1_4 + 1))), (4, .int (nI y4_20)), (3, .int y3_20), (2, .int (nI y2_4)), (0, .ref s_0)]) hx hb dX8_rank_72 rfl hl (by decide) rfl (fun ls hl => ?_)
                refine lv_iinc (v := nI (y2_4 + 1)) (lv' := [(2, .int (nI (y2_4 + 1))), (1, .int (nI (y1_4 + 1))), (4, .int (nI y4_20)), (3, .int y3_20), (0, .ref s_0)]) hx hb dX8_rank_73 hl (k := 3) rfl (nI_add y2_4 1) (by decide) rfl (fun ls hl => ?_)
                refine lv_goto (tgt := 4) hx hb dX8_rank_76 (by decide) ?_
                exact ih4 (y2_4 + 1) (y1_4 + 1) _ _ (by omega) (by omega) hR hB _ (lv_sub hl [0, 1, 4] rfl)
            · rw [nleP (a := C) (b := y4_20) (by omega) (by omega)] at c46
              replace hR := ifn c46 hR
              refine lv_iload_n hx hb dX8_rank_32 rfl (lv_at hl 1 rfl) ?_
              refine lv_aload_n hx hb dX8_rank_33 rfl (lv_at hl 4 rfl) ?_
              refine gf (k0 := 4) hX hB rfl rfl in8 0 (by decide) wm_6_159 rfl rfl dX8_rank_34 ?_
              refine lv_iload_n hx hb dX8_rank_37 rfl (lv_at hl 2 rfl) ?_
              refine lv_iload hx hb dX8_rank_38 (lv_at hl 0 rfl) ?_
              refine call_V (n := 2) (k0 := 3) (As := [.int (nI y2_4), .int (nI y4_20)]) (rest := [.int y3_20]) hX hB (k_X7_at κ l (lA κ b_c (R * 5) f1 :: gO g_c R R b_c :: lA κ b_w (R * 5) f2 :: gO g_w R C b_w :: (s_0, .inr (9, [.ref g_w, .ref g_c, .int i1, .int i2])) :: w) 3 2 g_w b_w R C f2 (nI y2_4) y2_4 (nI y4_20) y4_20 rfl rfl hs rfl rfl (by omega)) ⟨rfl, yk_X7_at⟩ wm_6_143 wm_5_238 wm_5_239 wm_1_7 wm_6_0 ⟨Nat.le_of_ble_eq_true rfl, Nat.le_of_ble_eq_true rfl⟩ ⟨Nat.le_of_ble_eq_true rfl, Nat.le_of_ble_eq_true rfl⟩ rfl rfl rfl rfl hl.1 rfl (Nat.le_of_ble_eq_true rfl) dX8_rank_40 (fun o w' H locs hp hB => ?_)
              obtain ⟨rfl, hw9⟩ := hp
              replace hB : Bd κ A s (lA κ b_c (R * 5) f1 :: gO g_c R R b_c :: lA κ b_w (R * 5) f2 :: gO g_w R C b_w :: (s_0, .inr (9, [.ref g_w, .ref g_c, .int i1, .int i2])) :: w) H locs := by rw [hw9] at hB; exact hB
              refine W.eq (g2 := F0 m 43 ls [.long (f2 (y2_4 * 5 + y4_20)), .int y3_20]) rfl ?_
              refine lv_lconst (v := 0) hx hb dX8_rank_43 (by decide) ?_
              refine W.lcmp hx hb dX8_rank_44 ?_
              refine lv_if_eq (tgt := 52) hx hb dX8_rank_45 (by decide) (fun c48 => ?_) (fun c48 => ?_)
              · replace hR := ifp c48 hR
                refine lv_iconst (v := 0) hx hb dX8_rank_52 (by decide) ?_
                refine lv_ior hx hb dX8_rank_53 ?_
                refine lv_istore_n (lv' := [(3, .int (y3_20 ||| 0)), (4, .int (nI y4_20)), (2, .int (nI y2_4)), (1, .int (nI y1_4)), (0, .ref s_0)]) hx hb dX8_rank_54 rfl hl (by decide) rfl (fun ls hl => ?_)
                refine lv_iinc (v := nI (y4_20 + 1)) (lv' := [(4, .int (nI (y4_20 + 1))), (3, .int (y3_20 ||| 0)), (2, .int (nI y2_4)), (1, .int (nI y1_4)), (0, .ref s_0)]) hx hb dX8_rank_55 hl (k := 1) rfl (nI_add y4_20 1) (by decide) rfl (fun ls hl => ?_)
                refine lv_goto (tgt := 20) hx hb dX8_rank_58 (by decide) ?_
                exact ih20 (y4_20 + 1) (y3_20 ||| 0) _ _ (by omega) (by omega) hR hB _ hl
              · replace hR := ifn c48 hR
                refine lv_iconst (v := 1) hx hb dX8_rank_48 (by decide) ?_
                refine lv_goto (tgt := 53) hx hb dX8_rank_49 (by decide) ?_
                refine lv_ior hx hb dX8_rank_53 ?_
                refine lv_istore_n (lv' := [(3, .int (y3_20 ||| 1)), (4, .int (nI y4_20)), (2, .int (nI y2_4)), (1, .int (nI y1_4)), (0, .ref s_0)]) hx hb dX8_rank_54 rfl hl (by decide) rfl (fun ls hl => ?_)
                refine lv_iinc (v := nI (y4_20 + 1)) (lv' := [(4, .int (nI (y4_20 + 1))), (3, .int (y3_20 ||| 1)), (2, .int (nI y2_4)), (1, .int (nI y1_4)), (0, .ref s_0)]) hx hb dX8_rank_55 hl (k := 1) rfl (nI_add y4_20 1) (by decide) rfl (fun ls hl => ?_)
                refine lv_goto (tgt := 20) hx hb dX8_rank_58 (by decide) ?_
                exact ih20 (y4_20 + 1) (y3_20 ||| 1) _ _ (by omega) (by omega) hR hB _ hl
        exact lp20 _ 0 0 _ _ (by omega) (Nat.lt_succ_self _) hR hB _ hl
  exact lp4 _ 0 0 _ _ (by omega) (Nat.lt_succ_self _) hR hB _ hl

theorem dtn_congr {R : Nat} {F f : Nat → Int64} (h1 : 1 ≤ R) (h4 : R ≤ 4) (h : ∀ k, k < R * 5 → F k = f k) : dtn R F = dtn R f := by
  rcases c4 h1 h4 with rfl | rfl | rfl | rfl <;> simp [dtn, dt2, dt3, dt4, h]
/-- the loop of the constructor -/
def JI (R C : Nat) (f : Nat → Int64) (r c0 : Nat) (F : Nat → Int64) (G : Int32) : Prop := (G = 0 → ∀ k, k < R * 5 → ng (F k)) ∧ (G = 0 → R = C → dtn R f ≠ 0 → r = c0 ∧ Tri R r F ∧ dtn R F ≠ 0)
section JIS
variable {R C r c0 : Nat} {f F F1 : Nat → Int64} {G G1 : Int32}
theorem JI_0 (h1 : 1 ≤ R) (h4 : R ≤ 4) (hc : ∀ k, k < R * 5 → F k = f k) (hng : ∀ k, k < R * 5 → ng (f k)) : JI R C f 0 0 F G :=
  ⟨fun _ k hk => by rw [hc k hk]; exact hng k hk, fun _ _ hd => ⟨rfl, fun j hj => absurd hj (Nat.not_lt_zero j), by rw [dtn_congr h1 h4 hc]; exact hd⟩⟩
theorem JI_s1 (hJ : JI R C f r c0 F G) (hG : G = 0) (h : CI R C r c0 F F1 G1 1) : JI R C f (r + 1) (c0 + 1) F1 G1 := by
  refine ⟨h.2.1, fun hg e hd => ?_⟩
  obtain ⟨a1, a2, a3⟩ := hJ.2 hG e hd
  obtain ⟨b1, b2⟩ := h.2.2.1 rfl
  subst a1
  refine ⟨rfl, fun j hj => ?_, fun z => a3 ((h.1.2 e).mp z)⟩
  by_cases ej : j = r
  · subst ej
    exact ⟨b1, fun i h1 h2 => b2 hg i h1 h2⟩
  · exact h.1.1 a2 j (by omega)
theorem JI_s0 (hJ : JI R C f r c0 F G) (hR4 : R ≤ 4) (hr : r < R) (hG : G = 0) (h : CI R C r c0 F F1 G1 0) : JI R C f r (c0 + 1) F1 G1 := by
  refine ⟨h.2.1, fun hg e hd => ?_⟩
  obtain ⟨a1, a2, a3⟩ := hJ.2 hG e hd
  subst a1
  exact absurd ((h.1.2 e).mp (tri_0 hR4 hr (h.1.1 a2) (h.2.2.2 rfl))) a3
theorem JI_d (hJ : JI R C f r c0 F G) (h : C ≤ c0 ∨ R ≤ r) (hrc : c0 ≤ C) : G = 0 → R = C → dtn R f ≠ 0 → ∀ j, j < R → F (j * 5 + j) ≠ 0 := by
  intro hg e hd j hj
  obtain ⟨a1, a2, a3⟩ := hJ.2 hg e hd
  exact (a2 j (by omega)).1
end JIS

noncomputable def D_X8_init_32 (R : Nat) (C : Nat) (nn : Nat) : Nat → Nat → (Nat → Int64) → (Nat → Int64) → Int32 → Int32 → (Nat → Int64) × (Nat → Int64) × Int32 × Int32 := @Nat.rec (fun _ => Nat → Nat → (Nat → Int64) → (Nat → Int64) → Int32 → Int32 → (Nat → Int64) × (Nat → Int64) × Int32 × Int32) (fun _ _ _ _ _ _ => default) (fun _ lb32 (y3_32 : Nat) (y2_32 : Nat) (fq2_32 : Nat → Int64) (fq7_32 : Nat → Int64) (i1_32 : Int32) (i2_32 : Int32) => (if C ≤ y3_32 then (fq7_32, fq2_32, i1_32, i2_32) else (if R ≤ y2_32 then (fq7_32, fq2_32, i1_32, i2_32) else (if i2_32 = 0 then bnd5 (D_X8_isCleared R C fq7_32 fq2_32 i1_32 i2_32 y2_32 y3_32) (fun (x40 : Int32) (F41 : Nat → Int64) (F42 : Nat → Int64) (S43 : Int32) (G44 : Int32) => (if x40 = 0 then (lb32 (y3_32 + 1) y2_32 F42 F41 S43 G44) else (lb32 (y3_32 + 1) (y2_32 + 1) F42 F41 S43 G44))) else (fq7_32, fq2_32, i1_32, i2_32))))) nn
theorem D_X8_init_32_s {R : Nat} {C : Nat} {nn : Nat} {y3_32 : Nat} {y2_32 : Nat} {fq2_32 : Nat → Int64} {fq7_32 : Nat → Int64} {i1_32 : Int32} {i2_32 : Int32} : D_X8_init_32 R C (nn + 1) y3_32 y2_32 fq2_32 fq7_32 i1_32 i2_32 = (if C ≤ y3_32 then (fq7_32, fq2_32, i1_32, i2_32) else (if R ≤ y2_32 then (fq7_32, fq2_32, i1_32, i2_32) else (if i2_32 = 0 then bnd5 (D_X8_isCleared R C fq7_32 fq2_32 i1_32 i2_32 y2_32 y3_32) (fun (x40 : Int32) (F41 : Nat → Int64) (F42 : Nat → Int64) (S43 : Int32) (G44 : Int32) => (if x40 = 0 then ((D_X8_init_32 R C nn) (y3_32 + 1) y2_32 F42 F41 S43 G44) else ((D_X8_init_32 R C nn) (y3_32 + 1) (y2_32 + 1) F42 F41 S43 G44))) else (fq7_32, fq2_32, i1_32, i2_32)))) := rfl
noncomputable def D_X8_init (R : Nat) (C : Nat) (f : Nat → Int64) : (Nat → Int64) × (Nat → Int64) × Int32 × Int32 := bnd1 (D_X7_copy R C f) (fun (F3 : Nat → Int64) => bnd1 (D_X7_unit R) (fun (F8 : Nat → Int64) => (D_X8_init_32 R C (C + 1 - 0 + 1) 0 0 F3 F8 1 0)))
theorem D_X8_init_s {R : Nat} {C : Nat} {f : Nat → Int64} : D_X8_init R C f = bnd1 (D_X7_copy R C f) (fun (F3 : Nat → Int64) => bnd1 (D_X7_unit R) (fun (F8 : Nat → Int64) => (D_X8_init_32 R C (C + 1 - 0 + 1) 0 0 F3 F8 1 0))) := rfl
set_option maxHeartbeats 4000000 in
set_option maxRecDepth 100000 in
theorem k_X8_init (κ : Kt) (l : Launch) (w : va_W) (s_0 k1 k2 g b R C : Nat) (f : Nat → Int64) (h1 : w[k1]? = some (gO g R C b)) (h2 : w[k2]? = some (lA κ b (R * 5) f)) (hs : shp R C) (hng : ∀ k, k < R * 5 → ng (f k)) (o_F1 : Nat → Int64) (o_F2 : Nat → Int64) (o_S1 : Int32) (o_G1 : Int32) (hR : D_X8_init R C f = (o_F1, o_F2, o_S1, o_G1)) : CM κ l yX8_init cX8_init 4 (none) 4 99 4 46 [.ref s_0, .ref g] ((s_0, .inr (9, [.null, .null, .int 0, .int 0])) :: w) (fun o w' => ∃ (g_c : Nat) (b_c : Nat) (g_w : Nat) (b_w : Nat), o = none ∧ (o_G1 = 0 → R = C → dtn R f ≠ 0 → ∀ j, j < R → o_F2 (j * 5 + j) ≠ 0) ∧ w' = lA κ b_c (R * 5) o_F1 :: gO g_c R R b_c :: lA κ b_w (R * 5) o_F2 :: gO g_w R C b_w :: (s_0, .inr (9, [.ref g_w, .ref g_c, .int o_S1, .int o_G1])) :: w) := by
  have hs0 := hs
  obtain ⟨hs1, hs2, hs3, hs4⟩ := hs0
  refine CM_begin (plainFor_of_name pn_RX8) (Nat.le_of_ble_eq_true rfl) ?_
  intro p e s m args below meth c A Q hX hnm hA3 hQ hB ls hl
  have hx := hX.1.1
  have hb := hX.1.2.1
  have hl : lv_has ls 4 [(0, .ref s_0), (1, .ref g)] := hl
  replace hR := (D_X8_init_s).symm.trans hR
  refine lv_aload_n hx hb dX8_init_0 rfl (lv_at hl 0 rfl) ?_
  refine W.objInit hx hb hX.1.2.2.2.1 (hX.1.2.2.2.2 _ wm_6_132) (hX.1.2.2.2.2 _ wm_1_36) (hX.1.2.2.2.2 _ wm_1_37) rfl (by rw [hX.1.2.2.1]; exact hl.1) rfl dX8_init_1 (Nat.le_of_ble_eq_true rfl) (Nat.le_of_ble_eq_true rfl) ?_
  refine W.eq (g2 := F0 m 4 ls []) rfl ?_
  refine lv_aload_n hx hb dX8_init_4 rfl (lv_at hl 0 rfl) ?_
  refine lv_iconst (v := 1) hx hb dX8_init_5 (by decide) ?_
  refine pf (ty := .int) (k0 := 0) hX hB rfl rfl in8 tyX8_ok nmX8 2 (by decide) wm_6_163 rfl rfl rfl rfl rfl (Nat.le_of_ble_eq_true rfl) (w1 := (s_0, .inr (9, [.null, .null, .int 1, .int 0])) :: w) rfl dX8_init_6 (fun H locs hB => ?_)
  refine lv_aload_n hx hb dX8_init_9 rfl (lv_at hl 0 rfl) ?_
  refine lv_aload_n hx hb dX8_init_10 rfl (lv_at hl 1 rfl) ?_
  obtain ⟨F3, hd4⟩ := ex1 (D_X7_copy R C f)
  replace hR := bnd1_use hd4 hR
  refine call_V (n := 0) (k0 := (k1 + 1)) (As := []) (rest := [.ref s_0]) hX hB (k_X7_copy κ l ((s_0, .inr (9, [.null, .null, .int 1, .int 0])) :: w) (k1 + 1) (k2 + 1) g b R C f h1 h2 hs F3 hd4) ⟨rfl, yk_X7_copy⟩ wm_6_133 wm_6_24 wm_6_25 wm_1_7 wm_6_26 ⟨Nat.le_of_ble_eq_true rfl, Nat.le_of_ble_eq_true rfl⟩ ⟨Nat.le_of_ble_eq_true rfl, Nat.le_of_ble_eq_true rfl⟩ h1 rfl rfl rfl hl.1 rfl (Nat.le_of_ble_eq_true rfl) dX8_init_11 (fun o w' H locs hp hB => ?_)
  obtain ⟨q1, q2, rfl, hf5, hw9⟩ := hp
  replace hB : Bd κ A s (lA κ q2 (R * 5) F3 :: gO q1 R C q2 :: (s_0, .inr (9, [.null, .null, .int 1, .int 0])) :: w) H locs := by rw [hw9] at hB; exact hB
  refine W.eq (g2 := F0 m 14 ls [.ref q1, .ref s_0]) rfl ?_
  refine pfF (ty := .object "GridmenderModel$Grid") (k0 := 2) hX hnm hB rfl rfl in8 tyX8_ok nmX8 0 (by decide) wm_6_159 rfl rfl rfl rfl rfl rfl (Nat.le_of_ble_eq_true rfl) (w1 := lA κ q2 (R * 5) F3 :: gO q1 R C q2 :: (s_0, .inr (9, [.ref q1, .null, .int 1, .int 0])) :: w) rfl dX8_init_14 (fun H locs hB => ?_)
  refine lv_aload_n hx hb dX8_init_17 rfl (lv_at hl 0 rfl) ?_
  refine lv_aload_n hx hb dX8_init_18 rfl (lv_at hl 1 rfl) ?_
  refine gf (k0 := k1 + 3) hX hB h1 rfl in7 0 (by decide) wm_5_146 rfl rfl dX8_init_19 ?_
  obtain ⟨F8, hd9⟩ := ex1 (D_X7_unit R)
  replace hR := bnd1_use hd9 hR
  refine call_S (n := 1) (As := [.int (nI R)]) (rest := [.ref s_0]) hX hB (k_X7_unit κ l (lA κ q2 (R * 5) F3 :: gO q1 R C q2 :: (s_0, .inr (9, [.ref q1, .null, .int 1, .int 0])) :: w) (nI R) R rfl (by omega) (by omega) F8 hd9) yk_X7_unit wm_6_134 wm_5_217 wm_1_7 wm_5_218 ⟨Nat.le_of_ble_eq_true rfl, Nat.le_of_ble_eq_true rfl⟩ ⟨Nat.le_of_ble_eq_true rfl, Nat.le_of_ble_eq_true rfl⟩ rfl hl.1 rfl (Nat.le_of_ble_eq_true rfl) dX8_init_22 (fun o w' H locs hp hB => ?_)
  obtain ⟨q6, q7, rfl, hf10, hw9⟩ := hp
  replace hB : Bd κ A s (lA κ q7 (R * 5) F8 :: gO q6 R R q7 :: lA κ q2 (R * 5) F3 :: gO q1 R C q2 :: (s_0, .inr (9, [.ref q1, .null, .int 1, .int 0])) :: w) H locs := by rw [hw9] at hB; exact hB
  refine W.eq (g2 := F0 m 25 ls [.ref q6, .ref s_0]) rfl ?_
  refine pfF (ty := .object "GridmenderModel$Grid") (k0 := 4) hX hnm hB rfl rfl in8 tyX8_ok nmX8 1 (by decide) wm_6_161 rfl rfl rfl rfl rfl rfl (Nat.le_of_ble_eq_true rfl) (w1 := lA κ q7 (R * 5) F8 :: gO q6 R R q7 :: lA κ q2 (R * 5) F3 :: gO q1 R C q2 :: (s_0, .inr (9, [.ref q1, .ref q6, .int 1, .int 0])) :: w) rfl dX8_init_25 (fun H locs hB => ?_)
  refine lv_iconst (v := 0) hx hb dX8_init_28 (by decide) ?_
  refine lv_istore_n (lv' := [(2, .int 0), (0, .ref s_0), (1, .ref g)]) hx hb dX8_init_29 rfl hl (by decide) rfl (fun ls hl => ?_)
  refine lv_iconst (v := 0) hx hb dX8_init_30 (by decide) ?_
  refine lv_istore_n (lv' := [(3, .int 0), (2, .int 0), (0, .ref s_0), (1, .ref g)]) hx hb dX8_init_31 rfl hl (by decide) rfl (fun ls hl => ?_)
  have lp32 : ∀ (nn32 : Nat) (y3_32 : Nat) (y2_32 : Nat) (fq2_32 : Nat → Int64) (fq7_32 : Nat → Int64) (i1_32 : Int32) (i2_32 : Int32) (H : Heap) (locs : List Loc), (y3_32 ≤ C) → (y2_32 ≤ y3_32 ∧ y2_32 ≤ R) → (JI R C f y2_32 y3_32 fq2_32 i2_32) → C + 1 - y3_32 < nn32 → D_X8_init_32 R C nn32 y3_32 y2_32 fq2_32 fq7_32 i1_32 i2_32 = (o_F1, o_F2, o_S1, o_G1) → Bd κ A s (lA κ q7 (R * 5) fq7_32 :: gO q6 R R q7 :: lA κ q2 (R * 5) fq2_32 :: gO q1 R C q2 :: (s_0, .inr (9, [.ref q1, .ref q6, .int i1_32, .int i2_32])) :: w) H locs → ∀ ls : Array Slot, lv_has ls 4 [(3, .int (nI y3_32)), (2, .int (nI y2_32)), (0, .ref s_0), (1, .ref g)] → W p l e (Rm 4 99 4 46) s m args below meth c H locs (4) (46) Q (F0 m 32 ls []) := by
    intro nn32
    induction nn32 with
    | zero => intro y3_32 y2_32 fq2_32 fq7_32 i1_32 i2_32 H locs hn3_32 hr0 hJ_32 hμ; exact absurd hμ (Nat.not_lt_zero _)
    | succ nn32 ih32 =>
      intro y3_32 y2_32 fq2_32 fq7_32 i1_32 i2_32 H locs hn3_32 hr0 hJ_32 hμ32 hR hB ls hl
      replace hR := (D_X8_init_32_s).symm.trans hR
      refine lv_iload_n hx hb dX8_init_32 rfl (lv_at hl 0 rfl) ?_
      refine lv_aload_n hx hb dX8_init_33 rfl (lv_at hl 2 rfl) ?_
      refine gf (k0 := 4) hX hB rfl rfl in8 0 (by decide) wm_6_159 rfl rfl dX8_init_34 ?_
      refine gf (k0 := 3) hX hB rfl rfl in7 1 (by decide) wm_5_151 rfl rfl dX8_init_37 ?_
      refine lv_icmp_ge (tgt := 79) hx hb dX8_init_40 (by decide) (fun c37 => ?_) (fun c37 => ?_)
      · rw [nleP (a := C) (b := y3_32) (by omega) (by omega)] at c37
        replace hR := ifp c37 hR
        have hX1 : C ≤ y3_32 ∨ R ≤ y2_32 := Or.inl c37
        rw [← hQ]
        exact end_v hX hB hA3 rfl (by obtain ⟨rfl, rfl, rfl, rfl⟩ := pr4 hR; exact ⟨q6, q7, q1, q2, rfl, (by first | exact JI_d hJ_32 hX1 (by omega) | exact fun h => absurd h hX2), rfl⟩) (Nat.le_of_ble_eq_true rfl) (Nat.le_of_ble_eq_true rfl) dX8_init_79
      · rw [nleP (a := C) (b := y3_32) (by omega) (by omega)] at c37
        replace hR := ifn c37 hR
        refine lv_iload_n hx hb dX8_init_43 rfl (lv_at hl 1 rfl) ?_
        refine lv_aload_n hx hb dX8_init_44 rfl (lv_at hl 2 rfl) ?_
        refine gf (k0 := 4) hX hB rfl rfl in8 0 (by decide) wm_6_159 rfl rfl dX8_init_45 ?_
        refine gf (k0 := 3) hX hB rfl rfl in7 0 (by decide) wm_5_146 rfl rfl dX8_init_48 ?_
        refine lv_icmp_ge (tgt := 79) hx hb dX8_init_51 (by decide) (fun c38 => ?_) (fun c38 => ?_)
        · rw [nleP (a := R) (b := y2_32) (by omega) (by omega)] at c38
          replace hR := ifp c38 hR
          have hX1 : C ≤ y3_32 ∨ R ≤ y2_32 := Or.inr c38
          rw [← hQ]
          exact end_v hX hB hA3 rfl (by obtain ⟨rfl, rfl, rfl, rfl⟩ := pr4 hR; exact ⟨q6, q7, q1, q2, rfl, (by first | exact JI_d hJ_32 hX1 (by omega) | exact fun h => absurd h hX2), rfl⟩) (Nat.le_of_ble_eq_true rfl) (Nat.le_of_ble_eq_true rfl) dX8_init_79
        · rw [nleP (a := R) (b := y2_32) (by omega) (by omega)] at c38
          replace hR := ifn c38 hR
          refine lv_aload_n hx hb dX8_init_54 rfl (lv_at hl 2 rfl) ?_
          refine gf (k0 := 4) hX hB rfl rfl in8 3 (by decide) wm_6_165 rfl rfl dX8_init_55 ?_
          refine lv_if_ne (tgt := 79) hx hb dX8_init_58 (by decide) (fun c39 => ?_) (fun c39 => ?_)
          · replace hR := ifn c39 hR
            have hX2 := c39
            rw [← hQ]
            exact end_v hX hB hA3 rfl (by obtain ⟨rfl, rfl, rfl, rfl⟩ := pr4 hR; exact ⟨q6, q7, q1, q2, rfl, (by first | exact JI_d hJ_32 hX1 (by omega) | exact fun h => absurd h hX2), rfl⟩) (Nat.le_of_ble_eq_true rfl) (Nat.le_of_ble_eq_true rfl) dX8_init_79
          · replace hR := ifp c39 hR
            have hG := c39
            refine lv_aload_n hx hb dX8_init_61 rfl (lv_at hl 2 rfl) ?_
            refine lv_iload_n hx hb dX8_init_62 rfl (lv_at hl 1 rfl) ?_
            refine lv_iload_n hx hb dX8_init_63 rfl (lv_at hl 0 rfl) ?_
            obtain ⟨x40, F41, F42, S43, G44, hd45⟩ := ex5 (D_X8_isCleared R C fq7_32 fq2_32 i1_32 i2_32 y2_32 y3_32)
            replace hR := bnd5_use hd45 hR
            refine call_V (n := 2) (k0 := 4) (As := [.int (nI y2_32), .int (nI y3_32)]) (rest := []) hX hB (k_X8_isCleared κ l (w) s_0 q6 q7 q1 q2 R C fq7_32 fq2_32 i1_32 i2_32 (nI y2_32) y2_32 (nI y3_32) y3_32 ⟨by omega, by omega, by omega, by omega⟩ rfl rfl (by omega) (by omega) (by omega) hG (hJ_32.1 hG) x40 F41 F42 S43 G44 hd45) ⟨rfl, yk_X8_isCleared⟩ wm_6_135 wm_6_137 wp_38 wm_1_15 wm_6_138 ⟨Nat.le_of_ble_eq_true rfl, Nat.le_of_ble_eq_true rfl⟩ ⟨Nat.le_of_ble_eq_true rfl, Nat.le_of_ble_eq_true rfl⟩ rfl rfl rfl rfl hl.1 rfl (Nat.le_of_ble_eq_true rfl) dX8_init_64 (fun o w' H locs hp hB => ?_)
            obtain ⟨rfl, hf46, hf47, hw9⟩ := hp
            replace hB : Bd κ A s (lA κ q7 (R * 5) F41 :: gO q6 R R q7 :: lA κ q2 (R * 5) F42 :: gO q1 R C q2 :: (s_0, .inr (9, [.ref q1, .ref q6, .int S43, .int G44])) :: w) H locs := by rw [hw9] at hB; exact hB
            rcases hf46 with rfl | rfl
            · replace hR := ifp rfl hR
              refine W.eq (g2 := F0 m 67 ls [.int 0]) rfl ?_
              refine lv_if_eq (tgt := 73) hx hb dX8_init_67 (by decide) (fun _ => ?_) (fun c48 => False.elim (by revert c48; decide))
              refine lv_iinc (v := nI (y3_32 + 1)) (lv' := [(3, .int (nI (y3_32 + 1))), (2, .int (nI y2_32)), (0, .ref s_0), (1, .ref g)]) hx hb dX8_init_73 hl (k := 0) rfl (nI_add y3_32 1) (by decide) rfl (fun ls hl => ?_)
              refine lv_goto (tgt := 32) hx hb dX8_init_76 (by decide) ?_
              exact ih32 (y3_32 + 1) y2_32 F42 F41 S43 G44 _ _ (by omega) (⟨by omega, by omega⟩) (JI_s0 hJ_32 hs2 (by omega) hG hf47) (by omega) hR hB _ hl
            · replace hR := ifn (by decide) hR
              refine W.eq (g2 := F0 m 67 ls [.int 1]) rfl ?_
              refine lv_if_eq (tgt := 73) hx hb dX8_init_67 (by decide) (fun c49 => False.elim (by revert c49; decide)) (fun _ => ?_)
              refine lv_iinc (v := nI (y2_32 + 1)) (lv' := [(2, .int (nI (y2_32 + 1))), (3, .int (nI y3_32)), (0, .ref s_0), (1, .ref g)]) hx hb dX8_init_70 hl (k := 1) rfl (nI_add y2_32 1) (by decide) rfl (fun ls hl => ?_)
              refine lv_iinc (v := nI (y3_32 + 1)) (lv' := [(3, .int (nI (y3_32 + 1))), (2, .int (nI (y2_32 + 1))), (0, .ref s_0), (1, .ref g)]) hx hb dX8_init_73 hl (k := 1) rfl (nI_add y3_32 1) (by decide) rfl (fun ls hl => ?_)
              refine lv_goto (tgt := 32) hx hb dX8_init_76 (by decide) ?_
              exact ih32 (y3_32 + 1) (y2_32 + 1) F42 F41 S43 G44 _ _ (by omega) (⟨by omega, by omega⟩) (JI_s1 hJ_32 hG hf47) (by omega) hR hB _ hl
  exact lp32 _ 0 0 F3 F8 1 0 _ _ (by omega) (⟨by omega, by omega⟩) (JI_0 hs1 hs2 hf5 hng) (Nat.lt_succ_self _) hR hB _ hl
end
section
-- 37.rstra
theorem fitz {x : Int32} (h : x = 0 ∨ x = 1) : fits .boolean (.int x) = true := by rcases h with rfl | rfl <;> rfl
theorem or_b1 {x : Int32} (h : x = 0 ∨ x = 1) : x ||| 1 = 0 ∨ x ||| 1 = 1 := by rcases h with rfl | rfl <;> decide
theorem or_b0 {x : Int32} (h : x = 0 ∨ x = 1) : x ||| 0 = 0 ∨ x ||| 0 = 1 := by rcases h with rfl | rfl <;> decide
theorem or_z {x : Int32} (h : x ||| 0 = 0) : x = 0 := by rwa [Int32.or_zero] at h
section ILS
variable {u v t1 t2 : Int64} {x : Int32}
theorem il_1 (hn1 : ng u) (hn2 : ng v) (c1 : ¬ lg_cmp v 0 = 0) (c2 : ¬ lg_cmp u 0 = 0) (e1 : t1 = ab u) (e2 : t2 = ab v) (d : ¬ 0 ≤ lg_cmp t1 t2) : (1 : Int32) = 0 ∧ (u = 0 ∨ ¬ v = 0 ∧ na v ≤ na u) ∨ (1 : Int32) = 1 ∧ ¬ u = 0 ∧ (v = 0 ∨ na u < na v) := by
  subst e1; subst e2
  exact Or.inr ⟨rfl, fun e => c2 (lg0.mpr e), Or.inr ((ab_lt hn1 hn2).mp (Int32.not_le.mp d))⟩
theorem il_2 (c1 : lg_cmp v 0 = 0) (c2 : ¬ lg_cmp u 0 = 0) : (1 : Int32) = 0 ∧ (u = 0 ∨ ¬ v = 0 ∧ na v ≤ na u) ∨ (1 : Int32) = 1 ∧ ¬ u = 0 ∧ (v = 0 ∨ na u < na v) := Or.inr ⟨rfl, fun e => c2 (lg0.mpr e), Or.inl (lg0.mp c1)⟩
theorem il_3 (c1 : lg_cmp v 0 = 0) (c2 : lg_cmp u 0 = 0) : (0 : Int32) = 0 ∧ (u = 0 ∨ ¬ v = 0 ∧ na v ≤ na u) ∨ (0 : Int32) = 1 ∧ ¬ u = 0 ∧ (v = 0 ∨ na u < na v) := Or.inl ⟨rfl, Or.inl (lg0.mp c2)⟩
theorem il_4 (c1 : ¬ lg_cmp v 0 = 0) (c2 : lg_cmp u 0 = 0) : (0 : Int32) = 0 ∧ (u = 0 ∨ ¬ v = 0 ∧ na v ≤ na u) ∨ (0 : Int32) = 1 ∧ ¬ u = 0 ∧ (v = 0 ∨ na u < na v) := Or.inl ⟨rfl, Or.inl (lg0.mp c2)⟩
theorem il_5 (hn1 : ng u) (hn2 : ng v) (c1 : ¬ lg_cmp v 0 = 0) (c2 : ¬ lg_cmp u 0 = 0) (e1 : t1 = ab u) (e2 : t2 = ab v) (d : 0 ≤ lg_cmp t1 t2) : (0 : Int32) = 0 ∧ (u = 0 ∨ ¬ v = 0 ∧ na v ≤ na u) ∨ (0 : Int32) = 1 ∧ ¬ u = 0 ∧ (v = 0 ∨ na u < na v) := by
  subst e1; subst e2
  refine Or.inl ⟨rfl, Or.inr ⟨fun e => c1 (lg0.mpr e), ?_⟩⟩
  have := mt (ab_lt hn1 hn2).mpr (Int32.not_lt.mpr d)
  omega
end ILS
theorem ng_xc {R i j : Nat} {f : Nat → Int64} (hi : i < 5) (hj : j < 5) (h : ∀ k, k < R * 5 → ng (f k)) : ∀ k, k < R * 5 → ng (xc R i j f k) := by
  intro k hk
  unfold xc
  split
  · exact h _ (by omega)
  · split
    · exact h _ (by omega)
    · exact h k hk
def B1f (R C t r : Nat) (f F : Nat → Int64) : Prop := (∀ k, k < R * 5 → ng (F k)) ∧ (∀ j, j < C → F (t * 5 + j) = f (r * 5 + j)) ∧ (∀ k, k < t → F (k * 5 + k) = f (k * 5 + k)) ∧ (r = t → F = f)
def B2f (R t r c0 : Nat) (f F : Nat → Int64) : Prop := (∀ k, k < R * 5 → ng (F k)) ∧ F (t * 5 + t) = f (r * 5 + c0) ∧ (∀ k, k < t → F (k * 5 + k) = f (k * 5 + k)) ∧ (r = t → c0 = t → F = f)
/-- what 'bring' says -/
def BRf (R t r c0 : Nat) (f F : Nat → Int64) : Prop := (∀ k, k < R * 5 → ng (F k)) ∧ 0 < (F (t * 5 + t)).toInt ∧ na (F (t * 5 + t)) = na (f (r * 5 + c0)) ∧ (∀ k, k < t → F (k * 5 + k) = f (k * 5 + k)) ∧ (r = t → c0 = t → 0 < (f (t * 5 + t)).toInt → F = f)
section BRS
variable {R C t r c0 i : Nat} {f F F1 f0 : Nat → Int64} {G G1 G0 : Int32}
theorem B1_0 (h : ∀ k, k < R * 5 → ng (f k)) (e : r = t) : B1f R C t r f f := ⟨h, fun j _ => by rw [e], fun _ _ => rfl, fun _ => rfl⟩
theorem B1_1 (h : ∀ k, k < R * 5 → ng (f k)) (ht : t < r ∧ R ≤ 4) (hr : r < R) (hC : C ≤ 5) : B1f R C t r f (xr C r t f) := by
  refine ⟨ng_xr hr (by omega) h, fun j hj => ?_, fun k hk => ?_, fun e => by omega⟩
  · unfold xr
    rw [if_neg (by omega), if_pos (by omega)]
    congr 1
    omega
  · unfold xr
    rw [if_neg (by omega), if_neg (by omega)]
theorem B2_0 (h : B1f R C t r f F) (ht : t < C) (e : c0 = t) : B2f R t r c0 f F := ⟨h.1, by rw [h.2.1 t ht, e], h.2.2.1, fun a _ => h.2.2.2 a⟩
theorem B2_1 (h : B1f R C t r f F) (ht : t < R) (hc : t < c0) (hcC : c0 < C) (hr : t ≤ r) (hC : C ≤ 5) : B2f R t r c0 f (xc R c0 t F) := by
  refine ⟨ng_xc (by omega) (by omega) h.1, ?_, fun k hk => ?_, fun _ e => by omega⟩
  · rw [← h.2.1 c0 hcC]
    unfold xc
    rw [if_neg (by omega), if_pos (by omega)]
    congr 1
    omega
  · rw [← h.2.2.1 k hk]
    unfold xc
    rw [if_neg (by omega), if_neg (by omega)]
theorem BR_0 (h : B2f R t r c0 f F) (hnz : ¬ f (r * 5 + c0) = 0) (c : 0 ≤ lg_cmp (F (t * 5 + t)) 0) : BRf R t r c0 f F := ⟨h.1, pos_of c (by rw [h.2.1]; exact hnz), by rw [h.2.1], h.2.2.1, fun a b _ => h.2.2.2 a b⟩
theorem BR_1 (h : B2f R t r c0 f F) (ht : t < R ∧ t < C) (hC : C ≤ 5) (c : ¬ 0 ≤ lg_cmp (F (t * 5 + t)) 0) : BRf R t r c0 f (tr C t F) := by
  have hn := h.1 (t * 5 + t) (by omega)
  refine ⟨ng_tr h.1, ?_, ?_, fun k hk => ?_, fun a b z => ?_⟩
  · rw [tr_r (by omega) hC]
    exact pos_neg hn c
  · rw [tr_r (by omega) hC, na_neg hn, h.2.1]
  · rw [← h.2.2.1 k hk]
    unfold tr
    rw [if_neg (by omega)]
  · have e := h.2.2.2 a b
    rw [e] at c
    refine absurd ((lg_cmp_ge _ _).mpr (Int64.le_iff_toInt_le.mpr ?_)) c
    rw [show (0 : Int64).toInt = 0 from rfl]
    omega
/-- the rows below are taken off up to row i -/
def T1f (R C t : Nat) (f : Nat → Int64) (i : Nat) (F : Nat → Int64) (G : Int32) : Prop := (G = 0 ∨ G = 1) ∧ (∀ k, k ≤ t → ∀ j, j < 5 → F (k * 5 + j) = f (k * 5 + j)) ∧ (G = 0 → (∀ k, k < R * 5 → ng (F k)) ∧ ∀ a, t < a → a < i → 0 ≤ (F (a * 5 + t)).toInt ∧ (F (a * 5 + t)).toInt < (f (t * 5 + t)).toInt ∨ ¬ 0 < (f (t * 5 + t)).toInt)
theorem T1_0 (h : ∀ k, k < R * 5 → ng (f k)) (hg : G = 0 ∨ G = 1) : T1f R C t f (t + 1) f G := ⟨hg, fun _ _ _ _ => rfl, fun _ => ⟨h, fun a h1 h2 => absurd h2 (by omega)⟩⟩
theorem T1_pv (h : T1f R C t f i F G) (hp : 0 < (f (t * 5 + t)).toInt) (ht : t < 5 := by omega) : ¬ F (t * 5 + t) = 0 := by
  rw [h.2.1 t (Nat.le_refl _) t ht]
  intro e
  rw [e] at hp
  exact absurd hp (by decide)
theorem T1_s (hC : C ≤ 5) (ht : t < C) (hi : t + 1 ≤ i) (hiR : i < R) (h : T1f R C t f i F G) (hb : G1 = 0 ∨ G1 = 1) (hn : G1 = 0 → G = 0 ∧ ∀ k, k < R * 5 → ng (ar C i t (-(fdv (F (i * 5 + t)) (F (t * 5 + t)))) F k)) : T1f R C t f (i + 1) (ar C i t (-(fdv (F (i * 5 + t)) (F (t * 5 + t)))) F) G1 := by
  refine ⟨hb, fun k hk j hj => ?_, fun hg => ⟨(hn hg).2, fun a h1 h2 => ?_⟩⟩
  · rw [← h.2.1 k hk j hj]
    unfold ar
    rw [if_neg (by omega)]
  · by_cases hp : 0 < (f (t * 5 + t)).toInt
    · refine Or.inl ?_
      have hpF := h.2.1 t (Nat.le_refl _) t (by omega)
      by_cases e : a = i
      · subst e
        have e1 : ar C a t (-(fdv (F (a * 5 + t)) (F (t * 5 + t)))) F (a * 5 + t) = rmf (F (a * 5 + t)) (F (t * 5 + t)) := by
          unfold ar rmf
          rw [if_pos (by omega), show (a * 5 + t) % 5 = t by omega]
        rw [e1, hpF]
        exact rmf_int hp
      · have e1 : ar C i t (-(fdv (F (i * 5 + t)) (F (t * 5 + t)))) F (a * 5 + t) = F (a * 5 + t) := by
          unfold ar
          rw [if_neg (by omega)]
        rw [e1]
        exact (((h.2.2 (hn hg).1).2 a h1 (by omega))).resolve_right (fun z => z hp)
    · exact Or.inr hp
theorem T1_g (h : T1f R C t f i F G) (hg : ¬ G = 0) {n : Nat} : T1f R C t f n F G := ⟨h.1, h.2.1, fun z => absurd z hg⟩
/-- then the columns, up to column j -/
def T2f (R t : Nat) (F0 : Nat → Int64) (G0 : Int32) (j : Nat) (F : Nat → Int64) (G : Int32) : Prop := (G = 0 ∨ G = 1) ∧ (G = 0 → G0 = 0 ∧ ∀ k, k < R * 5 → ng (F k)) ∧ (∀ a, F (a * 5 + t) = F0 (a * 5 + t)) ∧ (∀ k, k < t → F (k * 5 + k) = F0 (k * 5 + k)) ∧ ∀ b, t < b → b < 5 → F (t * 5 + b) = if b < j then rmf (F0 (t * 5 + b)) (F0 (t * 5 + t)) else F0 (t * 5 + b)
theorem T2_0 (h : T1f R C t f i F G) : T2f R t F G (t + 1) F G := ⟨h.1, fun hg => ⟨hg, (h.2.2 hg).1⟩, fun _ => rfl, fun _ _ => rfl, fun b h1 _ => by rw [if_neg (by omega)]⟩
theorem T2_pv {n : Nat} (h : T1f R C t f i F G) (h2 : T2f R t F G n F1 G1) (hp : 0 < (f (t * 5 + t)).toInt) (ht : t < 5 := by omega) : ¬ F1 (t * 5 + t) = 0 := by
  rw [h2.2.2.1 t]
  exact T1_pv h hp ht
theorem T2_s {j : Nat} (hC : C ≤ 5) (htR : t < R) (hj : t + 1 ≤ j ∧ j < C) (h : T2f R t f0 G0 j F G) (hb : G1 = 0 ∨ G1 = 1) (hn : G1 = 0 → G = 0 ∧ ∀ k, k < R * 5 → ng (ac R j t (-(fdv (F (t * 5 + j)) (F (t * 5 + t)))) F k)) : T2f R t f0 G0 (j + 1) (ac R j t (-(fdv (F (t * 5 + j)) (F (t * 5 + t)))) F) G1 := by
  obtain ⟨h1, h2, h3, h4, h5⟩ := h
  refine ⟨hb, fun hg => ⟨(h2 (hn hg).1).1, (hn hg).2⟩, fun a => ?_, fun k hk => ?_, fun b b1 b2 => ?_⟩
  · rw [← h3 a]
    unfold ac
    rw [if_neg (by omega)]
  · rw [← h4 k hk]
    unfold ac
    rw [if_neg (by omega)]
  · by_cases e : b = j
    · subst e
      have e5 := h5 b b1 b2
      rw [if_neg (by omega)] at e5
      rw [if_pos (by omega), ← e5, ← h3 t]
      unfold ac rmf
      rw [if_pos (by omega), show (t * 5 + b) / 5 = t by omega]
    · have e1 : ac R j t (-(fdv (F (t * 5 + j)) (F (t * 5 + t)))) F (t * 5 + b) = F (t * 5 + b) := by
        unfold ac
        rw [if_neg (by omega)]
      rw [e1, h5 b b1 b2]
      by_cases b3 : b < j
      · rw [if_pos b3, if_pos (by omega)]
      · rw [if_neg b3, if_neg (by omega)]
/-- what takeOff says -/
def TKf (R C t : Nat) (f F : Nat → Int64) (G : Int32) : Prop := (G = 0 ∨ G = 1) ∧ F (t * 5 + t) = f (t * 5 + t) ∧ (∀ k, k < t → F (k * 5 + k) = f (k * 5 + k)) ∧ (G = 0 → (∀ k, k < R * 5 → ng (F k)) ∧ (∀ a, t < a → a < R → 0 ≤ (F (a * 5 + t)).toInt ∧ (F (a * 5 + t)).toInt < (f (t * 5 + t)).toInt) ∧ ∀ b, t < b → b < C → F (t * 5 + b) = rmf (f (t * 5 + b)) (f (t * 5 + t)))
theorem TK_0 {j : Nat} (hp : 0 < (f (t * 5 + t)).toInt) (ht : t < C) (hC : C ≤ 5) (h : T1f R C t f R F G) (h2 : T2f R t F G j F1 G1) (hj : j = C) : TKf R C t f F1 G1 := by
  obtain ⟨a1, a2, a3⟩ := h
  obtain ⟨b1, b2, b3, b4, b5⟩ := h2
  refine ⟨b1, by rw [b3 t, a2 t (Nat.le_refl _) t (by omega)], fun k hk => by rw [b4 k hk, a2 k (by omega) k (by omega)], fun hg => ⟨(b2 hg).2, fun a h3 h4 => ?_, fun b h3 h4 => ?_⟩⟩
  · rw [b3 a]
    exact ((a3 (b2 hg).1).2 a h3 h4).resolve_right (fun z => z hp)
  · rw [b5 b h3 (by omega), if_pos (by omega), a2 t (Nat.le_refl _) b (by omega), a2 t (Nat.le_refl _) t (by omega)]
theorem TK_1 {j : Nat} (ht : t < C) (hC : C ≤ 5) (h : T1f R C t f R F G) (h2 : T2f R t F G j F1 G1) (hg : ¬ G1 = 0) : TKf R C t f F1 G1 := by
  obtain ⟨a1, a2, a3⟩ := h
  obtain ⟨b1, b2, b3, b4, b5⟩ := h2
  exact ⟨b1, by rw [b3 t, a2 t (Nat.le_refl _) t (by omega)], fun k hk => by rw [b4 k hk, a2 k (by omega) k (by omega)], fun z => absurd z hg⟩
end BRS

noncomputable def D_X9_isLess (R : Nat) (C : Nat) (f1 : Nat → Int64) (f2 : Nat → Int64) (f3 : Nat → Int64) (i1 : Int32) (i2 : Int32) (i3 : Int32) (i4 : Int32) (u : Int64) (v : Int64) : Int32 := (if (lg_cmp v 0) = 0 then (if (lg_cmp u 0) = 0 then 0 else 1) else (if (lg_cmp u 0) = 0 then 0 else nm ((if 0 < u then u else -u) : Int64) (fun (t3 : Int64) => nm ((if 0 < v then v else -v) : Int64) (fun (t4 : Int64) => (if 0 ≤ (lg_cmp t3 t4) then 0 else 1)))))
theorem D_X9_isLess_s {R : Nat} {C : Nat} {f1 : Nat → Int64} {f2 : Nat → Int64} {f3 : Nat → Int64} {i1 : Int32} {i2 : Int32} {i3 : Int32} {i4 : Int32} {u : Int64} {v : Int64} : D_X9_isLess R C f1 f2 f3 i1 i2 i3 i4 u v = (if (lg_cmp v 0) = 0 then (if (lg_cmp u 0) = 0 then 0 else 1) else (if (lg_cmp u 0) = 0 then 0 else nm ((if 0 < u then u else -u) : Int64) (fun (t3 : Int64) => nm ((if 0 < v then v else -v) : Int64) (fun (t4 : Int64) => (if 0 ≤ (lg_cmp t3 t4) then 0 else 1))))) := rfl
set_option maxHeartbeats 4000000 in
set_option maxRecDepth 100000 in
theorem k_X9_isLess (κ : Kt) (l : Launch) (w : va_W) (s_0 g_r b_r g_l b_l g_w b_w R C : Nat) (f1 f2 f3 : Nat → Int64) (i1 i2 i3 i4 : Int32) (u : Int64) (v : Int64) (hs : shp R C) (hC4 : C ≤ 4) (hn1 : ng u) (hn2 : ng v) (o_x : Int32) (hR : D_X9_isLess R C f1 f2 f3 i1 i2 i3 i4 u v = o_x) : CM κ l yX9_isLess cX9_isLess 5 (some .boolean) 1 21 0 0 [.ref s_0, .long u, .long v] (lA κ b_r (C * 5) f1 :: gO g_r C C b_r :: lA κ b_l (R * 5) f2 :: gO g_l R R b_l :: lA κ b_w (R * 5) f3 :: gO g_w R C b_w :: (s_0, .inr (10, [.ref g_w, .ref g_l, .ref g_r, .int i1, .int i2, .int i3, .int i4])) :: w) (fun o w' => o = some (.int o_x) ∧ (o_x = 0 ∧ (u = 0 ∨ ¬ v = 0 ∧ na v ≤ na u) ∨ o_x = 1 ∧ ¬ u = 0 ∧ (v = 0 ∨ na u < na v)) ∧ w' = lA κ b_r (C * 5) f1 :: gO g_r C C b_r :: lA κ b_l (R * 5) f2 :: gO g_l R R b_l :: lA κ b_w (R * 5) f3 :: gO g_w R C b_w :: (s_0, .inr (10, [.ref g_w, .ref g_l, .ref g_r, .int i1, .int i2, .int i3, .int i4])) :: w) := by
  have hs0 := hs
  obtain ⟨hs1, hs2, hs3, hs4⟩ := hs0
  refine CM_begin (plainFor_of_name pn_RX9) (Nat.le_of_ble_eq_true rfl) ?_
  intro p e s m args below meth c A Q hX hnm hA3 hQ hB ls hl
  have hx := hX.1.1
  have hb := hX.1.2.1
  have hl : lv_has ls 5 [(0, .ref s_0), (1, .long u), (3, .long v)] := hl
  replace hR := (D_X9_isLess_s).symm.trans hR
  refine lv_lload_n hx hb dX9_isLess_0 rfl (lv_at hl 2 rfl) ?_
  refine lv_lconst (v := 0) hx hb dX9_isLess_1 (by decide) ?_
  refine W.lcmp hx hb dX9_isLess_2 ?_
  refine lv_if_ne (tgt := 20) hx hb dX9_isLess_3 (by decide) (fun c1 => ?_) (fun c1 => ?_)
  · replace hR := ifn c1 hR
    refine lv_lload_n hx hb dX9_isLess_20 rfl (lv_at hl 1 rfl) ?_
    refine lv_lconst (v := 0) hx hb dX9_isLess_21 (by decide) ?_
    refine W.lcmp hx hb dX9_isLess_22 ?_
    refine lv_if_eq (tgt := 42) hx hb dX9_isLess_23 (by decide) (fun c2 => ?_) (fun c2 => ?_)
    · replace hR := ifp c2 hR
      refine lv_iconst (v := 0) hx hb dX9_isLess_42 (by decide) ?_
      rw [← hQ]
      exact end_i hX hB hA3 rfl rfl (by obtain rfl := hR; exact ⟨rfl, (by first | exact il_1 hn1 hn2 (by assumption) (by assumption) (by assumption) (by assumption) (by assumption) | exact il_2 (by assumption) (by assumption) | exact il_3 (by assumption) (by assumption) | exact il_4 (by assumption) (by assumption) | exact il_5 hn1 hn2 (by assumption) (by assumption) (by assumption) (by assumption) (by assumption)), rfl⟩) (Nat.le_of_ble_eq_true rfl) (Nat.le_of_ble_eq_true rfl) dX9_isLess_43
    · replace hR := ifn c2 hR
      refine lv_lload_n hx hb dX9_isLess_26 rfl (lv_at hl 1 rfl) ?_
      refine va_mabs_long hx hb (by rw [hX.1.2.2.1]; exact hl.1.symm) hX.1.2.2.2.1 (hX.1.2.2.2.2 _ wm_6_193) (hX.1.2.2.2.2 _ wm_1_237) (hX.1.2.2.2.2 _ wm_1_14) (hX.1.2.2.2.2 _ wm_1_238) (Nat.le_of_ble_eq_true rfl) (Nat.le_of_ble_eq_true rfl) (Nat.le_of_ble_eq_true rfl) (Nat.le_of_ble_eq_true rfl) dX9_isLess_27 ?_
      refine lv_topl (fun t3 et3 => ?_)
      replace hR := nm_use et3 hR
      refine lv_lload_n hx hb dX9_isLess_30 rfl (lv_at hl 2 rfl) ?_
      refine va_mabs_long hx hb (by rw [hX.1.2.2.1]; exact hl.1.symm) hX.1.2.2.2.1 (hX.1.2.2.2.2 _ wm_6_193) (hX.1.2.2.2.2 _ wm_1_237) (hX.1.2.2.2.2 _ wm_1_14) (hX.1.2.2.2.2 _ wm_1_238) (Nat.le_of_ble_eq_true rfl) (Nat.le_of_ble_eq_true rfl) (Nat.le_of_ble_eq_true rfl) (Nat.le_of_ble_eq_true rfl) dX9_isLess_31 ?_
      refine lv_topl (fun t4 et4 => ?_)
      replace hR := nm_use et4 hR
      refine W.lcmp hx hb dX9_isLess_34 ?_
      refine lv_if_ge (tgt := 42) hx hb dX9_isLess_35 (by decide) (fun c5 => ?_) (fun c5 => ?_)
      · replace hR := ifp c5 hR
        refine lv_iconst (v := 0) hx hb dX9_isLess_42 (by decide) ?_
        rw [← hQ]
        exact end_i hX hB hA3 rfl rfl (by obtain rfl := hR; exact ⟨rfl, (by first | exact il_1 hn1 hn2 (by assumption) (by assumption) (by assumption) (by assumption) (by assumption) | exact il_2 (by assumption) (by assumption) | exact il_3 (by assumption) (by assumption) | exact il_4 (by assumption) (by assumption) | exact il_5 hn1 hn2 (by assumption) (by assumption) (by assumption) (by assumption) (by assumption)), rfl⟩) (Nat.le_of_ble_eq_true rfl) (Nat.le_of_ble_eq_true rfl) dX9_isLess_43
      · replace hR := ifn c5 hR
        refine lv_iconst (v := 1) hx hb dX9_isLess_38 (by decide) ?_
        refine lv_goto (tgt := 43) hx hb dX9_isLess_39 (by decide) ?_
        rw [← hQ]
        exact end_i hX hB hA3 rfl rfl (by obtain rfl := hR; exact ⟨rfl, (by first | exact il_1 hn1 hn2 (by assumption) (by assumption) (by assumption) (by assumption) (by assumption) | exact il_2 (by assumption) (by assumption) | exact il_3 (by assumption) (by assumption) | exact il_4 (by assumption) (by assumption) | exact il_5 hn1 hn2 (by assumption) (by assumption) (by assumption) (by assumption) (by assumption)), rfl⟩) (Nat.le_of_ble_eq_true rfl) (Nat.le_of_ble_eq_true rfl) dX9_isLess_43
  · replace hR := ifp c1 hR
    refine lv_lload_n hx hb dX9_isLess_6 rfl (lv_at hl 1 rfl) ?_
    refine lv_lconst (v := 0) hx hb dX9_isLess_7 (by decide) ?_
    refine W.lcmp hx hb dX9_isLess_8 ?_
    refine lv_if_eq (tgt := 16) hx hb dX9_isLess_9 (by decide) (fun c6 => ?_) (fun c6 => ?_)
    · replace hR := ifp c6 hR
      refine lv_iconst (v := 0) hx hb dX9_isLess_16 (by decide) ?_
      refine lv_goto (tgt := 43) hx hb dX9_isLess_17 (by decide) ?_
      rw [← hQ]
      exact end_i hX hB hA3 rfl rfl (by obtain rfl := hR; exact ⟨rfl, (by first | exact il_1 hn1 hn2 (by assumption) (by assumption) (by assumption) (by assumption) (by assumption) | exact il_2 (by assumption) (by assumption) | exact il_3 (by assumption) (by assumption) | exact il_4 (by assumption) (by assumption) | exact il_5 hn1 hn2 (by assumption) (by assumption) (by assumption) (by assumption) (by assumption)), rfl⟩) (Nat.le_of_ble_eq_true rfl) (Nat.le_of_ble_eq_true rfl) dX9_isLess_43
    · replace hR := ifn c6 hR
      refine lv_iconst (v := 1) hx hb dX9_isLess_12 (by decide) ?_
      refine lv_goto (tgt := 43) hx hb dX9_isLess_13 (by decide) ?_
      rw [← hQ]
      exact end_i hX hB hA3 rfl rfl (by obtain rfl := hR; exact ⟨rfl, (by first | exact il_1 hn1 hn2 (by assumption) (by assumption) (by assumption) (by assumption) (by assumption) | exact il_2 (by assumption) (by assumption) | exact il_3 (by assumption) (by assumption) | exact il_4 (by assumption) (by assumption) | exact il_5 hn1 hn2 (by assumption) (by assumption) (by assumption) (by assumption) (by assumption)), rfl⟩) (Nat.le_of_ble_eq_true rfl) (Nat.le_of_ble_eq_true rfl) dX9_isLess_43
noncomputable def D_X9_look (R : Nat) (C : Nat) (f1 : Nat → Int64) (f2 : Nat → Int64) (f3 : Nat → Int64) (i1 : Int32) (i2 : Int32) (i3 : Int32) (i4 : Int32) : Int32 := bnd1 (D_X7_isGreat R C f3) (fun (x1 : Int32) => (if x1 = 0 then bnd1 (D_X7_isGreat R R f2) (fun (x6 : Int32) => (if x6 = 0 then bnd1 (D_X7_isGreat C C f1) (fun (x11 : Int32) => (if x11 = 0 then i4 ||| 0 else i4 ||| 1)) else i4 ||| 1)) else i4 ||| 1))
theorem D_X9_look_s {R : Nat} {C : Nat} {f1 : Nat → Int64} {f2 : Nat → Int64} {f3 : Nat → Int64} {i1 : Int32} {i2 : Int32} {i3 : Int32} {i4 : Int32} : D_X9_look R C f1 f2 f3 i1 i2 i3 i4 = bnd1 (D_X7_isGreat R C f3) (fun (x1 : Int32) => (if x1 = 0 then bnd1 (D_X7_isGreat R R f2) (fun (x6 : Int32) => (if x6 = 0 then bnd1 (D_X7_isGreat C C f1) (fun (x11 : Int32) => (if x11 = 0 then i4 ||| 0 else i4 ||| 1)) else i4 ||| 1)) else i4 ||| 1)) := rfl
set_option maxHeartbeats 4000000 in
set_option maxRecDepth 100000 in
theorem k_X9_look (κ : Kt) (l : Launch) (w : va_W) (s_0 g_r b_r g_l b_l g_w b_w R C : Nat) (f1 f2 f3 : Nat → Int64) (i1 i2 i3 i4 : Int32) (hs : shp R C) (hC4 : C ≤ 4) (hgb : i4 = 0 ∨ i4 = 1) (o_G1 : Int32) (hR : D_X9_look R C f1 f2 f3 i1 i2 i3 i4 = o_G1) : CM κ l yX9_look cX9_look 1 (none) 1 25 0 0 [.ref s_0] (lA κ b_r (C * 5) f1 :: gO g_r C C b_r :: lA κ b_l (R * 5) f2 :: gO g_l R R b_l :: lA κ b_w (R * 5) f3 :: gO g_w R C b_w :: (s_0, .inr (10, [.ref g_w, .ref g_l, .ref g_r, .int i1, .int i2, .int i3, .int i4])) :: w) (fun o w' => o = none ∧ (o_G1 = 0 ∨ o_G1 = 1) ∧ (o_G1 = 0 → i4 = 0 ∧ ∀ k, k < R * 5 → ng (f3 k)) ∧ w' = lA κ b_r (C * 5) f1 :: gO g_r C C b_r :: lA κ b_l (R * 5) f2 :: gO g_l R R b_l :: lA κ b_w (R * 5) f3 :: gO g_w R C b_w :: (s_0, .inr (10, [.ref g_w, .ref g_l, .ref g_r, .int i1, .int i2, .int i3, .int o_G1])) :: w) := by
  have hs0 := hs
  obtain ⟨hs1, hs2, hs3, hs4⟩ := hs0
  refine CM_begin (plainFor_of_name pn_RX9) (Nat.le_of_ble_eq_true rfl) ?_
  intro p e s m args below meth c A Q hX hnm hA3 hQ hB ls hl
  have hx := hX.1.1
  have hb := hX.1.2.1
  have hl : lv_has ls 1 [(0, .ref s_0)] := hl
  replace hR := (D_X9_look_s).symm.trans hR
  refine lv_aload_n hx hb dX9_look_0 rfl (lv_at hl 0 rfl) ?_
  refine lv_dup hx hb dX9_look_1 rfl ?_
  refine gf (k0 := 6) hX hB rfl rfl in9 6 (by decide) wm_6_233 rfl rfl dX9_look_2 ?_
  refine lv_aload_n hx hb dX9_look_5 rfl (lv_at hl 0 rfl) ?_
  refine gf (k0 := 6) hX hB rfl rfl in9 0 (by decide) wm_6_221 rfl rfl dX9_look_6 ?_
  obtain ⟨x1, hd2⟩ := ex1 (D_X7_isGreat R C f3)
  replace hR := bnd1_use hd2 hR
  refine call_V (n := 0) (k0 := 5) (As := []) (rest := [.int i4, .ref s_0]) hX hB (k_X7_isGreat κ l (lA κ b_r (C * 5) f1 :: gO g_r C C b_r :: lA κ b_l (R * 5) f2 :: gO g_l R R b_l :: lA κ b_w (R * 5) f3 :: gO g_w R C b_w :: (s_0, .inr (10, [.ref g_w, .ref g_l, .ref g_r, .int i1, .int i2, .int i3, .int i4])) :: w) 5 4 g_w b_w R C f3 rfl rfl hs x1 hd2) ⟨rfl, yk_X7_isGreat⟩ wm_6_211 wm_6_154 wm_6_155 wm_1_7 wm_6_156 ⟨Nat.le_of_ble_eq_true rfl, Nat.le_of_ble_eq_true rfl⟩ ⟨Nat.le_of_ble_eq_true rfl, Nat.le_of_ble_eq_true rfl⟩ rfl rfl rfl rfl hl.1 rfl (Nat.le_of_ble_eq_true rfl) dX9_look_9 (fun o w' H locs hp hB => ?_)
  obtain ⟨rfl, hf3, hf4, hw9⟩ := hp
  replace hB : Bd κ A s (lA κ b_r (C * 5) f1 :: gO g_r C C b_r :: lA κ b_l (R * 5) f2 :: gO g_l R R b_l :: lA κ b_w (R * 5) f3 :: gO g_w R C b_w :: (s_0, .inr (10, [.ref g_w, .ref g_l, .ref g_r, .int i1, .int i2, .int i3, .int i4])) :: w) H locs := by rw [hw9] at hB; exact hB
  rcases hf3 with rfl | rfl
  · replace hR := ifp rfl hR
    refine W.eq (g2 := F0 m 12 ls [.int 0, .int i4, .ref s_0]) rfl ?_
    refine lv_if_ne (tgt := 35) hx hb dX9_look_12 (by decide) (fun c5 => False.elim (by revert c5; decide)) (fun _ => ?_)
    refine lv_aload_n hx hb dX9_look_15 rfl (lv_at hl 0 rfl) ?_
    refine gf (k0 := 6) hX hB rfl rfl in9 1 (by decide) wm_6_223 rfl rfl dX9_look_16 ?_
    obtain ⟨x6, hd7⟩ := ex1 (D_X7_isGreat R R f2)
    replace hR := bnd1_use hd7 hR
    refine call_V (n := 0) (k0 := 3) (As := []) (rest := [.int i4, .ref s_0]) hX hB (k_X7_isGreat κ l (lA κ b_r (C * 5) f1 :: gO g_r C C b_r :: lA κ b_l (R * 5) f2 :: gO g_l R R b_l :: lA κ b_w (R * 5) f3 :: gO g_w R C b_w :: (s_0, .inr (10, [.ref g_w, .ref g_l, .ref g_r, .int i1, .int i2, .int i3, .int i4])) :: w) 3 2 g_l b_l R R f2 rfl rfl ⟨by omega, by omega, by omega, by omega⟩ x6 hd7) ⟨rfl, yk_X7_isGreat⟩ wm_6_211 wm_6_154 wm_6_155 wm_1_7 wm_6_156 ⟨Nat.le_of_ble_eq_true rfl, Nat.le_of_ble_eq_true rfl⟩ ⟨Nat.le_of_ble_eq_true rfl, Nat.le_of_ble_eq_true rfl⟩ rfl rfl rfl rfl hl.1 rfl (Nat.le_of_ble_eq_true rfl) dX9_look_19 (fun o w' H locs hp hB => ?_)
    obtain ⟨rfl, hf8, hf9, hw9⟩ := hp
    replace hB : Bd κ A s (lA κ b_r (C * 5) f1 :: gO g_r C C b_r :: lA κ b_l (R * 5) f2 :: gO g_l R R b_l :: lA κ b_w (R * 5) f3 :: gO g_w R C b_w :: (s_0, .inr (10, [.ref g_w, .ref g_l, .ref g_r, .int i1, .int i2, .int i3, .int i4])) :: w) H locs := by rw [hw9] at hB; exact hB
    rcases hf8 with rfl | rfl
    · replace hR := ifp rfl hR
      refine W.eq (g2 := F0 m 22 ls [.int 0, .int i4, .ref s_0]) rfl ?_
      refine lv_if_ne (tgt := 35) hx hb dX9_look_22 (by decide) (fun c10 => False.elim (by revert c10; decide)) (fun _ => ?_)
      refine lv_aload_n hx hb dX9_look_25 rfl (lv_at hl 0 rfl) ?_
      refine gf (k0 := 6) hX hB rfl rfl in9 2 (by decide) wm_6_225 rfl rfl dX9_look_26 ?_
      obtain ⟨x11, hd12⟩ := ex1 (D_X7_isGreat C C f1)
      replace hR := bnd1_use hd12 hR
      refine call_V (n := 0) (k0 := 1) (As := []) (rest := [.int i4, .ref s_0]) hX hB (k_X7_isGreat κ l (lA κ b_r (C * 5) f1 :: gO g_r C C b_r :: lA κ b_l (R * 5) f2 :: gO g_l R R b_l :: lA κ b_w (R * 5) f3 :: gO g_w R C b_w :: (s_0, .inr (10, [.ref g_w, .ref g_l, .ref g_r, .int i1, .int i2, .int i3, .int i4])) :: w) 1 0 g_r b_r C C f1 rfl rfl ⟨by omega, by omega, by omega, by omega⟩ x11 hd12) ⟨rfl, yk_X7_isGreat⟩ wm_6_211 wm_6_154 wm_6_155 wm_1_7 wm_6_156 ⟨Nat.le_of_ble_eq_true rfl, Nat.le_of_ble_eq_true rfl⟩ ⟨Nat.le_of_ble_eq_true rfl, Nat.le_of_ble_eq_true rfl⟩ rfl rfl rfl rfl hl.1 rfl (Nat.le_of_ble_eq_true rfl) dX9_look_29 (fun o w' H locs hp hB => ?_)
      obtain ⟨rfl, hf13, hf14, hw9⟩ := hp
      replace hB : Bd κ A s (lA κ b_r (C * 5) f1 :: gO g_r C C b_r :: lA κ b_l (R * 5) f2 :: gO g_l R R b_l :: lA κ b_w (R * 5) f3 :: gO g_w R C b_w :: (s_0, .inr (10, [.ref g_w, .ref g_l, .ref g_r, .int i1, .int i2, .int i3, .int i4])) :: w) H locs := by rw [hw9] at hB; exact hB
      rcases hf13 with rfl | rfl
      · replace hR := ifp rfl hR
        refine W.eq (g2 := F0 m 32 ls [.int 0, .int i4, .ref s_0]) rfl ?_
        refine lv_if_eq (tgt := 39) hx hb dX9_look_32 (by decide) (fun _ => ?_) (fun c15 => False.elim (by revert c15; decide))
        refine lv_iconst (v := 0) hx hb dX9_look_39 (by decide) ?_
        refine lv_ior hx hb dX9_look_40 ?_
        refine pf (ty := .boolean) (k0 := 6) hX hB rfl rfl in9 tyX9_ok nmX9 6 (by decide) wm_6_233 rfl rfl rfl (nbz (by first | exact or_b1 hgb | exact or_b0 hgb)) (fitz (by first | exact or_b1 hgb | exact or_b0 hgb)) (Nat.le_of_ble_eq_true rfl) (w1 := lA κ b_r (C * 5) f1 :: gO g_r C C b_r :: lA κ b_l (R * 5) f2 :: gO g_l R R b_l :: lA κ b_w (R * 5) f3 :: gO g_w R C b_w :: (s_0, .inr (10, [.ref g_w, .ref g_l, .ref g_r, .int i1, .int i2, .int i3, .int (i4 ||| 0)])) :: w) rfl dX9_look_41 (fun H locs hB => ?_)
        rw [← hQ]
        exact end_v hX hB hA3 rfl (by obtain rfl := hR; exact ⟨rfl, (by first | exact or_b1 hgb | exact or_b0 hgb), (fun h => ⟨(or_z h), hf4 rfl⟩), rfl⟩) (Nat.le_of_ble_eq_true rfl) (Nat.le_of_ble_eq_true rfl) dX9_look_44
      · replace hR := ifn (by decide) hR
        refine W.eq (g2 := F0 m 32 ls [.int 1, .int i4, .ref s_0]) rfl ?_
        refine lv_if_eq (tgt := 39) hx hb dX9_look_32 (by decide) (fun c16 => False.elim (by revert c16; decide)) (fun _ => ?_)
        refine lv_iconst (v := 1) hx hb dX9_look_35 (by decide) ?_
        refine lv_goto (tgt := 40) hx hb dX9_look_36 (by decide) ?_
        refine lv_ior hx hb dX9_look_40 ?_
        refine pf (ty := .boolean) (k0 := 6) hX hB rfl rfl in9 tyX9_ok nmX9 6 (by decide) wm_6_233 rfl rfl rfl (nbz (by first | exact or_b1 hgb | exact or_b0 hgb)) (fitz (by first | exact or_b1 hgb | exact or_b0 hgb)) (Nat.le_of_ble_eq_true rfl) (w1 := lA κ b_r (C * 5) f1 :: gO g_r C C b_r :: lA κ b_l (R * 5) f2 :: gO g_l R R b_l :: lA κ b_w (R * 5) f3 :: gO g_w R C b_w :: (s_0, .inr (10, [.ref g_w, .ref g_l, .ref g_r, .int i1, .int i2, .int i3, .int (i4 ||| 1)])) :: w) rfl dX9_look_41 (fun H locs hB => ?_)
        rw [← hQ]
        exact end_v hX hB hA3 rfl (by obtain rfl := hR; exact ⟨rfl, (by first | exact or_b1 hgb | exact or_b0 hgb), (fun h => absurd h (or1 _)), rfl⟩) (Nat.le_of_ble_eq_true rfl) (Nat.le_of_ble_eq_true rfl) dX9_look_44
    · replace hR := ifn (by decide) hR
      refine W.eq (g2 := F0 m 22 ls [.int 1, .int i4, .ref s_0]) rfl ?_
      refine lv_if_ne (tgt := 35) hx hb dX9_look_22 (by decide) (fun _ => ?_) (fun c17 => False.elim (by revert c17; decide))
      refine lv_iconst (v := 1) hx hb dX9_look_35 (by decide) ?_
      refine lv_goto (tgt := 40) hx hb dX9_look_36 (by decide) ?_
      refine lv_ior hx hb dX9_look_40 ?_
      refine pf (ty := .boolean) (k0 := 6) hX hB rfl rfl in9 tyX9_ok nmX9 6 (by decide) wm_6_233 rfl rfl rfl (nbz (by first | exact or_b1 hgb | exact or_b0 hgb)) (fitz (by first | exact or_b1 hgb | exact or_b0 hgb)) (Nat.le_of_ble_eq_true rfl) (w1 := lA κ b_r (C * 5) f1 :: gO g_r C C b_r :: lA κ b_l (R * 5) f2 :: gO g_l R R b_l :: lA κ b_w (R * 5) f3 :: gO g_w R C b_w :: (s_0, .inr (10, [.ref g_w, .ref g_l, .ref g_r, .int i1, .int i2, .int i3, .int (i4 ||| 1)])) :: w) rfl dX9_look_41 (fun H locs hB => ?_)
      rw [← hQ]
      exact end_v hX hB hA3 rfl (by obtain rfl := hR; exact ⟨rfl, (by first | exact or_b1 hgb | exact or_b0 hgb), (fun h => absurd h (or1 _)), rfl⟩) (Nat.le_of_ble_eq_true rfl) (Nat.le_of_ble_eq_true rfl) dX9_look_44
  · replace hR := ifn (by decide) hR
    refine W.eq (g2 := F0 m 12 ls [.int 1, .int i4, .ref s_0]) rfl ?_
    refine lv_if_ne (tgt := 35) hx hb dX9_look_12 (by decide) (fun _ => ?_) (fun c18 => False.elim (by revert c18; decide))
    refine lv_iconst (v := 1) hx hb dX9_look_35 (by decide) ?_
    refine lv_goto (tgt := 40) hx hb dX9_look_36 (by decide) ?_
    refine lv_ior hx hb dX9_look_40 ?_
    refine pf (ty := .boolean) (k0 := 6) hX hB rfl rfl in9 tyX9_ok nmX9 6 (by decide) wm_6_233 rfl rfl rfl (nbz (by first | exact or_b1 hgb | exact or_b0 hgb)) (fitz (by first | exact or_b1 hgb | exact or_b0 hgb)) (Nat.le_of_ble_eq_true rfl) (w1 := lA κ b_r (C * 5) f1 :: gO g_r C C b_r :: lA κ b_l (R * 5) f2 :: gO g_l R R b_l :: lA κ b_w (R * 5) f3 :: gO g_w R C b_w :: (s_0, .inr (10, [.ref g_w, .ref g_l, .ref g_r, .int i1, .int i2, .int i3, .int (i4 ||| 1)])) :: w) rfl dX9_look_41 (fun H locs hB => ?_)
    rw [← hQ]
    exact end_v hX hB hA3 rfl (by obtain rfl := hR; exact ⟨rfl, (by first | exact or_b1 hgb | exact or_b0 hgb), (fun h => absurd h (or1 _)), rfl⟩) (Nat.le_of_ble_eq_true rfl) (Nat.le_of_ble_eq_true rfl) dX9_look_44
noncomputable def D_X9_bring_j64 (R : Nat) (C : Nat) (t : Nat) (f2_32 : Nat → Int64) (i1_32 : Int32) (f1_64 : Nat → Int64) (f3_64 : Nat → Int64) (i2_64 : Int32) : (Nat → Int64) × (Nat → Int64) × (Nat → Int64) × Int32 × Int32 := (if 0 ≤ (lg_cmp (f3_64 (t * 5 + t)) 0) then (f1_64, f2_32, f3_64, i1_32, i2_64) else (f1_64, tr R t f2_32, tr C t f3_64, -i1_32, i2_64))
theorem D_X9_bring_j64_s {R : Nat} {C : Nat} {t : Nat} {f2_32 : Nat → Int64} {i1_32 : Int32} {f1_64 : Nat → Int64} {f3_64 : Nat → Int64} {i2_64 : Int32} : D_X9_bring_j64 R C t f2_32 i1_32 f1_64 f3_64 i2_64 = (if 0 ≤ (lg_cmp (f3_64 (t * 5 + t)) 0) then (f1_64, f2_32, f3_64, i1_32, i2_64) else (f1_64, tr R t f2_32, tr C t f3_64, -i1_32, i2_64)) := rfl
noncomputable def D_X9_bring_j32 (R : Nat) (C : Nat) (f1 : Nat → Int64) (i2 : Int32) (t : Nat) (c0 : Nat) (f2_32 : Nat → Int64) (f3_32 : Nat → Int64) (i1_32 : Int32) : (Nat → Int64) × (Nat → Int64) × (Nat → Int64) × Int32 × Int32 := (if c0 = t then (D_X9_bring_j64 R C t f2_32 i1_32 f1 f3_32 i2) else (D_X9_bring_j64 R C t f2_32 i1_32 (xc C c0 t f1) (xc R c0 t f3_32) (-i2)))
theorem D_X9_bring_j32_s {R : Nat} {C : Nat} {f1 : Nat → Int64} {i2 : Int32} {t : Nat} {c0 : Nat} {f2_32 : Nat → Int64} {f3_32 : Nat → Int64} {i1_32 : Int32} : D_X9_bring_j32 R C f1 i2 t c0 f2_32 f3_32 i1_32 = (if c0 = t then (D_X9_bring_j64 R C t f2_32 i1_32 f1 f3_32 i2) else (D_X9_bring_j64 R C t f2_32 i1_32 (xc C c0 t f1) (xc R c0 t f3_32) (-i2))) := rfl
noncomputable def D_X9_bring (R : Nat) (C : Nat) (f1 : Nat → Int64) (f2 : Nat → Int64) (f3 : Nat → Int64) (i1 : Int32) (i2 : Int32) (i3 : Int32) (i4 : Int32) (t : Nat) (r : Nat) (c0 : Nat) : (Nat → Int64) × (Nat → Int64) × (Nat → Int64) × Int32 × Int32 := (if r = t then (D_X9_bring_j32 R C f1 i2 t c0 f2 f3 i1) else (D_X9_bring_j32 R C f1 i2 t c0 (xr R r t f2) (xr C r t f3) (-i1)))
theorem D_X9_bring_s {R : Nat} {C : Nat} {f1 : Nat → Int64} {f2 : Nat → Int64} {f3 : Nat → Int64} {i1 : Int32} {i2 : Int32} {i3 : Int32} {i4 : Int32} {t : Nat} {r : Nat} {c0 : Nat} : D_X9_bring R C f1 f2 f3 i1 i2 i3 i4 t r c0 = (if r = t then (D_X9_bring_j32 R C f1 i2 t c0 f2 f3 i1) else (D_X9_bring_j32 R C f1 i2 t c0 (xr R r t f2) (xr C r t f3) (-i1))) := rfl
set_option maxHeartbeats 4000000 in
set_option maxRecDepth 100000 in
theorem k_X9_bring (κ : Kt) (l : Launch) (w : va_W) (s_0 g_r b_r g_l b_l g_w b_w R C : Nat) (f1 f2 f3 : Nat → Int64) (i1 i2 i3 i4 : Int32) (xt : Int32) (t : Nat) (xr : Int32) (r : Nat) (xc0 : Int32) (c0 : Nat) (hs : shp R C) (hC4 : C ≤ 4) (hxt : xt = nI t) (hxr : xr = nI r) (hxc0 : xc0 = nI c0) (ht : t ≤ r ∧ r < R ∧ t ≤ c0 ∧ c0 < C) (hng : ∀ k, k < R * 5 → ng (f3 k)) (hnz : ¬ f3 (r * 5 + c0) = 0) (o_F1 : Nat → Int64) (o_F2 : Nat → Int64) (o_F3 : Nat → Int64) (o_S1 : Int32) (o_S2 : Int32) (hR : D_X9_bring R C f1 f2 f3 i1 i2 i3 i4 t r c0 = (o_F1, o_F2, o_F3, o_S1, o_S2)) : CM κ l yX9_bring cX9_bring 4 (none) 2 49 0 0 [.ref s_0, .int xt, .int xr, .int xc0] (lA κ b_r (C * 5) f1 :: gO g_r C C b_r :: lA κ b_l (R * 5) f2 :: gO g_l R R b_l :: lA κ b_w (R * 5) f3 :: gO g_w R C b_w :: (s_0, .inr (10, [.ref g_w, .ref g_l, .ref g_r, .int i1, .int i2, .int i3, .int i4])) :: w) (fun o w' => o = none ∧ (BRf R t r c0 f3 o_F3) ∧ w' = lA κ b_r (C * 5) o_F1 :: gO g_r C C b_r :: lA κ b_l (R * 5) o_F2 :: gO g_l R R b_l :: lA κ b_w (R * 5) o_F3 :: gO g_w R C b_w :: (s_0, .inr (10, [.ref g_w, .ref g_l, .ref g_r, .int o_S1, .int o_S2, .int i3, .int i4])) :: w) := by
  have hs0 := hs
  obtain ⟨hs1, hs2, hs3, hs4⟩ := hs0
  subst hxt
  subst hxr
  subst hxc0
  refine CM_begin (plainFor_of_name pn_RX9) (Nat.le_of_ble_eq_true rfl) ?_
  intro p e s m args below meth c A Q hX hnm hA3 hQ hB ls hl
  have hx := hX.1.1
  have hb := hX.1.2.1
  have hl : lv_has ls 4 [(0, .ref s_0), (1, .int (nI t)), (2, .int (nI r)), (3, .int (nI c0))] := hl
  obtain ⟨ht1, ht2, ht3, ht4⟩ := ht
  replace hR := (D_X9_bring_s).symm.trans hR
  refine lv_iload_n hx hb dX9_bring_0 rfl (lv_at hl 2 rfl) ?_
  refine lv_iload_n hx hb dX9_bring_1 rfl (lv_at hl 1 rfl) ?_
  have jn32 : ∀ (f2_32 : Nat → Int64) (f3_32 : Nat → Int64) (i1_32 : Int32) (H : Heap) (locs : List Loc), (B1f R C t r f3 f3_32) → D_X9_bring_j32 R C f1 i2 t c0 f2_32 f3_32 i1_32 = (o_F1, o_F2, o_F3, o_S1, o_S2) → Bd κ A s (lA κ b_r (C * 5) f1 :: gO g_r C C b_r :: lA κ b_l (R * 5) f2_32 :: gO g_l R R b_l :: lA κ b_w (R * 5) f3_32 :: gO g_w R C b_w :: (s_0, .inr (10, [.ref g_w, .ref g_l, .ref g_r, .int i1_32, .int i2, .int i3, .int i4])) :: w) H locs → ∀ ls : Array Slot, lv_has ls 4 [(0, .ref s_0), (1, .int (nI t)), (2, .int (nI r)), (3, .int (nI c0))] → W p l e (Rm 2 49 0 0) s m args below meth c H locs (0) (0) Q (F0 m 32 ls []) := by
    intro f2_32 f3_32 i1_32 H locs hB1 hR hB ls hl
    replace hR := (D_X9_bring_j32_s).symm.trans hR
    refine lv_iload_n hx hb dX9_bring_32 rfl (lv_at hl 3 rfl) ?_
    refine lv_iload_n hx hb dX9_bring_33 rfl (lv_at hl 1 rfl) ?_
    have jn64 : ∀ (f1_64 : Nat → Int64) (f3_64 : Nat → Int64) (i2_64 : Int32) (H : Heap) (locs : List Loc), (B2f R t r c0 f3 f3_64) → D_X9_bring_j64 R C t f2_32 i1_32 f1_64 f3_64 i2_64 = (o_F1, o_F2, o_F3, o_S1, o_S2) → Bd κ A s (lA κ b_r (C * 5) f1_64 :: gO g_r C C b_r :: lA κ b_l (R * 5) f2_32 :: gO g_l R R b_l :: lA κ b_w (R * 5) f3_64 :: gO g_w R C b_w :: (s_0, .inr (10, [.ref g_w, .ref g_l, .ref g_r, .int i1_32, .int i2_64, .int i3, .int i4])) :: w) H locs → ∀ ls : Array Slot, lv_has ls 4 [(0, .ref s_0), (1, .int (nI t)), (2, .int (nI r)), (3, .int (nI c0))] → W p l e (Rm 2 49 0 0) s m args below meth c H locs (0) (0) Q (F0 m 64 ls []) := by
      intro f1_64 f3_64 i2_64 H locs hB2 hR hB ls hl
      replace hR := (D_X9_bring_j64_s).symm.trans hR
      refine lv_aload_n hx hb dX9_bring_64 rfl (lv_at hl 0 rfl) ?_
      refine gf (k0 := 6) hX hB rfl rfl in9 0 (by decide) wm_6_221 rfl rfl dX9_bring_65 ?_
      refine lv_iload_n hx hb dX9_bring_68 rfl (lv_at hl 1 rfl) ?_
      refine lv_iload_n hx hb dX9_bring_69 rfl (lv_at hl 1 rfl) ?_
      refine call_V (n := 2) (k0 := 5) (As := [.int (nI t), .int (nI t)]) (rest := []) hX hB (k_X7_at κ l (lA κ b_r (C * 5) f1_64 :: gO g_r C C b_r :: lA κ b_l (R * 5) f2_32 :: gO g_l R R b_l :: lA κ b_w (R * 5) f3_64 :: gO g_w R C b_w :: (s_0, .inr (10, [.ref g_w, .ref g_l, .ref g_r, .int i1_32, .int i2_64, .int i3, .int i4])) :: w) 5 4 g_w b_w R C f3_64 (nI t) t (nI t) t rfl rfl hs rfl rfl (by omega)) ⟨rfl, yk_X7_at⟩ wm_6_188 wm_5_238 wm_5_239 wm_1_7 wm_6_0 ⟨Nat.le_of_ble_eq_true rfl, Nat.le_of_ble_eq_true rfl⟩ ⟨Nat.le_of_ble_eq_true rfl, Nat.le_of_ble_eq_true rfl⟩ rfl rfl rfl rfl hl.1 rfl (Nat.le_of_ble_eq_true rfl) dX9_bring_70 (fun o w' H locs hp hB => ?_)
      obtain ⟨rfl, hw9⟩ := hp
      replace hB : Bd κ A s (lA κ b_r (C * 5) f1_64 :: gO g_r C C b_r :: lA κ b_l (R * 5) f2_32 :: gO g_l R R b_l :: lA κ b_w (R * 5) f3_64 :: gO g_w R C b_w :: (s_0, .inr (10, [.ref g_w, .ref g_l, .ref g_r, .int i1_32, .int i2_64, .int i3, .int i4])) :: w) H locs := by rw [hw9] at hB; exact hB
      refine W.eq (g2 := F0 m 73 ls [.long (f3_64 (t * 5 + t))]) rfl ?_
      refine lv_lconst (v := 0) hx hb dX9_bring_73 (by decide) ?_
      refine W.lcmp hx hb dX9_bring_74 ?_
      refine lv_if_ge (tgt := 103) hx hb dX9_bring_75 (by decide) (fun c3 => ?_) (fun c3 => ?_)
      · replace hR := ifp c3 hR
        rw [← hQ]
        exact end_v hX hB hA3 rfl (by obtain ⟨rfl, rfl, rfl, rfl, rfl⟩ := pr5 hR; exact ⟨rfl, (BR_0 hB2 hnz (by assumption)), rfl⟩) (Nat.le_of_ble_eq_true rfl) (Nat.le_of_ble_eq_true rfl) dX9_bring_103
      · replace hR := ifn c3 hR
        refine lv_aload_n hx hb dX9_bring_78 rfl (lv_at hl 0 rfl) ?_
        refine gf (k0 := 6) hX hB rfl rfl in9 0 (by decide) wm_6_221 rfl rfl dX9_bring_79 ?_
        refine lv_iload_n hx hb dX9_bring_82 rfl (lv_at hl 1 rfl) ?_
        refine call_V (n := 1) (k0 := 5) (As := [.int (nI t)]) (rest := []) hX hB (k_X7_turnRow κ l (lA κ b_r (C * 5) f1_64 :: gO g_r C C b_r :: lA κ b_l (R * 5) f2_32 :: gO g_l R R b_l :: lA κ b_w (R * 5) f3_64 :: gO g_w R C b_w :: (s_0, .inr (10, [.ref g_w, .ref g_l, .ref g_r, .int i1_32, .int i2_64, .int i3, .int i4])) :: w) 5 4 g_w b_w R C f3_64 (nI t) t rfl rfl hs rfl (by omega)) ⟨rfl, yk_X7_turnRow⟩ wm_6_200 wm_6_68 wm_6_69 wm_1_7 wm_6_70 ⟨Nat.le_of_ble_eq_true rfl, Nat.le_of_ble_eq_true rfl⟩ ⟨Nat.le_of_ble_eq_true rfl, Nat.le_of_ble_eq_true rfl⟩ rfl rfl rfl rfl hl.1 rfl (Nat.le_of_ble_eq_true rfl) dX9_bring_83 (fun o w' H locs hp hB => ?_)
        obtain ⟨rfl, hw9⟩ := hp
        replace hB : Bd κ A s (lA κ b_r (C * 5) f1_64 :: gO g_r C C b_r :: lA κ b_l (R * 5) f2_32 :: gO g_l R R b_l :: lA κ b_w (R * 5) (tr C t f3_64) :: gO g_w R C b_w :: (s_0, .inr (10, [.ref g_w, .ref g_l, .ref g_r, .int i1_32, .int i2_64, .int i3, .int i4])) :: w) H locs := by rw [hw9] at hB; exact hB
        refine W.eq (g2 := F0 m 86 ls []) rfl ?_
        refine lv_aload_n hx hb dX9_bring_86 rfl (lv_at hl 0 rfl) ?_
        refine gf (k0 := 6) hX hB rfl rfl in9 1 (by decide) wm_6_223 rfl rfl dX9_bring_87 ?_
        refine lv_iload_n hx hb dX9_bring_90 rfl (lv_at hl 1 rfl) ?_
        refine call_V (n := 1) (k0 := 3) (As := [.int (nI t)]) (rest := []) hX hB (k_X7_turnRow κ l (lA κ b_r (C * 5) f1_64 :: gO g_r C C b_r :: lA κ b_l (R * 5) f2_32 :: gO g_l R R b_l :: lA κ b_w (R * 5) (tr C t f3_64) :: gO g_w R C b_w :: (s_0, .inr (10, [.ref g_w, .ref g_l, .ref g_r, .int i1_32, .int i2_64, .int i3, .int i4])) :: w) 3 2 g_l b_l R R f2_32 (nI t) t rfl rfl ⟨by omega, by omega, by omega, by omega⟩ rfl (by omega)) ⟨rfl, yk_X7_turnRow⟩ wm_6_200 wm_6_68 wm_6_69 wm_1_7 wm_6_70 ⟨Nat.le_of_ble_eq_true rfl, Nat.le_of_ble_eq_true rfl⟩ ⟨Nat.le_of_ble_eq_true rfl, Nat.le_of_ble_eq_true rfl⟩ rfl rfl rfl rfl hl.1 rfl (Nat.le_of_ble_eq_true rfl) dX9_bring_91 (fun o w' H locs hp hB => ?_)
        obtain ⟨rfl, hw9⟩ := hp
        replace hB : Bd κ A s (lA κ b_r (C * 5) f1_64 :: gO g_r C C b_r :: lA κ b_l (R * 5) (tr R t f2_32) :: gO g_l R R b_l :: lA κ b_w (R * 5) (tr C t f3_64) :: gO g_w R C b_w :: (s_0, .inr (10, [.ref g_w, .ref g_l, .ref g_r, .int i1_32, .int i2_64, .int i3, .int i4])) :: w) H locs := by rw [hw9] at hB; exact hB
        refine W.eq (g2 := F0 m 94 ls []) rfl ?_
        refine lv_aload_n hx hb dX9_bring_94 rfl (lv_at hl 0 rfl) ?_
        refine lv_aload_n hx hb dX9_bring_95 rfl (lv_at hl 0 rfl) ?_
        refine gf (k0 := 6) hX hB rfl rfl in9 3 (by decide) wm_6_227 rfl rfl dX9_bring_96 ?_
        refine lv_ineg hx hb dX9_bring_99 ?_
        refine pf (ty := .int) (k0 := 6) hX hB rfl rfl in9 tyX9_ok nmX9 3 (by decide) wm_6_227 rfl rfl rfl rfl rfl (Nat.le_of_ble_eq_true rfl) (w1 := lA κ b_r (C * 5) f1_64 :: gO g_r C C b_r :: lA κ b_l (R * 5) (tr R t f2_32) :: gO g_l R R b_l :: lA κ b_w (R * 5) (tr C t f3_64) :: gO g_w R C b_w :: (s_0, .inr (10, [.ref g_w, .ref g_l, .ref g_r, .int (-i1_32), .int i2_64, .int i3, .int i4])) :: w) rfl dX9_bring_100 (fun H locs hB => ?_)
        rw [← hQ]
        exact end_v hX hB hA3 rfl (by obtain ⟨rfl, rfl, rfl, rfl, rfl⟩ := pr5 hR; exact ⟨rfl, (BR_1 hB2 (by omega) hs4 (by assumption)), rfl⟩) (Nat.le_of_ble_eq_true rfl) (Nat.le_of_ble_eq_true rfl) dX9_bring_103
    refine lv_icmp_eq (tgt := 64) hx hb dX9_bring_34 (by decide) (fun c4 => ?_) (fun c4 => ?_)
    · rw [neqP (a := c0) (b := t) (by omega) (by omega)] at c4
      replace hR := ifp c4 hR
      exact jn64 f1 f3_32 i2 _ _ (B2_0 hB1 (by omega) (by omega)) hR hB _ hl
    · rw [neqP (a := c0) (b := t) (by omega) (by omega)] at c4
      replace hR := ifn c4 hR
      refine lv_aload_n hx hb dX9_bring_37 rfl (lv_at hl 0 rfl) ?_
      refine gf (k0 := 6) hX hB rfl rfl in9 0 (by decide) wm_6_221 rfl rfl dX9_bring_38 ?_
      refine lv_iload_n hx hb dX9_bring_41 rfl (lv_at hl 3 rfl) ?_
      refine lv_iload_n hx hb dX9_bring_42 rfl (lv_at hl 1 rfl) ?_
      refine call_V (n := 2) (k0 := 5) (As := [.int (nI c0), .int (nI t)]) (rest := []) hX hB (k_X7_exchangeColumns κ l (lA κ b_r (C * 5) f1 :: gO g_r C C b_r :: lA κ b_l (R * 5) f2_32 :: gO g_l R R b_l :: lA κ b_w (R * 5) f3_32 :: gO g_w R C b_w :: (s_0, .inr (10, [.ref g_w, .ref g_l, .ref g_r, .int i1_32, .int i2, .int i3, .int i4])) :: w) 5 4 g_w b_w R C f3_32 (nI c0) c0 (nI t) t rfl rfl hs rfl rfl (by omega) (by omega)) ⟨rfl, yk_X7_exchangeColumns⟩ wm_6_199 wm_6_47 wm_6_48 wm_1_7 wm_6_49 ⟨Nat.le_of_ble_eq_true rfl, Nat.le_of_ble_eq_true rfl⟩ ⟨Nat.le_of_ble_eq_true rfl, Nat.le_of_ble_eq_true rfl⟩ rfl rfl rfl rfl hl.1 rfl (Nat.le_of_ble_eq_true rfl) dX9_bring_43 (fun o w' H locs hp hB => ?_)
      obtain ⟨rfl, hw9⟩ := hp
      replace hB : Bd κ A s (lA κ b_r (C * 5) f1 :: gO g_r C C b_r :: lA κ b_l (R * 5) f2_32 :: gO g_l R R b_l :: lA κ b_w (R * 5) (xc R c0 t f3_32) :: gO g_w R C b_w :: (s_0, .inr (10, [.ref g_w, .ref g_l, .ref g_r, .int i1_32, .int i2, .int i3, .int i4])) :: w) H locs := by rw [hw9] at hB; exact hB
      refine W.eq (g2 := F0 m 46 ls []) rfl ?_
      refine lv_aload_n hx hb dX9_bring_46 rfl (lv_at hl 0 rfl) ?_
      refine gf (k0 := 6) hX hB rfl rfl in9 2 (by decide) wm_6_225 rfl rfl dX9_bring_47 ?_
      refine lv_iload_n hx hb dX9_bring_50 rfl (lv_at hl 3 rfl) ?_
      refine lv_iload_n hx hb dX9_bring_51 rfl (lv_at hl 1 rfl) ?_
      refine call_V (n := 2) (k0 := 1) (As := [.int (nI c0), .int (nI t)]) (rest := []) hX hB (k_X7_exchangeColumns κ l (lA κ b_r (C * 5) f1 :: gO g_r C C b_r :: lA κ b_l (R * 5) f2_32 :: gO g_l R R b_l :: lA κ b_w (R * 5) (xc R c0 t f3_32) :: gO g_w R C b_w :: (s_0, .inr (10, [.ref g_w, .ref g_l, .ref g_r, .int i1_32, .int i2, .int i3, .int i4])) :: w) 1 0 g_r b_r C C f1 (nI c0) c0 (nI t) t rfl rfl ⟨by omega, by omega, by omega, by omega⟩ rfl rfl (by omega) (by omega)) ⟨rfl, yk_X7_exchangeColumns⟩ wm_6_199 wm_6_47 wm_6_48 wm_1_7 wm_6_49 ⟨Nat.le_of_ble_eq_true rfl, Nat.le_of_ble_eq_true rfl⟩ ⟨Nat.le_of_ble_eq_true rfl, Nat.le_of_ble_eq_true rfl⟩ rfl rfl rfl rfl hl.1 rfl (Nat.le_of_ble_eq_true rfl) dX9_bring_52 (fun o w' H locs hp hB => ?_)
      obtain ⟨rfl, hw9⟩ := hp
      replace hB : Bd κ A s (lA κ b_r (C * 5) (xc C c0 t f1) :: gO g_r C C b_r :: lA κ b_l (R * 5) f2_32 :: gO g_l R R b_l :: lA κ b_w (R * 5) (xc R c0 t f3_32) :: gO g_w R C b_w :: (s_0, .inr (10, [.ref g_w, .ref g_l, .ref g_r, .int i1_32, .int i2, .int i3, .int i4])) :: w) H locs := by rw [hw9] at hB; exact hB
      refine W.eq (g2 := F0 m 55 ls []) rfl ?_
      refine lv_aload_n hx hb dX9_bring_55 rfl (lv_at hl 0 rfl) ?_
      refine lv_aload_n hx hb dX9_bring_56 rfl (lv_at hl 0 rfl) ?_
      refine gf (k0 := 6) hX hB rfl rfl in9 4 (by decide) wm_6_229 rfl rfl dX9_bring_57 ?_
      refine lv_ineg hx hb dX9_bring_60 ?_
      refine pf (ty := .int) (k0 := 6) hX hB rfl rfl in9 tyX9_ok nmX9 4 (by decide) wm_6_229 rfl rfl rfl rfl rfl (Nat.le_of_ble_eq_true rfl) (w1 := lA κ b_r (C * 5) (xc C c0 t f1) :: gO g_r C C b_r :: lA κ b_l (R * 5) f2_32 :: gO g_l R R b_l :: lA κ b_w (R * 5) (xc R c0 t f3_32) :: gO g_w R C b_w :: (s_0, .inr (10, [.ref g_w, .ref g_l, .ref g_r, .int i1_32, .int (-i2), .int i3, .int i4])) :: w) rfl dX9_bring_61 (fun H locs hB => ?_)
      exact jn64 (xc C c0 t f1) (xc R c0 t f3_32) (-i2) _ _ (B2_1 hB1 (by omega) (by omega) (by omega) (by omega) hs4) hR hB _ hl
  refine lv_icmp_eq (tgt := 32) hx hb dX9_bring_2 (by decide) (fun c5 => ?_) (fun c5 => ?_)
  · rw [neqP (a := r) (b := t) (by omega) (by omega)] at c5
    replace hR := ifp c5 hR
    exact jn32 f2 f3 i1 _ _ (B1_0 hng (by omega)) hR hB _ hl
  · rw [neqP (a := r) (b := t) (by omega) (by omega)] at c5
    replace hR := ifn c5 hR
    refine lv_aload_n hx hb dX9_bring_5 rfl (lv_at hl 0 rfl) ?_
    refine gf (k0 := 6) hX hB rfl rfl in9 0 (by decide) wm_6_221 rfl rfl dX9_bring_6 ?_
    refine lv_iload_n hx hb dX9_bring_9 rfl (lv_at hl 2 rfl) ?_
    refine lv_iload_n hx hb dX9_bring_10 rfl (lv_at hl 1 rfl) ?_
    refine call_V (n := 2) (k0 := 5) (As := [.int (nI r), .int (nI t)]) (rest := []) hX hB (k_X7_exchangeRows κ l (lA κ b_r (C * 5) f1 :: gO g_r C C b_r :: lA κ b_l (R * 5) f2 :: gO g_l R R b_l :: lA κ b_w (R * 5) f3 :: gO g_w R C b_w :: (s_0, .inr (10, [.ref g_w, .ref g_l, .ref g_r, .int i1, .int i2, .int i3, .int i4])) :: w) 5 4 g_w b_w R C f3 (nI r) r (nI t) t rfl rfl hs rfl rfl (by omega) (by omega)) ⟨rfl, yk_X7_exchangeRows⟩ wm_6_198 wm_6_52 wm_6_53 wm_1_7 wm_6_54 ⟨Nat.le_of_ble_eq_true rfl, Nat.le_of_ble_eq_true rfl⟩ ⟨Nat.le_of_ble_eq_true rfl, Nat.le_of_ble_eq_true rfl⟩ rfl rfl rfl rfl hl.1 rfl (Nat.le_of_ble_eq_true rfl) dX9_bring_11 (fun o w' H locs hp hB => ?_)
    obtain ⟨rfl, hw9⟩ := hp
    replace hB : Bd κ A s (lA κ b_r (C * 5) f1 :: gO g_r C C b_r :: lA κ b_l (R * 5) f2 :: gO g_l R R b_l :: lA κ b_w (R * 5) (xr C r t f3) :: gO g_w R C b_w :: (s_0, .inr (10, [.ref g_w, .ref g_l, .ref g_r, .int i1, .int i2, .int i3, .int i4])) :: w) H locs := by rw [hw9] at hB; exact hB
    refine W.eq (g2 := F0 m 14 ls []) rfl ?_
    refine lv_aload_n hx hb dX9_bring_14 rfl (lv_at hl 0 rfl) ?_
    refine gf (k0 := 6) hX hB rfl rfl in9 1 (by decide) wm_6_223 rfl rfl dX9_bring_15 ?_
    refine lv_iload_n hx hb dX9_bring_18 rfl (lv_at hl 2 rfl) ?_
    refine lv_iload_n hx hb dX9_bring_19 rfl (lv_at hl 1 rfl) ?_
    refine call_V (n := 2) (k0 := 3) (As := [.int (nI r), .int (nI t)]) (rest := []) hX hB (k_X7_exchangeRows κ l (lA κ b_r (C * 5) f1 :: gO g_r C C b_r :: lA κ b_l (R * 5) f2 :: gO g_l R R b_l :: lA κ b_w (R * 5) (xr C r t f3) :: gO g_w R C b_w :: (s_0, .inr (10, [.ref g_w, .ref g_l, .ref g_r, .int i1, .int i2, .int i3, .int i4])) :: w) 3 2 g_l b_l R R f2 (nI r) r (nI t) t rfl rfl ⟨by omega, by omega, by omega, by omega⟩ rfl rfl (by omega) (by omega)) ⟨rfl, yk_X7_exchangeRows⟩ wm_6_198 wm_6_52 wm_6_53 wm_1_7 wm_6_54 ⟨Nat.le_of_ble_eq_true rfl, Nat.le_of_ble_eq_true rfl⟩ ⟨Nat.le_of_ble_eq_true rfl, Nat.le_of_ble_eq_true rfl⟩ rfl rfl rfl rfl hl.1 rfl (Nat.le_of_ble_eq_true rfl) dX9_bring_20 (fun o w' H locs hp hB => ?_)
    obtain ⟨rfl, hw9⟩ := hp
    replace hB : Bd κ A s (lA κ b_r (C * 5) f1 :: gO g_r C C b_r :: lA κ b_l (R * 5) (xr R r t f2) :: gO g_l R R b_l :: lA κ b_w (R * 5) (xr C r t f3) :: gO g_w R C b_w :: (s_0, .inr (10, [.ref g_w, .ref g_l, .ref g_r, .int i1, .int i2, .int i3, .int i4])) :: w) H locs := by rw [hw9] at hB; exact hB
    refine W.eq (g2 := F0 m 23 ls []) rfl ?_
    refine lv_aload_n hx hb dX9_bring_23 rfl (lv_at hl 0 rfl) ?_
    refine lv_aload_n hx hb dX9_bring_24 rfl (lv_at hl 0 rfl) ?_
    refine gf (k0 := 6) hX hB rfl rfl in9 3 (by decide) wm_6_227 rfl rfl dX9_bring_25 ?_
    refine lv_ineg hx hb dX9_bring_28 ?_
    refine pf (ty := .int) (k0 := 6) hX hB rfl rfl in9 tyX9_ok nmX9 3 (by decide) wm_6_227 rfl rfl rfl rfl rfl (Nat.le_of_ble_eq_true rfl) (w1 := lA κ b_r (C * 5) f1 :: gO g_r C C b_r :: lA κ b_l (R * 5) (xr R r t f2) :: gO g_l R R b_l :: lA κ b_w (R * 5) (xr C r t f3) :: gO g_w R C b_w :: (s_0, .inr (10, [.ref g_w, .ref g_l, .ref g_r, .int (-i1), .int i2, .int i3, .int i4])) :: w) rfl dX9_bring_29 (fun H locs hB => ?_)
    exact jn32 (xr R r t f2) (xr C r t f3) (-i1) _ _ (B1_1 hng (by omega) (by omega) hs4) hR hB _ hl
noncomputable def D_X9_takeOff_80 (R : Nat) (C : Nat) (i1 : Int32) (i2 : Int32) (i3 : Int32) (t : Nat) (f2_4 : Nat → Int64) (nn : Nat) : Nat → (Nat → Int64) → (Nat → Int64) → Int32 → (Nat → Int64) × (Nat → Int64) × (Nat → Int64) × Int32 := @Nat.rec (fun _ => Nat → (Nat → Int64) → (Nat → Int64) → Int32 → (Nat → Int64) × (Nat → Int64) × (Nat → Int64) × Int32) (fun _ _ _ _ => default) (fun _ lb80 (y2_80 : Nat) (f1_80 : Nat → Int64) (f3_80 : Nat → Int64) (i4_80 : Int32) => (if C ≤ y2_80 then (f1_80, f2_4, f3_80, i4_80) else (if i4_80 = 0 then bnd1 (D_X9_look R C (ac C y2_80 t (-(fdv (f3_80 (t * 5 + y2_80)) (f3_80 (t * 5 + t)))) f1_80) f2_4 (ac R y2_80 t (-(fdv (f3_80 (t * 5 + y2_80)) (f3_80 (t * 5 + t)))) f3_80) i1 i2 i3 i4_80) (fun (G95 : Int32) => (lb80 (y2_80 + 1) (ac C y2_80 t (-(fdv (f3_80 (t * 5 + y2_80)) (f3_80 (t * 5 + t)))) f1_80) (ac R y2_80 t (-(fdv (f3_80 (t * 5 + y2_80)) (f3_80 (t * 5 + t)))) f3_80) G95)) else (f1_80, f2_4, f3_80, i4_80)))) nn
theorem D_X9_takeOff_80_s {R : Nat} {C : Nat} {i1 : Int32} {i2 : Int32} {i3 : Int32} {t : Nat} {f2_4 : Nat → Int64} {nn : Nat} {y2_80 : Nat} {f1_80 : Nat → Int64} {f3_80 : Nat → Int64} {i4_80 : Int32} : D_X9_takeOff_80 R C i1 i2 i3 t f2_4 (nn + 1) y2_80 f1_80 f3_80 i4_80 = (if C ≤ y2_80 then (f1_80, f2_4, f3_80, i4_80) else (if i4_80 = 0 then bnd1 (D_X9_look R C (ac C y2_80 t (-(fdv (f3_80 (t * 5 + y2_80)) (f3_80 (t * 5 + t)))) f1_80) f2_4 (ac R y2_80 t (-(fdv (f3_80 (t * 5 + y2_80)) (f3_80 (t * 5 + t)))) f3_80) i1 i2 i3 i4_80) (fun (G95 : Int32) => ((D_X9_takeOff_80 R C i1 i2 i3 t f2_4 nn) (y2_80 + 1) (ac C y2_80 t (-(fdv (f3_80 (t * 5 + y2_80)) (f3_80 (t * 5 + t)))) f1_80) (ac R y2_80 t (-(fdv (f3_80 (t * 5 + y2_80)) (f3_80 (t * 5 + t)))) f3_80) G95)) else (f1_80, f2_4, f3_80, i4_80))) := rfl
noncomputable def D_X9_takeOff_j76 (R : Nat) (C : Nat) (f1 : Nat → Int64) (i1 : Int32) (i2 : Int32) (i3 : Int32) (t : Nat) (f2_4 : Nat → Int64) (f3_4 : Nat → Int64) (i4_4 : Int32) : (Nat → Int64) × (Nat → Int64) × (Nat → Int64) × Int32 := (D_X9_takeOff_80 R C i1 i2 i3 t f2_4 (C + 1 - (t + 1) + 1) (t + 1) f1 f3_4 i4_4)
theorem D_X9_takeOff_j76_s {R : Nat} {C : Nat} {f1 : Nat → Int64} {i1 : Int32} {i2 : Int32} {i3 : Int32} {t : Nat} {f2_4 : Nat → Int64} {f3_4 : Nat → Int64} {i4_4 : Int32} : D_X9_takeOff_j76 R C f1 i1 i2 i3 t f2_4 f3_4 i4_4 = (D_X9_takeOff_80 R C i1 i2 i3 t f2_4 (C + 1 - (t + 1) + 1) (t + 1) f1 f3_4 i4_4) := rfl
noncomputable def D_X9_takeOff_4 (R : Nat) (C : Nat) (f1 : Nat → Int64) (i1 : Int32) (i2 : Int32) (i3 : Int32) (t : Nat) (nn : Nat) : Nat → (Nat → Int64) → (Nat → Int64) → Int32 → (Nat → Int64) × (Nat → Int64) × (Nat → Int64) × Int32 := @Nat.rec (fun _ => Nat → (Nat → Int64) → (Nat → Int64) → Int32 → (Nat → Int64) × (Nat → Int64) × (Nat → Int64) × Int32) (fun _ _ _ _ => default) (fun _ lb4 (y2_4 : Nat) (f2_4 : Nat → Int64) (f3_4 : Nat → Int64) (i4_4 : Int32) => (if R ≤ y2_4 then (D_X9_takeOff_j76 R C f1 i1 i2 i3 t f2_4 f3_4 i4_4) else (if i4_4 = 0 then bnd1 (D_X9_look R C f1 (ar R y2_4 t (-(fdv (f3_4 (y2_4 * 5 + t)) (f3_4 (t * 5 + t)))) f2_4) (ar C y2_4 t (-(fdv (f3_4 (y2_4 * 5 + t)) (f3_4 (t * 5 + t)))) f3_4) i1 i2 i3 i4_4) (fun (G102 : Int32) => (lb4 (y2_4 + 1) (ar R y2_4 t (-(fdv (f3_4 (y2_4 * 5 + t)) (f3_4 (t * 5 + t)))) f2_4) (ar C y2_4 t (-(fdv (f3_4 (y2_4 * 5 + t)) (f3_4 (t * 5 + t)))) f3_4) G102)) else (D_X9_takeOff_j76 R C f1 i1 i2 i3 t f2_4 f3_4 i4_4)))) nn
theorem D_X9_takeOff_4_s {R : Nat} {C : Nat} {f1 : Nat → Int64} {i1 : Int32} {i2 : Int32} {i3 : Int32} {t : Nat} {nn : Nat} {y2_4 : Nat} {f2_4 : Nat → Int64} {f3_4 : Nat → Int64} {i4_4 : Int32} : D_X9_takeOff_4 R C f1 i1 i2 i3 t (nn + 1) y2_4 f2_4 f3_4 i4_4 = (if R ≤ y2_4 then (D_X9_takeOff_j76 R C f1 i1 i2 i3 t f2_4 f3_4 i4_4) else (if i4_4 = 0 then bnd1 (D_X9_look R C f1 (ar R y2_4 t (-(fdv (f3_4 (y2_4 * 5 + t)) (f3_4 (t * 5 + t)))) f2_4) (ar C y2_4 t (-(fdv (f3_4 (y2_4 * 5 + t)) (f3_4 (t * 5 + t)))) f3_4) i1 i2 i3 i4_4) (fun (G102 : Int32) => ((D_X9_takeOff_4 R C f1 i1 i2 i3 t nn) (y2_4 + 1) (ar R y2_4 t (-(fdv (f3_4 (y2_4 * 5 + t)) (f3_4 (t * 5 + t)))) f2_4) (ar C y2_4 t (-(fdv (f3_4 (y2_4 * 5 + t)) (f3_4 (t * 5 + t)))) f3_4) G102)) else (D_X9_takeOff_j76 R C f1 i1 i2 i3 t f2_4 f3_4 i4_4))) := rfl
noncomputable def D_X9_takeOff (R : Nat) (C : Nat) (f1 : Nat → Int64) (f2 : Nat → Int64) (f3 : Nat → Int64) (i1 : Int32) (i2 : Int32) (i3 : Int32) (i4 : Int32) (t : Nat) : (Nat → Int64) × (Nat → Int64) × (Nat → Int64) × Int32 := (D_X9_takeOff_4 R C f1 i1 i2 i3 t (R + 1 - (t + 1) + 1) (t + 1) f2 f3 i4)
theorem D_X9_takeOff_s {R : Nat} {C : Nat} {f1 : Nat → Int64} {f2 : Nat → Int64} {f3 : Nat → Int64} {i1 : Int32} {i2 : Int32} {i3 : Int32} {i4 : Int32} {t : Nat} : D_X9_takeOff R C f1 f2 f3 i1 i2 i3 i4 t = (D_X9_takeOff_4 R C f1 i1 i2 i3 t (R + 1 - (t + 1) + 1) (t + 1) f2 f3 i4) := rfl
set_option maxHeartbeats 4000000 in
set_option maxRecDepth 100000 in
theorem k_X9_takeOff (κ : Kt) (l : Launch) (w : va_W) (s_0 g_r b_r g_l b_l g_w b_w R C : Nat) (f1 f2 f3 : Nat → Int64) (i1 i2 i3 i4 : Int32) (xt : Int32) (t : Nat) (hs : shp R C) (hC4 : C ≤ 4) (hxt : xt = nI t) (ht : t < R ∧ t < C) (hng : ∀ k, k < R * 5 → ng (f3 k)) (hg0 : i4 = 0) (hp : 0 < (f3 (t * 5 + t)).toInt) (o_F1 : Nat → Int64) (o_F2 : Nat → Int64) (o_F3 : Nat → Int64) (o_G1 : Int32) (hR : D_X9_takeOff R C f1 f2 f3 i1 i2 i3 i4 t = (o_F1, o_F2, o_F3, o_G1)) : CM κ l yX9_takeOff cX9_takeOff 5 (none) 2 49 0 0 [.ref s_0, .int xt] (lA κ b_r (C * 5) f1 :: gO g_r C C b_r :: lA κ b_l (R * 5) f2 :: gO g_l R R b_l :: lA κ b_w (R * 5) f3 :: gO g_w R C b_w :: (s_0, .inr (10, [.ref g_w, .ref g_l, .ref g_r, .int i1, .int i2, .int i3, .int i4])) :: w) (fun o w' => o = none ∧ (TKf R C t f3 o_F3 o_G1) ∧ w' = lA κ b_r (C * 5) o_F1 :: gO g_r C C b_r :: lA κ b_l (R * 5) o_F2 :: gO g_l R R b_l :: lA κ b_w (R * 5) o_F3 :: gO g_w R C b_w :: (s_0, .inr (10, [.ref g_w, .ref g_l, .ref g_r, .int i1, .int i2, .int i3, .int o_G1])) :: w) := by
  have hs0 := hs
  obtain ⟨hs1, hs2, hs3, hs4⟩ := hs0
  subst hxt
  refine CM_begin (plainFor_of_name pn_RX9) (Nat.le_of_ble_eq_true rfl) ?_
  intro p e s m args below meth c A Q hX hnm hA3 hQ hB ls hl
  have hx := hX.1.1
  have hb := hX.1.2.1
  have hl : lv_has ls 5 [(0, .ref s_0), (1, .int (nI t))] := hl
  obtain ⟨ht1, ht2⟩ := ht
  replace hR := (D_X9_takeOff_s).symm.trans hR
  refine lv_iload_n hx hb dX9_takeOff_0 rfl (lv_at hl 1 rfl) ?_
  refine lv_iconst (v := 1) hx hb dX9_takeOff_1 (by decide) ?_
  refine lv_iadd hx hb dX9_takeOff_2 ?_
  refine eqi (y := nI (t + 1)) (nI_add t 1) ?_
  refine lv_istore_n (lv' := [(2, .int (nI (t + 1))), (0, .ref s_0), (1, .int (nI t))]) hx hb dX9_takeOff_3 rfl hl (by decide) rfl (fun ls hl => ?_)
  have lp4 : ∀ (nn4 : Nat) (y2_4 : Nat) (f2_4 : Nat → Int64) (f3_4 : Nat → Int64) (i4_4 : Int32) (H : Heap) (locs : List Loc), (y2_4 ≤ R) → (t + 1 ≤ y2_4) → (T1f R C t f3 y2_4 f3_4 i4_4) → R + 1 - y2_4 < nn4 → D_X9_takeOff_4 R C f1 i1 i2 i3 t nn4 y2_4 f2_4 f3_4 i4_4 = (o_F1, o_F2, o_F3, o_G1) → Bd κ A s (lA κ b_r (C * 5) f1 :: gO g_r C C b_r :: lA κ b_l (R * 5) f2_4 :: gO g_l R R b_l :: lA κ b_w (R * 5) f3_4 :: gO g_w R C b_w :: (s_0, .inr (10, [.ref g_w, .ref g_l, .ref g_r, .int i1, .int i2, .int i3, .int i4_4])) :: w) H locs → ∀ ls : Array Slot, lv_has ls 5 [(2, .int (nI y2_4)), (0, .ref s_0), (1, .int (nI t))] → W p l e (Rm 2 49 0 0) s m args below meth c H locs (0) (0) Q (F0 m 4 ls []) := by
    intro nn4
    induction nn4 with
    | zero => intro y2_4 f2_4 f3_4 i4_4 H locs hn2_4 hlo4 hT1 hμ; exact absurd hμ (Nat.not_lt_zero _)
    | succ nn4 ih4 =>
      intro y2_4 f2_4 f3_4 i4_4 H locs hn2_4 hlo4 hT1 hμ4 hR hB ls hl
      replace hR := (D_X9_takeOff_4_s).symm.trans hR
      refine lv_iload_n hx hb dX9_takeOff_4 rfl (lv_at hl 0 rfl) ?_
      refine lv_aload_n hx hb dX9_takeOff_5 rfl (lv_at hl 1 rfl) ?_
      refine gf (k0 := 6) hX hB rfl rfl in9 0 (by decide) wm_6_221 rfl rfl dX9_takeOff_6 ?_
      refine gf (k0 := 5) hX hB rfl rfl in7 0 (by decide) wm_5_147 rfl rfl dX9_takeOff_9 ?_
      have jn76 : ∀ (H : Heap) (locs : List Loc), (T1f R C t f3 R f3_4 i4_4) → D_X9_takeOff_j76 R C f1 i1 i2 i3 t f2_4 f3_4 i4_4 = (o_F1, o_F2, o_F3, o_G1) → Bd κ A s (lA κ b_r (C * 5) f1 :: gO g_r C C b_r :: lA κ b_l (R * 5) f2_4 :: gO g_l R R b_l :: lA κ b_w (R * 5) f3_4 :: gO g_w R C b_w :: (s_0, .inr (10, [.ref g_w, .ref g_l, .ref g_r, .int i1, .int i2, .int i3, .int i4_4])) :: w) H locs → ∀ ls : Array Slot, lv_has ls 5 [(2, .int (nI y2_4)), (0, .ref s_0), (1, .int (nI t))] → W p l e (Rm 2 49 0 0) s m args below meth c H locs (0) (0) Q (F0 m 76 ls []) := by
        intro H locs hJT hR hB ls hl
        replace hR := (D_X9_takeOff_j76_s).symm.trans hR
        refine lv_iload_n hx hb dX9_takeOff_76 rfl (lv_at hl 2 rfl) ?_
        refine lv_iconst (v := 1) hx hb dX9_takeOff_77 (by decide) ?_
        refine lv_iadd hx hb dX9_takeOff_78 ?_
        refine eqi (y := nI (t + 1)) (nI_add t 1) ?_
        refine lv_istore_n (lv' := [(2, .int (nI (t + 1))), (0, .ref s_0), (1, .int (nI t))]) hx hb dX9_takeOff_79 rfl hl (by decide) rfl (fun ls hl => ?_)
        have lp80 : ∀ (nn80 : Nat) (y2_80 : Nat) (f1_80 : Nat → Int64) (f3_80 : Nat → Int64) (i4_80 : Int32) (H : Heap) (locs : List Loc), (y2_80 ≤ C) → (t + 1 ≤ y2_80) → (T2f R t f3_4 i4_4 y2_80 f3_80 i4_80) → C + 1 - y2_80 < nn80 → D_X9_takeOff_80 R C i1 i2 i3 t f2_4 nn80 y2_80 f1_80 f3_80 i4_80 = (o_F1, o_F2, o_F3, o_G1) → Bd κ A s (lA κ b_r (C * 5) f1_80 :: gO g_r C C b_r :: lA κ b_l (R * 5) f2_4 :: gO g_l R R b_l :: lA κ b_w (R * 5) f3_80 :: gO g_w R C b_w :: (s_0, .inr (10, [.ref g_w, .ref g_l, .ref g_r, .int i1, .int i2, .int i3, .int i4_80])) :: w) H locs → ∀ ls : Array Slot, lv_has ls 5 [(2, .int (nI y2_80)), (0, .ref s_0), (1, .int (nI t))] → W p l e (Rm 2 49 0 0) s m args below meth c H locs (0) (0) Q (F0 m 80 ls []) := by
          intro nn80
          induction nn80 with
          | zero => intro y2_80 f1_80 f3_80 i4_80 H locs hn2_80 hlo80 hT2 hμ; exact absurd hμ (Nat.not_lt_zero _)
          | succ nn80 ih80 =>
            intro y2_80 f1_80 f3_80 i4_80 H locs hn2_80 hlo80 hT2 hμ80 hR hB ls hl
            replace hR := (D_X9_takeOff_80_s).symm.trans hR
            refine lv_iload_n hx hb dX9_takeOff_80 rfl (lv_at hl 0 rfl) ?_
            refine lv_aload_n hx hb dX9_takeOff_81 rfl (lv_at hl 1 rfl) ?_
            refine gf (k0 := 6) hX hB rfl rfl in9 0 (by decide) wm_6_221 rfl rfl dX9_takeOff_82 ?_
            refine gf (k0 := 5) hX hB rfl rfl in7 1 (by decide) wm_5_150 rfl rfl dX9_takeOff_85 ?_
            refine lv_icmp_ge (tgt := 152) hx hb dX9_takeOff_88 (by decide) (fun c92 => ?_) (fun c92 => ?_)
            · rw [nleP (a := C) (b := y2_80) (by omega) (by omega)] at c92
              replace hR := ifp c92 hR
              have hY1 : y2_80 = C := by omega
              rw [← hQ]
              exact end_v hX hB hA3 rfl (by obtain ⟨rfl, rfl, rfl, rfl⟩ := pr4 hR; exact ⟨rfl, (by first | exact TK_0 hp (by omega) hs4 hJT hT2 hY1 | exact TK_1 (by omega) hs4 hJT hT2 hY2), rfl⟩) (Nat.le_of_ble_eq_true rfl) (Nat.le_of_ble_eq_true rfl) dX9_takeOff_152
            · rw [nleP (a := C) (b := y2_80) (by omega) (by omega)] at c92
              replace hR := ifn c92 hR
              refine lv_aload_n hx hb dX9_takeOff_91 rfl (lv_at hl 1 rfl) ?_
              refine gf (k0 := 6) hX hB rfl rfl in9 6 (by decide) wm_6_233 rfl rfl dX9_takeOff_92 ?_
              refine lv_if_ne (tgt := 152) hx hb dX9_takeOff_95 (by decide) (fun c93 => ?_) (fun c93 => ?_)
              · replace hR := ifn c93 hR
                have hY2 := c93
                rw [← hQ]
                exact end_v hX hB hA3 rfl (by obtain ⟨rfl, rfl, rfl, rfl⟩ := pr4 hR; exact ⟨rfl, (by first | exact TK_0 hp (by omega) hs4 hJT hT2 hY1 | exact TK_1 (by omega) hs4 hJT hT2 hY2), rfl⟩) (Nat.le_of_ble_eq_true rfl) (Nat.le_of_ble_eq_true rfl) dX9_takeOff_152
              · replace hR := ifp c93 hR
                have hX5 := c93
                refine lv_aload_n hx hb dX9_takeOff_98 rfl (lv_at hl 1 rfl) ?_
                refine gf (k0 := 6) hX hB rfl rfl in9 0 (by decide) wm_6_221 rfl rfl dX9_takeOff_99 ?_
                refine lv_iload_n hx hb dX9_takeOff_102 rfl (lv_at hl 2 rfl) ?_
                refine lv_iload_n hx hb dX9_takeOff_103 rfl (lv_at hl 0 rfl) ?_
                refine call_V (n := 2) (k0 := 5) (As := [.int (nI t), .int (nI y2_80)]) (rest := []) hX hB (k_X7_at κ l (lA κ b_r (C * 5) f1_80 :: gO g_r C C b_r :: lA κ b_l (R * 5) f2_4 :: gO g_l R R b_l :: lA κ b_w (R * 5) f3_80 :: gO g_w R C b_w :: (s_0, .inr (10, [.ref g_w, .ref g_l, .ref g_r, .int i1, .int i2, .int i3, .int i4_80])) :: w) 5 4 g_w b_w R C f3_80 (nI t) t (nI y2_80) y2_80 rfl rfl hs rfl rfl (by omega)) ⟨rfl, yk_X7_at⟩ wm_6_188 wm_5_238 wm_5_239 wm_1_7 wm_6_0 ⟨Nat.le_of_ble_eq_true rfl, Nat.le_of_ble_eq_true rfl⟩ ⟨Nat.le_of_ble_eq_true rfl, Nat.le_of_ble_eq_true rfl⟩ rfl rfl rfl rfl hl.1 rfl (Nat.le_of_ble_eq_true rfl) dX9_takeOff_104 (fun o w' H locs hp hB => ?_)
                obtain ⟨rfl, hw9⟩ := hp
                replace hB : Bd κ A s (lA κ b_r (C * 5) f1_80 :: gO g_r C C b_r :: lA κ b_l (R * 5) f2_4 :: gO g_l R R b_l :: lA κ b_w (R * 5) f3_80 :: gO g_w R C b_w :: (s_0, .inr (10, [.ref g_w, .ref g_l, .ref g_r, .int i1, .int i2, .int i3, .int i4_80])) :: w) H locs := by rw [hw9] at hB; exact hB
                refine W.eq (g2 := F0 m 107 ls [.long (f3_80 (t * 5 + y2_80))]) rfl ?_
                refine lv_aload_n hx hb dX9_takeOff_107 rfl (lv_at hl 1 rfl) ?_
                refine gf (k0 := 6) hX hB rfl rfl in9 0 (by decide) wm_6_221 rfl rfl dX9_takeOff_108 ?_
                refine lv_iload_n hx hb dX9_takeOff_111 rfl (lv_at hl 2 rfl) ?_
                refine lv_iload_n hx hb dX9_takeOff_112 rfl (lv_at hl 2 rfl) ?_
                refine call_V (n := 2) (k0 := 5) (As := [.int (nI t), .int (nI t)]) (rest := [.long (f3_80 (t * 5 + y2_80))]) hX hB (k_X7_at κ l (lA κ b_r (C * 5) f1_80 :: gO g_r C C b_r :: lA κ b_l (R * 5) f2_4 :: gO g_l R R b_l :: lA κ b_w (R * 5) f3_80 :: gO g_w R C b_w :: (s_0, .inr (10, [.ref g_w, .ref g_l, .ref g_r, .int i1, .int i2, .int i3, .int i4_80])) :: w) 5 4 g_w b_w R C f3_80 (nI t) t (nI t) t rfl rfl hs rfl rfl (by omega)) ⟨rfl, yk_X7_at⟩ wm_6_188 wm_5_238 wm_5_239 wm_1_7 wm_6_0 ⟨Nat.le_of_ble_eq_true rfl, Nat.le_of_ble_eq_true rfl⟩ ⟨Nat.le_of_ble_eq_true rfl, Nat.le_of_ble_eq_true rfl⟩ rfl rfl rfl rfl hl.1 rfl (Nat.le_of_ble_eq_true rfl) dX9_takeOff_113 (fun o w' H locs hp hB => ?_)
                obtain ⟨rfl, hw9⟩ := hp
                replace hB : Bd κ A s (lA κ b_r (C * 5) f1_80 :: gO g_r C C b_r :: lA κ b_l (R * 5) f2_4 :: gO g_l R R b_l :: lA κ b_w (R * 5) f3_80 :: gO g_w R C b_w :: (s_0, .inr (10, [.ref g_w, .ref g_l, .ref g_r, .int i1, .int i2, .int i3, .int i4_80])) :: w) H locs := by rw [hw9] at hB; exact hB
                refine W.eq (g2 := F0 m 116 ls [.long (f3_80 (t * 5 + t)), .long (f3_80 (t * 5 + y2_80))]) rfl ?_
                refine call_S (n := 2) (As := [.long (f3_80 (t * 5 + y2_80)), .long (f3_80 (t * 5 + t))]) (rest := []) hX hB (k_J9_floorDiv_f86c9 κ l (lA κ b_r (C * 5) f1_80 :: gO g_r C C b_r :: lA κ b_l (R * 5) f2_4 :: gO g_l R R b_l :: lA κ b_w (R * 5) f3_80 :: gO g_w R C b_w :: (s_0, .inr (10, [.ref g_w, .ref g_l, .ref g_r, .int i1, .int i2, .int i3, .int i4_80])) :: w) (f3_80 (t * 5 + y2_80)) (f3_80 (t * 5 + t)) (T2_pv hJT hT2 hp)) yk_J9_floorDiv_f86c9 wm_6_205 wm_2_20 wm_1_14 wm_2_21 ⟨Nat.le_of_ble_eq_true rfl, Nat.le_of_ble_eq_true rfl⟩ ⟨Nat.le_of_ble_eq_true rfl, Nat.le_of_ble_eq_true rfl⟩ rfl hl.1 rfl (Nat.le_of_ble_eq_true rfl) dX9_takeOff_116 (fun o w' H locs hp hB => ?_)
                obtain ⟨x94, rfl, ex94, hw9⟩ := hp
                rw [hw9] at hB
                subst ex94
                refine W.eq (g2 := F0 m 119 ls [.long (fdv (f3_80 (t * 5 + y2_80)) (f3_80 (t * 5 + t)))]) rfl ?_
                refine lv_lstore_n (lv' := [(3, .long (fdv (f3_80 (t * 5 + y2_80)) (f3_80 (t * 5 + t)))), (2, .int (nI y2_80)), (0, .ref s_0), (1, .int (nI t))]) hx hb dX9_takeOff_119 rfl hl (by decide) rfl (fun ls hl => ?_)
                refine lv_aload_n hx hb dX9_takeOff_120 rfl (lv_at hl 2 rfl) ?_
                refine gf (k0 := 6) hX hB rfl rfl in9 0 (by decide) wm_6_221 rfl rfl dX9_takeOff_121 ?_
                refine lv_iload_n hx hb dX9_takeOff_124 rfl (lv_at hl 1 rfl) ?_
                refine lv_iload_n hx hb dX9_takeOff_125 rfl (lv_at hl 3 rfl) ?_
                refine lv_lload_n hx hb dX9_takeOff_126 rfl (lv_at hl 0 rfl) ?_
                refine lv_lneg hx hb dX9_takeOff_127 ?_
                refine call_V (n := 3) (k0 := 5) (As := [.int (nI y2_80), .int (nI t), .long (-(fdv (f3_80 (t * 5 + y2_80)) (f3_80 (t * 5 + t))))]) (rest := []) hX hB (k_X7_addColumn κ l (lA κ b_r (C * 5) f1_80 :: gO g_r C C b_r :: lA κ b_l (R * 5) f2_4 :: gO g_l R R b_l :: lA κ b_w (R * 5) f3_80 :: gO g_w R C b_w :: (s_0, .inr (10, [.ref g_w, .ref g_l, .ref g_r, .int i1, .int i2, .int i3, .int i4_80])) :: w) 5 4 g_w b_w R C f3_80 (nI y2_80) y2_80 (nI t) t (-(fdv (f3_80 (t * 5 + y2_80)) (f3_80 (t * 5 + t)))) rfl rfl hs rfl rfl (by omega) (by omega) (by omega)) ⟨rfl, yk_X7_addColumn⟩ wm_6_212 wm_6_76 wm_6_77 wm_1_7 wm_6_78 ⟨Nat.le_of_ble_eq_true rfl, Nat.le_of_ble_eq_true rfl⟩ ⟨Nat.le_of_ble_eq_true rfl, Nat.le_of_ble_eq_true rfl⟩ rfl rfl rfl rfl hl.1 rfl (Nat.le_of_ble_eq_true rfl) dX9_takeOff_128 (fun o w' H locs hp hB => ?_)
                obtain ⟨rfl, hw9⟩ := hp
                replace hB : Bd κ A s (lA κ b_r (C * 5) f1_80 :: gO g_r C C b_r :: lA κ b_l (R * 5) f2_4 :: gO g_l R R b_l :: lA κ b_w (R * 5) (ac R y2_80 t (-(fdv (f3_80 (t * 5 + y2_80)) (f3_80 (t * 5 + t)))) f3_80) :: gO g_w R C b_w :: (s_0, .inr (10, [.ref g_w, .ref g_l, .ref g_r, .int i1, .int i2, .int i3, .int i4_80])) :: w) H locs := by rw [hw9] at hB; exact hB
                refine W.eq (g2 := F0 m 131 ls []) rfl ?_
                refine lv_aload_n hx hb dX9_takeOff_131 rfl (lv_at hl 2 rfl) ?_
                refine gf (k0 := 6) hX hB rfl rfl in9 2 (by decide) wm_6_225 rfl rfl dX9_takeOff_132 ?_
                refine lv_iload_n hx hb dX9_takeOff_135 rfl (lv_at hl 1 rfl) ?_
                refine lv_iload_n hx hb dX9_takeOff_136 rfl (lv_at hl 3 rfl) ?_
                refine lv_lload_n hx hb dX9_takeOff_137 rfl (lv_at hl 0 rfl) ?_
                refine lv_lneg hx hb dX9_takeOff_138 ?_
                refine call_V (n := 3) (k0 := 1) (As := [.int (nI y2_80), .int (nI t), .long (-(fdv (f3_80 (t * 5 + y2_80)) (f3_80 (t * 5 + t))))]) (rest := []) hX hB (k_X7_addColumn κ l (lA κ b_r (C * 5) f1_80 :: gO g_r C C b_r :: lA κ b_l (R * 5) f2_4 :: gO g_l R R b_l :: lA κ b_w (R * 5) (ac R y2_80 t (-(fdv (f3_80 (t * 5 + y2_80)) (f3_80 (t * 5 + t)))) f3_80) :: gO g_w R C b_w :: (s_0, .inr (10, [.ref g_w, .ref g_l, .ref g_r, .int i1, .int i2, .int i3, .int i4_80])) :: w) 1 0 g_r b_r C C f1_80 (nI y2_80) y2_80 (nI t) t (-(fdv (f3_80 (t * 5 + y2_80)) (f3_80 (t * 5 + t)))) rfl rfl ⟨by omega, by omega, by omega, by omega⟩ rfl rfl (by omega) (by omega) (by omega)) ⟨rfl, yk_X7_addColumn⟩ wm_6_212 wm_6_76 wm_6_77 wm_1_7 wm_6_78 ⟨Nat.le_of_ble_eq_true rfl, Nat.le_of_ble_eq_true rfl⟩ ⟨Nat.le_of_ble_eq_true rfl, Nat.le_of_ble_eq_true rfl⟩ rfl rfl rfl rfl hl.1 rfl (Nat.le_of_ble_eq_true rfl) dX9_takeOff_139 (fun o w' H locs hp hB => ?_)
                obtain ⟨rfl, hw9⟩ := hp
                replace hB : Bd κ A s (lA κ b_r (C * 5) (ac C y2_80 t (-(fdv (f3_80 (t * 5 + y2_80)) (f3_80 (t * 5 + t)))) f1_80) :: gO g_r C C b_r :: lA κ b_l (R * 5) f2_4 :: gO g_l R R b_l :: lA κ b_w (R * 5) (ac R y2_80 t (-(fdv (f3_80 (t * 5 + y2_80)) (f3_80 (t * 5 + t)))) f3_80) :: gO g_w R C b_w :: (s_0, .inr (10, [.ref g_w, .ref g_l, .ref g_r, .int i1, .int i2, .int i3, .int i4_80])) :: w) H locs := by rw [hw9] at hB; exact hB
                refine W.eq (g2 := F0 m 142 ls []) rfl ?_
                refine lv_aload_n hx hb dX9_takeOff_142 rfl (lv_at hl 2 rfl) ?_
                obtain ⟨G95, hd96⟩ := ex1 (D_X9_look R C (ac C y2_80 t (-(fdv (f3_80 (t * 5 + y2_80)) (f3_80 (t * 5 + t)))) f1_80) f2_4 (ac R y2_80 t (-(fdv (f3_80 (t * 5 + y2_80)) (f3_80 (t * 5 + t)))) f3_80) i1 i2 i3 i4_80)
                replace hR := bnd1_use hd96 hR
                refine call_V (n := 0) (k0 := 6) (As := []) (rest := []) hX hB (k_X9_look κ l (w) s_0 g_r b_r g_l b_l g_w b_w R C (ac C y2_80 t (-(fdv (f3_80 (t * 5 + y2_80)) (f3_80 (t * 5 + t)))) f1_80) f2_4 (ac R y2_80 t (-(fdv (f3_80 (t * 5 + y2_80)) (f3_80 (t * 5 + t)))) f3_80) i1 i2 i3 i4_80 hs (by omega) hT2.1 G95 hd96) ⟨rfl, yk_X9_look⟩ wm_6_207 wm_6_209 wp_45 wm_1_16 wm_6_210 ⟨Nat.le_of_ble_eq_true rfl, Nat.le_of_ble_eq_true rfl⟩ ⟨Nat.le_of_ble_eq_true rfl, Nat.le_of_ble_eq_true rfl⟩ rfl rfl rfl rfl hl.1 rfl (Nat.le_of_ble_eq_true rfl) dX9_takeOff_143 (fun o w' H locs hp hB => ?_)
                obtain ⟨rfl, hf97, hf98, hw9⟩ := hp
                replace hB : Bd κ A s (lA κ b_r (C * 5) (ac C y2_80 t (-(fdv (f3_80 (t * 5 + y2_80)) (f3_80 (t * 5 + t)))) f1_80) :: gO g_r C C b_r :: lA κ b_l (R * 5) f2_4 :: gO g_l R R b_l :: lA κ b_w (R * 5) (ac R y2_80 t (-(fdv (f3_80 (t * 5 + y2_80)) (f3_80 (t * 5 + t)))) f3_80) :: gO g_w R C b_w :: (s_0, .inr (10, [.ref g_w, .ref g_l, .ref g_r, .int i1, .int i2, .int i3, .int G95])) :: w) H locs := by rw [hw9] at hB; exact hB
                refine W.eq (g2 := F0 m 146 ls []) rfl ?_
                refine lv_iinc (v := nI (y2_80 + 1)) (lv' := [(2, .int (nI (y2_80 + 1))), (3, .long (fdv (f3_80 (t * 5 + y2_80)) (f3_80 (t * 5 + t)))), (0, .ref s_0), (1, .int (nI t))]) hx hb dX9_takeOff_146 hl (k := 1) rfl (nI_add y2_80 1) (by decide) rfl (fun ls hl => ?_)
                refine lv_goto (tgt := 80) hx hb dX9_takeOff_149 (by decide) ?_
                exact ih80 (y2_80 + 1) (ac C y2_80 t (-(fdv (f3_80 (t * 5 + y2_80)) (f3_80 (t * 5 + t)))) f1_80) (ac R y2_80 t (-(fdv (f3_80 (t * 5 + y2_80)) (f3_80 (t * 5 + t)))) f3_80) G95 _ _ (by omega) (by omega) (T2_s hs4 (by omega) (by omega) hT2 hf97 hf98) (by omega) hR hB _ (lv_sub hl [0, 2, 3] rfl)
        exact lp80 _ (t + 1) f1 f3_4 i4_4 _ _ (by omega) (by omega) (T2_0 hJT) (Nat.lt_succ_self _) hR hB _ hl
      refine lv_icmp_ge (tgt := 76) hx hb dX9_takeOff_12 (by decide) (fun c99 => ?_) (fun c99 => ?_)
      · rw [nleP (a := R) (b := y2_4) (by omega) (by omega)] at c99
        replace hR := ifp c99 hR
        exact jn76  _ _ (by first | exact T1_g hT1 hX3 | exact (show y2_4 = R by omega) ▸ hT1) hR hB _ hl
      · rw [nleP (a := R) (b := y2_4) (by omega) (by omega)] at c99
        replace hR := ifn c99 hR
        refine lv_aload_n hx hb dX9_takeOff_15 rfl (lv_at hl 1 rfl) ?_
        refine gf (k0 := 6) hX hB rfl rfl in9 6 (by decide) wm_6_233 rfl rfl dX9_takeOff_16 ?_
        refine lv_if_ne (tgt := 76) hx hb dX9_takeOff_19 (by decide) (fun c100 => ?_) (fun c100 => ?_)
        · replace hR := ifn c100 hR
          have hX3 := c100
          exact jn76  _ _ (by first | exact T1_g hT1 hX3 | exact (show y2_4 = R by omega) ▸ hT1) hR hB _ hl
        · replace hR := ifp c100 hR
          have hX4 := c100
          refine lv_aload_n hx hb dX9_takeOff_22 rfl (lv_at hl 1 rfl) ?_
          refine gf (k0 := 6) hX hB rfl rfl in9 0 (by decide) wm_6_221 rfl rfl dX9_takeOff_23 ?_
          refine lv_iload_n hx hb dX9_takeOff_26 rfl (lv_at hl 0 rfl) ?_
          refine lv_iload_n hx hb dX9_takeOff_27 rfl (lv_at hl 2 rfl) ?_
          refine call_V (n := 2) (k0 := 5) (As := [.int (nI y2_4), .int (nI t)]) (rest := []) hX hB (k_X7_at κ l (lA κ b_r (C * 5) f1 :: gO g_r C C b_r :: lA κ b_l (R * 5) f2_4 :: gO g_l R R b_l :: lA κ b_w (R * 5) f3_4 :: gO g_w R C b_w :: (s_0, .inr (10, [.ref g_w, .ref g_l, .ref g_r, .int i1, .int i2, .int i3, .int i4_4])) :: w) 5 4 g_w b_w R C f3_4 (nI y2_4) y2_4 (nI t) t rfl rfl hs rfl rfl (by omega)) ⟨rfl, yk_X7_at⟩ wm_6_188 wm_5_238 wm_5_239 wm_1_7 wm_6_0 ⟨Nat.le_of_ble_eq_true rfl, Nat.le_of_ble_eq_true rfl⟩ ⟨Nat.le_of_ble_eq_true rfl, Nat.le_of_ble_eq_true rfl⟩ rfl rfl rfl rfl hl.1 rfl (Nat.le_of_ble_eq_true rfl) dX9_takeOff_28 (fun o w' H locs hp hB => ?_)
          obtain ⟨rfl, hw9⟩ := hp
          replace hB : Bd κ A s (lA κ b_r (C * 5) f1 :: gO g_r C C b_r :: lA κ b_l (R * 5) f2_4 :: gO g_l R R b_l :: lA κ b_w (R * 5) f3_4 :: gO g_w R C b_w :: (s_0, .inr (10, [.ref g_w, .ref g_l, .ref g_r, .int i1, .int i2, .int i3, .int i4_4])) :: w) H locs := by rw [hw9] at hB; exact hB
          refine W.eq (g2 := F0 m 31 ls [.long (f3_4 (y2_4 * 5 + t))]) rfl ?_
          refine lv_aload_n hx hb dX9_takeOff_31 rfl (lv_at hl 1 rfl) ?_
          refine gf (k0 := 6) hX hB rfl rfl in9 0 (by decide) wm_6_221 rfl rfl dX9_takeOff_32 ?_
          refine lv_iload_n hx hb dX9_takeOff_35 rfl (lv_at hl 2 rfl) ?_
          refine lv_iload_n hx hb dX9_takeOff_36 rfl (lv_at hl 2 rfl) ?_
          refine call_V (n := 2) (k0 := 5) (As := [.int (nI t), .int (nI t)]) (rest := [.long (f3_4 (y2_4 * 5 + t))]) hX hB (k_X7_at κ l (lA κ b_r (C * 5) f1 :: gO g_r C C b_r :: lA κ b_l (R * 5) f2_4 :: gO g_l R R b_l :: lA κ b_w (R * 5) f3_4 :: gO g_w R C b_w :: (s_0, .inr (10, [.ref g_w, .ref g_l, .ref g_r, .int i1, .int i2, .int i3, .int i4_4])) :: w) 5 4 g_w b_w R C f3_4 (nI t) t (nI t) t rfl rfl hs rfl rfl (by omega)) ⟨rfl, yk_X7_at⟩ wm_6_188 wm_5_238 wm_5_239 wm_1_7 wm_6_0 ⟨Nat.le_of_ble_eq_true rfl, Nat.le_of_ble_eq_true rfl⟩ ⟨Nat.le_of_ble_eq_true rfl, Nat.le_of_ble_eq_true rfl⟩ rfl rfl rfl rfl hl.1 rfl (Nat.le_of_ble_eq_true rfl) dX9_takeOff_37 (fun o w' H locs hp hB => ?_)
          obtain ⟨rfl, hw9⟩ := hp
          replace hB : Bd κ A s (lA κ b_r (C * 5) f1 :: gO g_r C C b_r :: lA κ b_l (R * 5) f2_4 :: gO g_l R R b_l :: lA κ b_w (R * 5) f3_4 :: gO g_w R C b_w :: (s_0, .inr (10, [.ref g_w, .ref g_l, .ref g_r, .int i1, .int i2, .int i3, .int i4_4])) :: w) H locs := by rw [hw9] at hB; exact hB
          refine W.eq (g2 := F0 m 40 ls [.long (f3_4 (t * 5 + t)), .long (f3_4 (y2_4 * 5 + t))]) rfl ?_
          refine call_S (n := 2) (As := [.long (f3_4 (y2_4 * 5 + t)), .long (f3_4 (t * 5 + t))]) (rest := []) hX hB (k_J9_floorDiv_f86c9 κ l (lA κ b_r (C * 5) f1 :: gO g_r C C b_r :: lA κ b_l (R * 5) f2_4 :: gO g_l R R b_l :: lA κ b_w (R * 5) f3_4 :: gO g_w R C b_w :: (s_0, .inr (10, [.ref g_w, .ref g_l, .ref g_r, .int i1, .int i2, .int i3, .int i4_4])) :: w) (f3_4 (y2_4 * 5 + t)) (f3_4 (t * 5 + t)) (T1_pv hT1 hp)) yk_J9_floorDiv_f86c9 wm_6_205 wm_2_20 wm_1_14 wm_2_21 ⟨Nat.le_of_ble_eq_true rfl, Nat.le_of_ble_eq_true rfl⟩ ⟨Nat.le_of_ble_eq_true rfl, Nat.le_of_ble_eq_true rfl⟩ rfl hl.1 rfl (Nat.le_of_ble_eq_true rfl) dX9_takeOff_40 (fun o w' H locs hp hB => ?_)
          obtain ⟨x101, rfl, ex101, hw9⟩ := hp
          rw [hw9] at hB
          subst ex101
          refine W.eq (g2 := F0 m 43 ls [.long (fdv (f3_4 (y2_4 * 5 + t)) (f3_4 (t * 5 + t)))]) rfl ?_
          refine lv_lstore_n (lv' := [(3, .long (fdv (f3_4 (y2_4 * 5 + t)) (f3_4 (t * 5 + t)))), (2, .int (nI y2_4)), (0, .ref s_0), (1, .int (nI t))]) hx hb dX9_takeOff_43 rfl hl (by decide) rfl (fun ls hl => ?_)
          refine lv_aload_n hx hb dX9_takeOff_44 rfl (lv_at hl 2 rfl) ?_
          refine gf (k0 := 6) hX hB rfl rfl in9 0 (by decide) wm_6_221 rfl rfl dX9_takeOff_45 ?_
          refine lv_iload_n hx hb dX9_takeOff_48 rfl (lv_at hl 1 rfl) ?_
          refine lv_iload_n hx hb dX9_takeOff_49 rfl (lv_at hl 3 rfl) ?_
          refine lv_lload_n hx hb dX9_takeOff_50 rfl (lv_at hl 0 rfl) ?_
          refine lv_lneg hx hb dX9_takeOff_51 ?_
          refine call_V (n := 3) (k0 := 5) (As := [.int (nI y2_4), .int (nI t), .long (-(fdv (f3_4 (y2_4 * 5 + t)) (f3_4 (t * 5 + t))))]) (rest := []) hX hB (k_X7_addRow κ l (lA κ b_r (C * 5) f1 :: gO g_r C C b_r :: lA κ b_l (R * 5) f2_4 :: gO g_l R R b_l :: lA κ b_w (R * 5) f3_4 :: gO g_w R C b_w :: (s_0, .inr (10, [.ref g_w, .ref g_l, .ref g_r, .int i1, .int i2, .int i3, .int i4_4])) :: w) 5 4 g_w b_w R C f3_4 (nI y2_4) y2_4 (nI t) t (-(fdv (f3_4 (y2_4 * 5 + t)) (f3_4 (t * 5 + t)))) rfl rfl hs rfl rfl (by omega) (by omega) (by omega)) ⟨rfl, yk_X7_addRow⟩ wm_6_206 wm_6_80 wm_6_81 wm_1_7 wm_6_82 ⟨Nat.le_of_ble_eq_true rfl, Nat.le_of_ble_eq_true rfl⟩ ⟨Nat.le_of_ble_eq_true rfl, Nat.le_of_ble_eq_true rfl⟩ rfl rfl rfl rfl hl.1 rfl (Nat.le_of_ble_eq_true rfl) dX9_takeOff_52 (fun o w' H locs hp hB => ?_)
          obtain ⟨rfl, hw9⟩ := hp
          replace hB : Bd κ A s (lA κ b_r (C * 5) f1 :: gO g_r C C b_r :: lA κ b_l (R * 5) f2_4 :: gO g_l R R b_l :: lA κ b_w (R * 5) (ar C y2_4 t (-(fdv (f3_4 (y2_4 * 5 + t)) (f3_4 (t * 5 + t)))) f3_4) :: gO g_w R C b_w :: (s_0, .inr (10, [.ref g_w, .ref g_l, .ref g_r, .int i1, .int i2, .int i3, .int i4_4])) :: w) H locs := by rw [hw9] at hB; exact hB
          refine W.eq (g2 := F0 m 55 ls []) rfl ?_
          refine lv_aload_n hx hb dX9_takeOff_55 rfl (lv_at hl 2 rfl) ?_
          refine gf (k0 := 6) hX hB rfl rfl in9 1 (by decide) wm_6_223 rfl rfl dX9_takeOff_56 ?_
          refine lv_iload_n hx hb dX9_takeOff_59 rfl (lv_at hl 1 rfl) ?_
          refine lv_iload_n hx hb dX9_takeOff_60 rfl (lv_at hl 3 rfl) ?_
          refine lv_lload_n hx hb dX9_takeOff_61 rfl (lv_at hl 0 rfl) ?_
          refine lv_lneg hx hb dX9_takeOff_62 ?_
          refine call_V (n := 3) (k0 := 3) (As := [.int (nI y2_4), .int (nI t), .long (-(fdv (f3_4 (y2_4 * 5 + t)) (f3_4 (t * 5 + t))))]) (rest := []) hX hB (k_X7_addRow κ l (lA κ b_r (C * 5) f1 :: gO g_r C C b_r :: lA κ b_l (R * 5) f2_4 :: gO g_l R R b_l :: lA κ b_w (R * 5) (ar C y2_4 t (-(fdv (f3_4 (y2_4 * 5 + t)) (f3_4 (t * 5 + t)))) f3_4) :: gO g_w R C b_w :: (s_0, .inr (10, [.ref g_w, .ref g_l, .ref g_r, .int i1, .int i2, .int i3, .int i4_4])) :: w) 3 2 g_l b_l R R f2_4 (nI y2_4) y2_4 (nI t) t (-(fdv (f3_4 (y2_4 * 5 + t)) (f3_4 (t * 5 + t)))) rfl rfl ⟨by omega, by omega, by omega, by omega⟩ rfl rfl (by omega) (by omega) (by omega)) ⟨rfl, yk_X7_addRow⟩ wm_6_206 wm_6_80 wm_6_81 wm_1_7 wm_6_82 ⟨Nat.le_of_ble_eq_true rfl, Nat.le_of_ble_eq_true rfl⟩ ⟨Nat.le_of_ble_eq_true rfl, Nat.le_of_ble_eq_true rfl⟩ rfl rfl rfl rfl hl.1 rfl (Nat.le_of_ble_eq_true rfl) dX9_takeOff_63 (fun o w' H locs hp hB => ?_)
          obtain ⟨rfl, hw9⟩ := hp
          replace hB : Bd κ A s (lA κ b_r (C * 5) f1 :: gO g_r C C b_r :: lA κ b_l (R * 5) (ar R y2_4 t (-(fdv (f3_4 (y2_4 * 5 + t)) (f3_4 (t * 5 + t)))) f2_4) :: gO g_l R R b_l :: lA κ b_w (R * 5) (ar C y2_4 t (-(fdv (f3_4 (y2_4 * 5 + t)) (f3_4 (t * 5 + t)))) f3_4) :: gO g_w R C b_w :: (s_0, .inr (10, [.ref g_w, .ref g_l, .ref g_r, .int i1, .int i2, .int i3, .int i4_4])) :: w) H locs := by rw [hw9] at hB; exact hB
          refine W.eq (g2 := F0 m 66 ls []) rfl ?_
          refine lv_aload_n hx hb dX9_takeOff_66 rfl (lv_at hl 2 rfl) ?_
          obtain ⟨G102, hd103⟩ := ex1 (D_X9_look R C f1 (ar R y2_4 t (-(fdv (f3_4 (y2_4 * 5 + t)) (f3_4 (t * 5 + t)))) f2_4) (ar C y2_4 t (-(fdv (f3_4 (y2_4 * 5 + t)) (f3_4 (t * 5 + t)))) f3_4) i1 i2 i3 i4_4)
          replace hR := bnd1_use hd103 hR
          refine call_V (n := 0) (k0 := 6) (As := []) (rest := []) hX hB (k_X9_look κ l (w) s_0 g_r b_r g_l b_l g_w b_w R C f1 (ar R y2_4 t (-(fdv (f3_4 (y2_4 * 5 + t)) (f3_4 (t * 5 + t)))) f2_4) (ar C y2_4 t (-(fdv (f3_4 (y2_4 * 5 + t)) (f3_4 (t * 5 + t)))) f3_4) i1 i2 i3 i4_4 hs (by omega) hT1.1 G102 hd103) ⟨rfl, yk_X9_look⟩ wm_6_207 wm_6_209 wp_45 wm_1_16 wm_6_210 ⟨Nat.le_of_ble_eq_true rfl, Nat.le_of_ble_eq_true rfl⟩ ⟨Nat.le_of_ble_eq_true rfl, Nat.le_of_ble_eq_true rfl⟩ rfl rfl rfl rfl hl.1 rfl (Nat.le_of_ble_eq_true rfl) dX9_takeOff_67 (fun o w' H locs hp hB => ?_)
          obtain ⟨rfl, hf104, hf105, hw9⟩ := hp
          replace hB : Bd κ A s (lA κ b_r (C * 5) f1 :: gO g_r C C b_r :: lA κ b_l (R * 5) (ar R y2_4 t (-(fdv (f3_4 (y2_4 * 5 + t)) (f3_4 (t * 5 + t)))) f2_4) :: gO g_l R R b_l :: lA κ b_w (R * 5) (ar C y2_4 t (-(fdv (f3_4 (y2_4 * 5 + t)) (f3_4 (t * 5 + t)))) f3_4) :: gO g_w R C b_w :: (s_0, .inr (10, [.ref g_w, .ref g_l, .ref g_r, .int i1, .int i2, .int i3, .int G102])) :: w) H locs := by rw [hw9] at hB; exact hB
          refine W.eq (g2 := F0 m 70 ls []) rfl ?_
          refine lv_iinc (v := nI (y2_4 + 1)) (lv' := [(2, .int (nI (y2_4 + 1))), (3, .long (fdv (f3_4 (y2_4 * 5 + t)) (f3_4 (t * 5 + t)))), (0, .ref s_0), (1, .int (nI t))]) hx hb dX9_takeOff_70 hl (k := 1) rfl (nI_add y2_4 1) (by decide) rfl (fun ls hl => ?_)
          refine lv_goto (tgt := 4) hx hb dX9_takeOff_73 (by decide) ?_
          exact ih4 (y2_4 + 1) (ar R y2_4 t (-(fdv (f3_4 (y2_4 * 5 + t)) (f3_4 (t * 5 + t)))) f2_4) (ar C y2_4 t (-(fdv (f3_4 (y2_4 * 5 + t)) (f3_4 (t * 5 + t)))) f3_4) G102 _ _ (by omega) (by omega) (T1_s hs4 (by omega) (by omega) (by omega) hT1 hf104 hf105) (by omega) hR hB _ (lv_sub hl [0, 2, 3] rfl)
  exact lp4 _ (t + 1) f2 f3 i4 _ _ (by omega) (by omega) (T1_0 hng (Or.inl hg0)) (Nat.lt_succ_self _) hR hB _ hl
noncomputable def D_X9_isAlone_41 (C : Nat) (f3 : Nat → Int64) (t : Nat) (nn : Nat) : Nat → Int32 := @Nat.rec (fun _ => Nat → Int32) (fun _ => default) (fun _ lb41 (y2_41 : Nat) => (if C ≤ y2_41 then 1 else (if (lg_cmp (f3 (t * 5 + y2_41)) 0) = 0 then (lb41 (y2_41 + 1)) else 0))) nn
theorem D_X9_isAlone_41_s {C : Nat} {f3 : Nat → Int64} {t : Nat} {nn : Nat} {y2_41 : Nat} : D_X9_isAlone_41 C f3 t (nn + 1) y2_41 = (if C ≤ y2_41 then 1 else (if (lg_cmp (f3 (t * 5 + y2_41)) 0) = 0 then ((D_X9_isAlone_41 C f3 t nn) (y2_41 + 1)) else 0)) := rfl
noncomputable def D_X9_isAlone_4 (R : Nat) (C : Nat) (f3 : Nat → Int64) (t : Nat) (nn : Nat) : Nat → Int32 := @Nat.rec (fun _ => Nat → Int32) (fun _ => default) (fun _ lb4 (y2_4 : Nat) => (if R ≤ y2_4 then (D_X9_isAlone_41 C f3 t (C + 1 - (t + 1) + 1) (t + 1)) else (if (lg_cmp (f3 (y2_4 * 5 + t)) 0) = 0 then (lb4 (y2_4 + 1)) else 0))) nn
theorem D_X9_isAlone_4_s {R : Nat} {C : Nat} {f3 : Nat → Int64} {t : Nat} {nn : Nat} {y2_4 : Nat} : D_X9_isAlone_4 R C f3 t (nn + 1) y2_4 = (if R ≤ y2_4 then (D_X9_isAlone_41 C f3 t (C + 1 - (t + 1) + 1) (t + 1)) else (if (lg_cmp (f3 (y2_4 * 5 + t)) 0) = 0 then ((D_X9_isAlone_4 R C f3 t nn) (y2_4 + 1)) else 0)) := rfl
noncomputable def D_X9_isAlone (R : Nat) (C : Nat) (f1 : Nat → Int64) (f2 : Nat → Int64) (f3 : Nat → Int64) (i1 : Int32) (i2 : Int32) (i3 : Int32) (i4 : Int32) (t : Nat) : Int32 := (D_X9_isAlone_4 R C f3 t (R + 1 - (t + 1) + 1) (t + 1))
theorem D_X9_isAlone_s {R : Nat} {C : Nat} {f1 : Nat → Int64} {f2 : Nat → Int64} {f3 : Nat → Int64} {i1 : Int32} {i2 : Int32} {i3 : Int32} {i4 : Int32} {t : Nat} : D_X9_isAlone R C f1 f2 f3 i1 i2 i3 i4 t = (D_X9_isAlone_4 R C f3 t (R + 1 - (t + 1) + 1) (t + 1)) := rfl
set_option maxHeartbeats 4000000 in
set_option maxRecDepth 100000 in
theorem k_X9_isAlone (κ : Kt) (l : Launch) (w : va_W) (s_0 g_r b_r g_l b_l g_w b_w R C : Nat) (f1 f2 f3 : Nat → Int64) (i1 i2 i3 i4 : Int32) (xt : Int32) (t : Nat) (hs : shp R C) (hC4 : C ≤ 4) (hxt : xt = nI t) (ht : t < R ∧ t < C) (o_x : Int32) (hR : D_X9_isAlone R C f1 f2 f3 i1 i2 i3 i4 t = o_x) : CM κ l yX9_isAlone cX9_isAlone 3 (some .boolean) 1 22 0 0 [.ref s_0, .int xt] (lA κ b_r (C * 5) f1 :: gO g_r C C b_r :: lA κ b_l (R * 5) f2 :: gO g_l R R b_l :: lA κ b_w (R * 5) f3 :: gO g_w R C b_w :: (s_0, .inr (10, [.ref g_w, .ref g_l, .ref g_r, .int i1, .int i2, .int i3, .int i4])) :: w) (fun o w' => o = some (.int o_x) ∧ (o_x = 0 ∧ (∃ i j, t ≤ i ∧ i < R ∧ t ≤ j ∧ j < C ∧ (i = t ∧ t < j ∨ t < i ∧ j = t) ∧ ¬ f3 (i * 5 + j) = 0) ∨ o_x = 1 ∧ (∀ i, t < i → i < R → f3 (i * 5 + t) = 0) ∧ ∀ j, t < j → j < C → f3 (t * 5 + j) = 0) ∧ w' = lA κ b_r (C * 5) f1 :: gO g_r C C b_r :: lA κ b_l (R * 5) f2 :: gO g_l R R b_l :: lA κ b_w (R * 5) f3 :: gO g_w R C b_w :: (s_0, .inr (10, [.ref g_w, .ref g_l, .ref g_r, .int i1, .int i2, .int i3, .int i4])) :: w) := by
  have hs0 := hs
  obtain ⟨hs1, hs2, hs3, hs4⟩ := hs0
  subst hxt
  refine CM_begin (plainFor_of_name pn_RX9) (Nat.le_of_ble_eq_true rfl) ?_
  intro p e s m args below meth c A Q hX hnm hA3 hQ hB ls hl
  have hx := hX.1.1
  have hb := hX.1.2.1
  have hl : lv_has ls 3 [(0, .ref s_0), (1, .int (nI t))] := hl
  obtain ⟨ht1, ht2⟩ := ht
  replace hR := (D_X9_isAlone_s).symm.trans hR
  refine lv_iload_n hx hb dX9_isAlone_0 rfl (lv_at hl 1 rfl) ?_
  refine lv_iconst (v := 1) hx hb dX9_isAlone_1 (by decide) ?_
  refine lv_iadd hx hb dX9_isAlone_2 ?_
  refine eqi (y := nI (t + 1)) (nI_add t 1) ?_
  refine lv_istore_n (lv' := [(2, .int (nI (t + 1))), (0, .ref s_0), (1, .int (nI t))]) hx hb dX9_isAlone_3 rfl hl (by decide) rfl (fun ls hl => ?_)
  have lp4 : ∀ (nn4 : Nat) (y2_4 : Nat) (H : Heap) (locs : List Loc), (y2_4 ≤ R) → (t + 1 ≤ y2_4) → (∀ i, t < i → i < y2_4 → f3 (i * 5 + t) = 0) → R + 1 - y2_4 < nn4 → D_X9_isAlone_4 R C f3 t nn4 y2_4 = o_x → Bd κ A s (lA κ b_r (C * 5) f1 :: gO g_r C C b_r :: lA κ b_l (R * 5) f2 :: gO g_l R R b_l :: lA κ b_w (R * 5) f3 :: gO g_w R C b_w :: (s_0, .inr (10, [.ref g_w, .ref g_l, .ref g_r, .int i1, .int i2, .int i3, .int i4])) :: w) H locs → ∀ ls : Array Slot, lv_has ls 3 [(2, .int (nI y2_4)), (0, .ref s_0), (1, .int (nI t))] → W p l e (Rm 1 22 0 0) s m args below meth c H locs (0) (0) Q (F0 m 4 ls []) := by
    intro nn4
    induction nn4 with
    | zero => intro y2_4 H locs hn2_4 hlo4 hA1 hμ; exact absurd hμ (Nat.not_lt_zero _)
    | succ nn4 ih4 =>
      intro y2_4 H locs hn2_4 hlo4 hA1 hμ4 hR hB ls hl
      replace hR := (D_X9_isAlone_4_s).symm.trans hR
      refine lv_iload_n hx hb dX9_isAlone_4 rfl (lv_at hl 0 rfl) ?_
      refine lv_aload_n hx hb dX9_isAlone_5 rfl (lv_at hl 1 rfl) ?_
      refine gf (k0 := 6) hX hB rfl rfl in9 0 (by decide) wm_6_221 rfl rfl dX9_isAlone_6 ?_
      refine gf (k0 := 5) hX hB rfl rfl in7 0 (by decide) wm_5_147 rfl rfl dX9_isAlone_9 ?_
      refine lv_icmp_ge (tgt := 37) hx hb dX9_isAlone_12 (by decide) (fun c17 => ?_) (fun c17 => ?_)
      · rw [nleP (a := R) (b := y2_4) (by omega) (by omega)] at c17
        replace hR := ifp c17 hR
        refine lv_iload_n hx hb dX9_isAlone_37 rfl (lv_at hl 2 rfl) ?_
        refine lv_iconst (v := 1) hx hb dX9_isAlone_38 (by decide) ?_
        refine lv_iadd hx hb dX9_isAlone_39 ?_
        refine eqi (y := nI (t + 1)) (nI_add t 1) ?_
        refine lv_istore_n (lv' := [(2, .int (nI (t + 1))), (0, .ref s_0), (1, .int (nI t))]) hx hb dX9_isAlone_40 rfl hl (by decide) rfl (fun ls hl => ?_)
        have lp41 : ∀ (nn41 : Nat) (y2_41 : Nat) (H : Heap) (locs : List Loc), (y2_41 ≤ C) → (t + 1 ≤ y2_41) → (∀ j, t < j → j < y2_41 → f3 (t * 5 + j) = 0) → C + 1 - y2_41 < nn41 → D_X9_isAlone_41 C f3 t nn41 y2_41 = o_x → Bd κ A s (lA κ b_r (C * 5) f1 :: gO g_r C C b_r :: lA κ b_l (R * 5) f2 :: gO g_l R R b_l :: lA κ b_w (R * 5) f3 :: gO g_w R C b_w :: (s_0, .inr (10, [.ref g_w, .ref g_l, .ref g_r, .int i1, .int i2, .int i3, .int i4])) :: w) H locs → ∀ ls : Array Slot, lv_has ls 3 [(2, .int (nI y2_41)), (0, .ref s_0), (1, .int (nI t))] → W p l e (Rm 1 22 0 0) s m args below meth c H locs (0) (0) Q (F0 m 41 ls []) := by
          intro nn41
          induction nn41 with
          | zero => intro y2_41 H locs hn2_41 hlo41 hA2 hμ; exact absurd hμ (Nat.not_lt_zero _)
          | succ nn41 ih41 =>
            intro y2_41 H locs hn2_41 hlo41 hA2 hμ41 hR hB ls hl
            replace hR := (D_X9_isAlone_41_s).symm.trans hR
            refine lv_iload_n hx hb dX9_isAlone_41 rfl (lv_at hl 0 rfl) ?_
            refine lv_aload_n hx hb dX9_isAlone_42 rfl (lv_at hl 1 rfl) ?_
            refine gf (k0 := 6) hX hB rfl rfl in9 0 (by decide) wm_6_221 rfl rfl dX9_isAlone_43 ?_
            refine gf (k0 := 5) hX hB rfl rfl in7 1 (by decide) wm_5_150 rfl rfl dX9_isAlone_46 ?_
            refine lv_icmp_ge (tgt := 74) hx hb dX9_isAlone_49 (by decide) (fun c22 => ?_) (fun c22 => ?_)
            · rw [nleP (a := C) (b := y2_41) (by omega) (by omega)] at c22
              replace hR := ifp c22 hR
              refine lv_iconst (v := 1) hx hb dX9_isAlone_74 (by decide) ?_
              rw [← hQ]
              exact end_i hX hB hA3 rfl rfl (by obtain rfl := hR; exact ⟨rfl, (Or.inr ⟨rfl, fun i h1 h2 => hA1 i h1 (by omega), fun j h1 h2 => hA2 j h1 (by omega)⟩), rfl⟩) (Nat.le_of_ble_eq_true rfl) (Nat.le_of_ble_eq_true rfl) dX9_isAlone_75
            · rw [nleP (a := C) (b := y2_41) (by omega) (by omega)] at c22
              replace hR := ifn c22 hR
              refine lv_aload_n hx hb dX9_isAlone_52 rfl (lv_at hl 1 rfl) ?_
              refine gf (k0 := 6) hX hB rfl rfl in9 0 (by decide) wm_6_221 rfl rfl dX9_isAlone_53 ?_
              refine lv_iload_n hx hb dX9_isAlone_56 rfl (lv_at hl 2 rfl) ?_
              refine lv_iload_n hx hb dX9_isAlone_57 rfl (lv_at hl 0 rfl) ?_
              refine call_V (n := 2) (k0 := 5) (As := [.int (nI t), .int (nI y2_41)]) (rest := []) hX hB (k_X7_at κ l (lA κ b_r (C * 5) f1 :: gO g_r C C b_r :: lA κ b_l (R * 5) f2 :: gO g_l R R b_l :: lA κ b_w (R * 5) f3 :: gO g_w R C b_w :: (s_0, .inr (10, [.ref g_w, .ref g_l, .ref g_r, .int i1, .int i2, .int i3, .int i4])) :: w) 5 4 g_w b_w R C f3 (nI t) t (nI y2_41) y2_41 rfl rfl hs rfl rfl (by omega)) ⟨rfl, yk_X7_at⟩ wm_6_188 wm_5_238 wm_5_239 wm_1_7 wm_6_0 ⟨Nat.le_of_ble_eq_true rfl, Nat.le_of_ble_eq_true rfl⟩ ⟨Nat.le_of_ble_eq_true rfl, Nat.le_of_ble_eq_true rfl⟩ rfl rfl rfl rfl hl.1 rfl (Nat.le_of_ble_eq_true rfl) dX9_isAlone_58 (fun o w' H locs hp hB => ?_)
              obtain ⟨rfl, hw9⟩ := hp
              replace hB : Bd κ A s (lA κ b_r (C * 5) f1 :: gO g_r C C b_r :: lA κ b_l (R * 5) f2 :: gO g_l R R b_l :: lA κ b_w (R * 5) f3 :: gO g_w R C b_w :: (s_0, .inr (10, [.ref g_w, .ref g_l, .ref g_r, .int i1, .int i2, .int i3, .int i4])) :: w) H locs := by rw [hw9] at hB; exact hB
              refine W.eq (g2 := F0 m 61 ls [.long (f3 (t * 5 + y2_41))]) rfl ?_
              refine lv_lconst (v := 0) hx hb dX9_isAlone_61 (by decide) ?_
              refine W.lcmp hx hb dX9_isAlone_62 ?_
              refine lv_if_eq (tgt := 68) hx hb dX9_isAlone_63 (by decide) (fun c23 => ?_) (fun c23 => ?_)
              · replace hR := ifp c23 hR
                refine lv_iinc (v := nI (y2_41 + 1)) (lv' := [(2, .int (nI (y2_41 + 1))), (0, .ref s_0), (1, .int (nI t))]) hx hb dX9_isAlone_68 hl (k := 0) rfl (nI_add y2_41 1) (by decide) rfl (fun ls hl => ?_)
                refine lv_goto (tgt := 41) hx hb dX9_isAlone_71 (by decide) ?_
                exact ih41 (y2_41 + 1) _ _ (by omega) (by omega) (fun i h1 h2 => (Nat.lt_succ_iff_lt_or_eq.mp h2).elim (hA2 i h1) (fun e => e ▸ lg0.mp (by assumption))) (by omega) hR hB _ hl
              · replace hR := ifn c23 hR
                refine lv_iconst (v := 0) hx hb dX9_isAlone_66 (by decide) ?_
                rw [← hQ]
                exact end_i hX hB hA3 rfl rfl (by obtain rfl := hR; exact ⟨rfl, (Or.inl ⟨rfl, t, y2_41, Nat.le_refl _, (by omega), (by omega), (by omega), Or.inl ⟨rfl, (by omega)⟩, fun e => absurd (lg0.mpr e) (by assumption)⟩), rfl⟩) (Nat.le_of_ble_eq_true rfl) (Nat.le_of_ble_eq_true rfl) dX9_isAlone_67
        exact lp41 _ (t + 1) _ _ (by omega) (by omega) (fun i h1 h2 => absurd h2 (by omega)) (Nat.lt_succ_self _) hR hB _ hl
      · rw [nleP (a := R) (b := y2_4) (by omega) (by omega)] at c17
        replace hR := ifn c17 hR
        refine lv_aload_n hx hb dX9_isAlone_15 rfl (lv_at hl 1 rfl) ?_
        refine gf (k0 := 6) hX hB rfl rfl in9 0 (by decide) wm_6_221 rfl rfl dX9_isAlone_16 ?_
        refine lv_iload_n hx hb dX9_isAlone_19 rfl (lv_at hl 0 rfl) ?_
        refine lv_iload_n hx hb dX9_isAlone_20 rfl (lv_at hl 2 rfl) ?_
        refine call_V (n := 2) (k0 := 5) (As := [.int (nI y2_4), .int (nI t)]) (rest := []) hX hB (k_X7_at κ l (lA κ b_r (C * 5) f1 :: gO g_r C C b_r :: lA κ b_l (R * 5) f2 :: gO g_l R R b_l :: lA κ b_w (R * 5) f3 :: gO g_w R C b_w :: (s_0, .inr (10, [.ref g_w, .ref g_l, .ref g_r, .int i1, .int i2, .int i3, .int i4])) :: w) 5 4 g_w b_w R C f3 (nI y2_4) y2_4 (nI t) t rfl rfl hs rfl rfl (by omega)) ⟨rfl, yk_X7_at⟩ wm_6_188 wm_5_238 wm_5_239 wm_1_7 wm_6_0 ⟨Nat.le_of_ble_eq_true rfl, Nat.le_of_ble_eq_true rfl⟩ ⟨Nat.le_of_ble_eq_true rfl, Nat.le_of_ble_eq_true rfl⟩ rfl rfl rfl rfl hl.1 rfl (Nat.le_of_ble_eq_true rfl) dX9_isAlone_21 (fun o w' H locs hp hB => ?_)
        obtain ⟨rfl, hw9⟩ := hp
        replace hB : Bd κ A s (lA κ b_r (C * 5) f1 :: gO g_r C C b_r :: lA κ b_l (R * 5) f2 :: gO g_l R R b_l :: lA κ b_w (R * 5) f3 :: gO g_w R C b_w :: (s_0, .inr (10, [.ref g_w, .ref g_l, .ref g_r, .int i1, .int i2, .int i3, .int i4])) :: w) H locs := by rw [hw9] at hB; exact hB
        refine W.eq (g2 := F0 m 24 ls [.long (f3 (y2_4 * 5 + t))]) rfl ?_
        refine lv_lconst (v := 0) hx hb dX9_isAlone_24 (by decide) ?_
        refine W.lcmp hx hb dX9_isAlone_25 ?_
        refine lv_if_eq (tgt := 31) hx hb dX9_isAlone_26 (by decide) (fun c24 => ?_) (fun c24 => ?_)
        · replace hR := ifp c24 hR
          refine lv_iinc (v := nI (y2_4 + 1)) (lv' := [(2, .int (nI (y2_4 + 1))), (0, .ref s_0), (1, .int (nI t))]) hx hb dX9_isAlone_31 hl (k := 0) rfl (nI_add y2_4 1) (by decide) rfl (fun ls hl => ?_)
          refine lv_goto (tgt := 4) hx hb dX9_isAlone_34 (by decide) ?_
          exact ih4 (y2_4 + 1) _ _ (by omega) (by omega) (fun i h1 h2 => (Nat.lt_succ_iff_lt_or_eq.mp h2).elim (hA1 i h1) (fun e => e ▸ lg0.mp (by assumption))) (by omega) hR hB _ hl
        · replace hR := ifn c24 hR
          refine lv_iconst (v := 0) hx hb dX9_isAlone_29 (by decide) ?_
          rw [← hQ]
          exact end_i hX hB hA3 rfl rfl (by obtain rfl := hR; exact ⟨rfl, (Or.inl ⟨rfl, y2_4, t, (by omega), (by omega), Nat.le_refl _, (by omega), Or.inr ⟨(by omega), rfl⟩, fun e => absurd (lg0.mpr e) (by assumption)⟩), rfl⟩) (Nat.le_of_ble_eq_true rfl) (Nat.le_of_ble_eq_true rfl) dX9_isAlone_30
  exact lp4 _ (t + 1) _ _ (by omega) (by omega) (fun i h1 h2 => absurd h2 (by omega)) (Nat.lt_succ_self _) hR hB _ hl
noncomputable def D_X9_isDividing_19 (R : Nat) (C : Nat) (f1 : Nat → Int64) (f2 : Nat → Int64) (f3 : Nat → Int64) (i1 : Int32) (i2 : Int32) (i3 : Int32) (i4 : Int32) (t : Nat) (lb4 : Nat → Int32 × (Nat → Int64) × (Nat → Int64) × Int32) (y2_4 : Nat) (nn : Nat) : Nat → Int32 × (Nat → Int64) × (Nat → Int64) × Int32 := @Nat.rec (fun _ => Nat → Int32 × (Nat → Int64) × (Nat → Int64) × Int32) (fun _ => default) (fun _ lb19 (y3_19 : Nat) => (if C ≤ y3_19 then (lb4 (y2_4 + 1)) else (if (lg_cmp ((f3 (y2_4 * 5 + y3_19)) - (f3 (y2_4 * 5 + y3_19)) / (f3 (t * 5 + t)) * (f3 (t * 5 + t))) 0) = 0 then (lb19 (y3_19 + 1)) else bnd1 (D_X9_look R C f1 (ar R t y2_4 1 f2) (ar C t y2_4 1 f3) i1 i2 i3 i4) (fun (G54 : Int32) => (0, ar R t y2_4 1 f2, ar C t y2_4 1 f3, G54))))) nn
theorem D_X9_isDividing_19_s {R : Nat} {C : Nat} {f1 : Nat → Int64} {f2 : Nat → Int64} {f3 : Nat → Int64} {i1 : Int32} {i2 : Int32} {i3 : Int32} {i4 : Int32} {t : Nat} {lb4 : Nat → Int32 × (Nat → Int64) × (Nat → Int64) × Int32} {y2_4 : Nat} {nn : Nat} {y3_19 : Nat} : D_X9_isDividing_19 R C f1 f2 f3 i1 i2 i3 i4 t lb4 y2_4 (nn + 1) y3_19 = (if C ≤ y3_19 then (lb4 (y2_4 + 1)) else (if (lg_cmp ((f3 (y2_4 * 5 + y3_19)) - (f3 (y2_4 * 5 + y3_19)) / (f3 (t * 5 + t)) * (f3 (t * 5 + t))) 0) = 0 then ((D_X9_isDividing_19 R C f1 f2 f3 i1 i2 i3 i4 t lb4 y2_4 nn) (y3_19 + 1)) else bnd1 (D_X9_look R C f1 (ar R t y2_4 1 f2) (ar C t y2_4 1 f3) i1 i2 i3 i4) (fun (G54 : Int32) => (0, ar R t y2_4 1 f2, ar C t y2_4 1 f3, G54)))) := rfl
noncomputable def D_X9_isDividing_4 (R : Nat) (C : Nat) (f1 : Nat → Int64) (f2 : Nat → Int64) (f3 : Nat → Int64) (i1 : Int32) (i2 : Int32) (i3 : Int32) (i4 : Int32) (t : Nat) (nn : Nat) : Nat → Int32 × (Nat → Int64) × (Nat → Int64) × Int32 := @Nat.rec (fun _ => Nat → Int32 × (Nat → Int64) × (Nat → Int64) × Int32) (fun _ => default) (fun _ lb4 (y2_4 : Nat) => (if R ≤ y2_4 then (1, f2, f3, i4) else (D_X9_isDividing_19 R C f1 f2 f3 i1 i2 i3 i4 t lb4 y2_4 (C + 1 - (t + 1) + 1) (t + 1)))) nn
theorem D_X9_isDividing_4_s {R : Nat} {C : Nat} {f1 : Nat → Int64} {f2 : Nat → Int64} {f3 : Nat → Int64} {i1 : Int32} {i2 : Int32} {i3 : Int32} {i4 : Int32} {t : Nat} {nn : Nat} {y2_4 : Nat} : D_X9_isDividing_4 R C f1 f2 f3 i1 i2 i3 i4 t (nn + 1) y2_4 = (if R ≤ y2_4 then (1, f2, f3, i4) else (D_X9_isDividing_19 R C f1 f2 f3 i1 i2 i3 i4 t (D_X9_isDividing_4 R C f1 f2 f3 i1 i2 i3 i4 t nn) y2_4 (C + 1 - (t + 1) + 1) (t + 1))) := rfl
noncomputable def D_X9_isDividing (R : Nat) (C : Nat) (f1 : Nat → Int64) (f2 : Nat → Int64) (f3 : Nat → Int64) (i1 : Int32) (i2 : Int32) (i3 : Int32) (i4 : Int32) (t : Nat) : Int32 × (Nat → Int64) × (Nat → Int64) × Int32 := (D_X9_isDividing_4 R C f1 f2 f3 i1 i2 i3 i4 t (R + 1 - (t + 1) + 1) (t + 1))
theorem D_X9_isDividing_s {R : Nat} {C : Nat} {f1 : Nat → Int64} {f2 : Nat → Int64} {f3 : Nat → Int64} {i1 : Int32} {i2 : Int32} {i3 : Int32} {i4 : Int32} {t : Nat} : D_X9_isDividing R C f1 f2 f3 i1 i2 i3 i4 t = (D_X9_isDividing_4 R C f1 f2 f3 i1 i2 i3 i4 t (R + 1 - (t + 1) + 1) (t + 1)) := rfl
set_option maxHeartbeats 4000000 in
set_option maxRecDepth 100000 in
theorem k_X9_isDividing (κ : Kt) (l : Launch) (w : va_W) (s_0 g_r b_r g_l b_l g_w b_w R C : Nat) (f1 f2 f3 : Nat → Int64) (i1 i2 i3 i4 : Int32) (xt : Int32) (t : Nat) (hs : shp R C) (hC4 : C ≤ 4) (hxt : xt = nI t) (ht : t < R ∧ t < C) (hpv : ¬ f3 (t * 5 + t) = 0) (hgb : i4 = 0 ∨ i4 = 1) (o_x : Int32) (o_F2 : Nat → Int64) (o_F3 : Nat → Int64) (o_G1 : Int32) (hR : D_X9_isDividing R C f1 f2 f3 i1 i2 i3 i4 t = (o_x, o_F2, o_F3, o_G1)) : CM κ l yX9_isDividing cX9_isDividing 4 (some .boolean) 2 49 0 0 [.ref s_0, .int xt] (lA κ b_r (C * 5) f1 :: gO g_r C C b_r :: lA κ b_l (R * 5) f2 :: gO g_l R R b_l :: lA κ b_w (R * 5) f3 :: gO g_w R C b_w :: (s_0, .inr (10, [.ref g_w, .ref g_l, .ref g_r, .int i1, .int i2, .int i3, .int i4])) :: w) (fun o w' => o = some (.int o_x) ∧ (o_x = 1 ∧ o_F3 = f3 ∧ o_G1 = i4 ∨ o_x = 0 ∧ (o_G1 = 0 ∨ o_G1 = 1) ∧ (o_G1 = 0 → i4 = 0 ∧ ∀ k, k < R * 5 → ng (o_F3 k)) ∧ ∃ i j, t < i ∧ i < R ∧ t < j ∧ j < C ∧ ¬ f3 (i * 5 + j) - f3 (i * 5 + j) / f3 (t * 5 + t) * f3 (t * 5 + t) = 0 ∧ o_F3 = ar C t i 1 f3) ∧ w' = lA κ b_r (C * 5) f1 :: gO g_r C C b_r :: lA κ b_l (R * 5) o_F2 :: gO g_l R R b_l :: lA κ b_w (R * 5) o_F3 :: gO g_w R C b_w :: (s_0, .inr (10, [.ref g_w, .ref g_l, .ref g_r, .int i1, .int i2, .int i3, .int o_G1])) :: w) := by
  have hs0 := hs
  obtain ⟨hs1, hs2, hs3, hs4⟩ := hs0
  subst hxt
  refine CM_begin (plainFor_of_name pn_RX9) (Nat.le_of_ble_eq_true rfl) ?_
  intro p e s m args below meth c A Q hX hnm hA3 hQ hB ls hl
  have hx := hX.1.1
  have hb := hX.1.2.1
  have hl : lv_has ls 4 [(0, .ref s_0), (1, .int (nI t))] := hl
  obtain ⟨ht1, ht2⟩ := ht
  replace hR := (D_X9_isDividing_s).symm.trans hR
  refine lv_iload_n hx hb dX9_isDividing_0 rfl (lv_at hl 1 rfl) ?_
  refine lv_iconst (v := 1) hx hb dX9_isDividing_1 (by decide) ?_
  refine lv_iadd hx hb dX9_isDividing_2 ?_
  refine eqi (y := nI (t + 1)) (nI_add t 1) ?_
  refine lv_istore_n (lv' := [(2, .int (nI (t + 1))), (0, .ref s_0), (1, .int (nI t))]) hx hb dX9_isDividing_3 rfl hl (by decide) rfl (fun ls hl => ?_)
  have lp4 : ∀ (nn4 : Nat) (y2_4 : Nat) (H : Heap) (locs : List Loc), (y2_4 ≤ R) → (t + 1 ≤ y2_4) → R + 1 - y2_4 < nn4 → D_X9_isDividing_4 R C f1 f2 f3 i1 i2 i3 i4 t nn4 y2_4 = (o_x, o_F2, o_F3, o_G1) → Bd κ A s (lA κ b_r (C * 5) f1 :: gO g_r C C b_r :: lA κ b_l (R * 5) f2 :: gO g_l R R b_l :: lA κ b_w (R * 5) f3 :: gO g_w R C b_w :: (s_0, .inr (10, [.ref g_w, .ref g_l, .ref g_r, .int i1, .int i2, .int i3, .int i4])) :: w) H locs → ∀ ls : Array Slot, lv_has ls 4 [(2, .int (nI y2_4)), (0, .ref s_0), (1, .int (nI t))] → W p l e (Rm 2 49 0 0) s m args below meth c H locs (0) (0) Q (F0 m 4 ls []) := by
    intro nn4
    induction nn4 with
    | zero => intro y2_4 H locs hn2_4 hlo4 hμ; exact absurd hμ (Nat.not_lt_zero _)
    | succ nn4 ih4 =>
      intro y2_4 H locs hn2_4 hlo4 hμ4 hR hB ls hl
      replace hR := (D_X9_isDividing_4_s).symm.trans hR
      refine lv_iload_n hx hb dX9_isDividing_4 rfl (lv_at hl 0 rfl) ?_
      refine lv_aload_n hx hb dX9_isDividing_5 rfl (lv_at hl 1 rfl) ?_
      refine gf (k0 := 6) hX hB rfl rfl in9 0 (by decide) wm_6_221 rfl rfl dX9_isDividing_6 ?_
      refine gf (k0 := 5) hX hB rfl rfl in7 0 (by decide) wm_5_147 rfl rfl dX9_isDividing_9 ?_
      refine lv_icmp_ge (tgt := 92) hx hb dX9_isDividing_12 (by decide) (fun c39 => ?_) (fun c39 => ?_)
      · rw [nleP (a := R) (b := y2_4) (by omega) (by omega)] at c39
        replace hR := ifp c39 hR
        refine lv_iconst (v := 1) hx hb dX9_isDividing_92 (by decide) ?_
        rw [← hQ]
        exact end_i hX hB hA3 rfl rfl (by obtain ⟨rfl, rfl, rfl, rfl⟩ := pr4 hR; exact ⟨rfl, (Or.inl ⟨rfl, rfl, rfl⟩), rfl⟩) (Nat.le_of_ble_eq_true rfl) (Nat.le_of_ble_eq_true rfl) dX9_isDividing_93
      · rw [nleP (a := R) (b := y2_4) (by omega) (by omega)] at c39
        replace hR := ifn c39 hR
        refine lv_iload_n hx hb dX9_isDividing_15 rfl (lv_at hl 2 rfl) ?_
        refine lv_iconst (v := 1) hx hb dX9_isDividing_16 (by decide) ?_
        refine lv_iadd hx hb dX9_isDividing_17 ?_
        refine eqi (y := nI (t + 1)) (nI_add t 1) ?_
        refine lv_istore_n (lv' := [(3, .int (nI (t + 1))), (2, .int (nI y2_4)), (0, .ref s_0), (1, .int (nI t))]) hx hb dX9_isDividing_18 rfl hl (by decide) rfl (fun ls hl => ?_)
        have lp19 : ∀ (nn19 : Nat) (y3_19 : Nat) (H : Heap) (locs : List Loc), (y3_19 ≤ C) → (t + 1 ≤ y3_19) → C + 1 - y3_19 < nn19 → D_X9_isDividing_19 R C f1 f2 f3 i1 i2 i3 i4 t (D_X9_isDividing_4 R C f1 f2 f3 i1 i2 i3 i4 t nn4) y2_4 nn19 y3_19 = (o_x, o_F2, o_F3, o_G1) → Bd κ A s (lA κ b_r (C * 5) f1 :: gO g_r C C b_r :: lA κ b_l (R * 5) f2 :: gO g_l R R b_l :: lA κ b_w (R * 5) f3 :: gO g_w R C b_w :: (s_0, .inr (10, [.ref g_w, .ref g_l, .ref g_r, .int i1, .int i2, .int i3, .int i4])) :: w) H locs → ∀ ls : Array Slot, lv_has ls 4 [(3, .int (nI y3_19)), (2, .int (nI y2_4)), (0, .ref s_0), (1, .int (nI t))] → W p l e (Rm 2 49 0 0) s m args below meth c H locs (0) (0) Q (F0 m 19 ls []) := by
          intro nn19
          induction nn19 with
          | zero => intro y3_19 H locs hn3_19 hlo19 hμ; exact absurd hμ (Nat.not_lt_zero _)
          | succ nn19 ih19 =>
            intro y3_19 H locs hn3_19 hlo19 hμ19 hR hB ls hl
            replace hR := (D_X9_isDividing_19_s).symm.trans hR
            refine lv_iload_n hx hb dX9_isDividing_19 rfl (lv_at hl 0 rfl) ?_
            refine lv_aload_n hx hb dX9_isDividing_20 rfl (lv_at hl 2 rfl) ?_
            refine gf (k0 := 6) hX hB rfl rfl in9 0 (by decide) wm_6_221 rfl rfl dX9_isDividing_21 ?_
            refine gf (k0 := 5) hX hB rfl rfl in7 1 (by decide) wm_5_150 rfl rfl dX9_isDividing_24 ?_
            refine lv_icmp_ge (tgt := 86) hx hb dX9_isDividing_27 (by decide) (fun c52 => ?_) (fun c52 => ?_)
            · rw [nleP (a := C) (b := y3_19) (by omega) (by omega)] at c52
              replace hR := ifp c52 hR
              refine lv_iinc (v := nI (y2_4 + 1)) (lv' := [(2, .int (nI (y2_4 + 1))), (3, .int (nI y3_19)), (0, .ref s_0), (1, .int (nI t))]) hx hb dX9_isDividing_86 hl (k := 1) rfl (nI_add y2_4 1) (by decide) rfl (fun ls hl => ?_)
              refine lv_goto (tgt := 4) hx hb dX9_isDividing_89 (by decide) ?_
              exact ih4 (y2_4 + 1) _ _ (by omega) (by omega) (by omega) hR hB _ (lv_sub hl [0, 2, 3] rfl)
            · rw [nleP (a := C) (b := y3_19) (by omega) (by omega)] at c52
              replace hR := ifn c52 hR
              refine lv_aload_n hx hb dX9_isDividing_30 rfl (lv_at hl 2 rfl) ?_
              refine gf (k0 := 6) hX hB rfl rfl in9 0 (by decide) wm_6_221 rfl rfl dX9_isDividing_31 ?_
              refine lv_iload_n hx hb dX9_isDividing_34 rfl (lv_at hl 1 rfl) ?_
              refine lv_iload_n hx hb dX9_isDividing_35 rfl (lv_at hl 0 rfl) ?_
              refine call_V (n := 2) (k0 := 5) (As := [.int (nI y2_4), .int (nI y3_19)]) (rest := []) hX hB (k_X7_at κ l (lA κ b_r (C * 5) f1 :: gO g_r C C b_r :: lA κ b_l (R * 5) f2 :: gO g_l R R b_l :: lA κ b_w (R * 5) f3 :: gO g_w R C b_w :: (s_0, .inr (10, [.ref g_w, .ref g_l, .ref g_r, .int i1, .int i2, .int i3, .int i4])) :: w) 5 4 g_w b_w R C f3 (nI y2_4) y2_4 (nI y3_19) y3_19 rfl rfl hs rfl rfl (by omega)) ⟨rfl, yk_X7_at⟩ wm_6_188 wm_5_238 wm_5_239 wm_1_7 wm_6_0 ⟨Nat.le_of_ble_eq_true rfl, Nat.le_of_ble_eq_true rfl⟩ ⟨Nat.le_of_ble_eq_true rfl, Nat.le_of_ble_eq_true rfl⟩ rfl rfl rfl rfl hl.1 rfl (Nat.le_of_ble_eq_true rfl) dX9_isDividing_36 (fun o w' H locs hp hB => ?_)
              obtain ⟨rfl, hw9⟩ := hp
              replace hB : Bd κ A s (lA κ b_r (C * 5) f1 :: gO g_r C C b_r :: lA κ b_l (R * 5) f2 :: gO g_l R R b_l :: lA κ b_w (R * 5) f3 :: gO g_w R C b_w :: (s_0, .inr (10, [.ref g_w, .ref g_l, .ref g_r, .int i1, .int i2, .int i3, .int i4])) :: w) H locs := by rw [hw9] at hB; exact hB
              refine W.eq (g2 := F0 m 39 ls [.long (f3 (y2_4 * 5 + y3_19))]) rfl ?_
              refine lv_aload_n hx hb dX9_isDividing_39 rfl (lv_at hl 2 rfl) ?_
              refine gf (k0 := 6) hX hB rfl rfl in9 0 (by decide) wm_6_221 rfl rfl dX9_isDividing_40 ?_
              refine lv_iload_n hx hb dX9_isDividing_43 rfl (lv_at hl 3 rfl) ?_
              refine lv_iload_n hx hb dX9_isDividing_44 rfl (lv_at hl 3 rfl) ?_
              refine call_V (n := 2) (k0 := 5) (As := [.int (nI t), .int (nI t)]) (rest := [.long (f3 (y2_4 * 5 + y3_19))]) hX hB (k_X7_at κ l (lA κ b_r (C * 5) f1 :: gO g_r C C b_r :: lA κ b_l (R * 5) f2 :: gO g_l R R b_l :: lA κ b_w (R * 5) f3 :: gO g_w R C b_w :: (s_0, .inr (10, [.ref g_w, .ref g_l, .ref g_r, .int i1, .int i2, .int i3, .int i4])) :: w) 5 4 g_w b_w R C f3 (nI t) t (nI t) t rfl rfl hs rfl rfl (by omega)) ⟨rfl, yk_X7_at⟩ wm_6_188 wm_5_238 wm_5_239 wm_1_7 wm_6_0 ⟨Nat.le_of_ble_eq_true rfl, Nat.le_of_ble_eq_true rfl⟩ ⟨Nat.le_of_ble_eq_true rfl, Nat.le_of_ble_eq_true rfl⟩ rfl rfl rfl rfl hl.1 rfl (Nat.le_of_ble_eq_true rfl) dX9_isDividing_45 (fun o w' H locs hp hB => ?_)
              obtain ⟨rfl, hw9⟩ := hp
              replace hB : Bd κ A s (lA κ b_r (C * 5) f1 :: gO g_r C C b_r :: lA κ b_l (R * 5) f2 :: gO g_l R R b_l :: lA κ b_w (R * 5) f3 :: gO g_w R C b_w :: (s_0, .inr (10, [.ref g_w, .ref g_l, .ref g_r, .int i1, .int i2, .int i3, .int i4])) :: w) H locs := by rw [hw9] at hB; exact hB
              refine W.eq (g2 := F0 m 48 ls [.long (f3 (t * 5 + t)), .long (f3 (y2_4 * 5 + y3_19))]) rfl ?_
              refine lv_lrem hx hb dX9_isDividing_48 hpv ?_
              refine lv_lconst (v := 0) hx hb dX9_isDividing_49 (by decide) ?_
              refine W.lcmp hx hb dX9_isDividing_50 ?_
              refine lv_if_eq (tgt := 80) hx hb dX9_isDividing_51 (by decide) (fun c53 => ?_) (fun c53 => ?_)
              · replace hR := ifp c53 hR
                refine lv_iinc (v := nI (y3_19 + 1)) (lv' := [(3, .int (nI (y3_19 + 1))), (2, .int (nI y2_4)), (0, .ref s_0), (1, .int (nI t))]) hx hb dX9_isDividing_80 hl (k := 0) rfl (nI_add y3_19 1) (by decide) rfl (fun ls hl => ?_)
                refine lv_goto (tgt := 19) hx hb dX9_isDividing_83 (by decide) ?_
                exact ih19 (y3_19 + 1) _ _ (by omega) (by omega) (by omega) hR hB _ hl
              · replace hR := ifn c53 hR
                refine lv_aload_n hx hb dX9_isDividing_54 rfl (lv_at hl 2 rfl) ?_
                refine gf (k0 := 6) hX hB rfl rfl in9 0 (by decide) wm_6_221 rfl rfl dX9_isDividing_55 ?_
                refine lv_iload_n hx hb dX9_isDividing_58 rfl (lv_at hl 3 rfl) ?_
                refine lv_iload_n hx hb dX9_isDividing_59 rfl (lv_at hl 1 rfl) ?_
                refine lv_lconst (v := 1) hx hb dX9_isDividing_60 (by decide) ?_
                refine call_V (n := 3) (k0 := 5) (As := [.int (nI t), .int (nI y2_4), .long 1]) (rest := []) hX hB (k_X7_addRow κ l (lA κ b_r (C * 5) f1 :: gO g_r C C b_r :: lA κ b_l (R * 5) f2 :: gO g_l R R b_l :: lA κ b_w (R * 5) f3 :: gO g_w R C b_w :: (s_0, .inr (10, [.ref g_w, .ref g_l, .ref g_r, .int i1, .int i2, .int i3, .int i4])) :: w) 5 4 g_w b_w R C f3 (nI t) t (nI y2_4) y2_4 1 rfl rfl hs rfl rfl (by omega) (by omega) (by omega)) ⟨rfl, yk_X7_addRow⟩ wm_6_206 wm_6_80 wm_6_81 wm_1_7 wm_6_82 ⟨Nat.le_of_ble_eq_true rfl, Nat.le_of_ble_eq_true rfl⟩ ⟨Nat.le_of_ble_eq_true rfl, Nat.le_of_ble_eq_true rfl⟩ rfl rfl rfl rfl hl.1 rfl (Nat.le_of_ble_eq_true rfl) dX9_isDividing_61 (fun o w' H locs hp hB => ?_)
                obtain ⟨rfl, hw9⟩ := hp
                replace hB : Bd κ A s (lA κ b_r (C * 5) f1 :: gO g_r C C b_r :: lA κ b_l (R * 5) f2 :: gO g_l R R b_l :: lA κ b_w (R * 5) (ar C t y2_4 1 f3) :: gO g_w R C b_w :: (s_0, .inr (10, [.ref g_w, .ref g_l, .ref g_r, .int i1, .int i2, .int i3, .int i4])) :: w) H locs := by rw [hw9] at hB; exact hB
                refine W.eq (g2 := F0 m 64 ls []) rfl ?_
                refine lv_aload_n hx hb dX9_isDividing_64 rfl (lv_at hl 2 rfl) ?_
                refine gf (k0 := 6) hX hB rfl rfl in9 1 (by decide) wm_6_223 rfl rfl dX9_isDividing_65 ?_
                refine lv_iload_n hx hb dX9_isDividing_68 rfl (lv_at hl 3 rfl) ?_
                refine lv_iload_n hx hb dX9_isDividing_69 rfl (lv_at hl 1 rfl) ?_
                refine lv_lconst (v := 1) hx hb dX9_isDividing_70 (by decide) ?_
                refine call_V (n := 3) (k0 := 3) (As := [.int (nI t), .int (nI y2_4), .long 1]) (rest := []) hX hB (k_X7_addRow κ l (lA κ b_r (C * 5) f1 :: gO g_r C C b_r :: lA κ b_l (R * 5) f2 :: gO g_l R R b_l :: lA κ b_w (R * 5) (ar C t y2_4 1 f3) :: gO g_w R C b_w :: (s_0, .inr (10, [.ref g_w, .ref g_l, .ref g_r, .int i1, .int i2, .int i3, .int i4])) :: w) 3 2 g_l b_l R R f2 (nI t) t (nI y2_4) y2_4 1 rfl rfl ⟨by omega, by omega, by omega, by omega⟩ rfl rfl (by omega) (by omega) (by omega)) ⟨rfl, yk_X7_addRow⟩ wm_6_206 wm_6_80 wm_6_81 wm_1_7 wm_6_82 ⟨Nat.le_of_ble_eq_true rfl, Nat.le_of_ble_eq_true rfl⟩ ⟨Nat.le_of_ble_eq_true rfl, Nat.le_of_ble_eq_true rfl⟩ rfl rfl rfl rfl hl.1 rfl (Nat.le_of_ble_eq_true rfl) dX9_isDividing_71 (fun o w' H locs hp hB => ?_)
                obtain ⟨rfl, hw9⟩ := hp
                replace hB : Bd κ A s (lA κ b_r (C * 5) f1 :: gO g_r C C b_r :: lA κ b_l (R * 5) (ar R t y2_4 1 f2) :: gO g_l R R b_l :: lA κ b_w (R * 5) (ar C t y2_4 1 f3) :: gO g_w R C b_w :: (s_0, .inr (10, [.ref g_w, .ref g_l, .ref g_r, .int i1, .int i2, .int i3, .int i4])) :: w) H locs := by rw [hw9] at hB; exact hB
                refine W.eq (g2 := F0 m 74 ls []) rfl ?_
                refine lv_aload_n hx hb dX9_isDividing_74 rfl (lv_at hl 2 rfl) ?_
                obtain ⟨G54, hd55⟩ := ex1 (D_X9_look R C f1 (ar R t y2_4 1 f2) (ar C t y2_4 1 f3) i1 i2 i3 i4)
                replace hR := bnd1_use hd55 hR
                refine call_V (n := 0) (k0 := 6) (As := []) (rest := []) hX hB (k_X9_look κ l (w) s_0 g_r b_r g_l b_l g_w b_w R C f1 (ar R t y2_4 1 f2) (ar C t y2_4 1 f3) i1 i2 i3 i4 hs (by omega) hgb G54 hd55) ⟨rfl, yk_X9_look⟩ wm_6_207 wm_6_209 wp_45 wm_1_16 wm_6_210 ⟨Nat.le_of_ble_eq_true rfl, Nat.le_of_ble_eq_true rfl⟩ ⟨Nat.le_of_ble_eq_true rfl, Nat.le_of_ble_eq_true rfl⟩ rfl rfl rfl rfl hl.1 rfl (Nat.le_of_ble_eq_true rfl) dX9_isDividing_75 (fun o w' H locs hp hB => ?_)
                obtain ⟨rfl, hf56, hf57, hw9⟩ := hp
                replace hB : Bd κ A s (lA κ b_r (C * 5) f1 :: gO g_r C C b_r :: lA κ b_l (R * 5) (ar R t y2_4 1 f2) :: gO g_l R R b_l :: lA κ b_w (R * 5) (ar C t y2_4 1 f3) :: gO g_w R C b_w :: (s_0, .inr (10, [.ref g_w, .ref g_l, .ref g_r, .int i1, .int i2, .int i3, .int G54])) :: w) H locs := by rw [hw9] at hB; exact hB
                refine W.eq (g2 := F0 m 78 ls []) rfl ?_
                refine lv_iconst (v := 0) hx hb dX9_isDividing_78 (by decide) ?_
                rw [← hQ]
                exact end_i hX hB hA3 rfl rfl (by obtain ⟨rfl, rfl, rfl, rfl⟩ := pr4 hR; exact ⟨rfl, (Or.inr ⟨rfl, hf56, hf57, y2_4, y3_19, (by omega), (by omega), (by omega), (by omega), (lgnz (by assumption)), rfl⟩), rfl⟩) (Nat.le_of_ble_eq_true rfl) (Nat.le_of_ble_eq_true rfl) dX9_isDividing_79
        exact lp19 _ (t + 1) _ _ (by omega) (by omega) (Nat.lt_succ_self _) hR hB _ hl
  exact lp4 _ (t + 1) _ _ (by omega) (by omega) (Nat.lt_succ_self _) hR hB _ hl
end
section
-- 38.rstrb
/-- the place of the least so far in the block from t, t on -/
def MIf (R C t : Nat) (F : Nat → Int64) (i j row col : Nat) : Prop := (t ≤ row ∧ row < R ∧ t ≤ col ∧ col < C) ∧ (∀ a b, t ≤ a → a < R → t ≤ b → b < C → (a < i ∨ a = i ∧ b < j) → ¬ F (a * 5 + b) = 0 → ¬ F (row * 5 + col) = 0 ∧ na (F (row * 5 + col)) ≤ na (F (a * 5 + b))) ∧ (row = t ∧ col = t ∨ ¬ F (row * 5 + col) = 0 ∧ (F (t * 5 + t) = 0 ∨ na (F (row * 5 + col)) < na (F (t * 5 + t))))
section MIS
variable {R C t i j row col N : Nat} {F F1 F2 F3 f : Nat → Int64} {G G1 : Int32}
theorem MI_0 (hR : t < R) (hC : t < C) : MIf R C t F t t t t := ⟨⟨Nat.le_refl _, hR, Nat.le_refl _, hC⟩, fun a b h1 _ h3 _ h5 => by omega, Or.inl ⟨rfl, rfl⟩⟩
theorem MI_k (h : MIf R C t F i j row col) (d : F (i * 5 + j) = 0 ∨ ¬ F (row * 5 + col) = 0 ∧ na (F (row * 5 + col)) ≤ na (F (i * 5 + j))) : MIf R C t F i (j + 1) row col := by
  refine ⟨h.1, fun a b h1 h2 h3 h4 h5 hn => ?_, h.2.2⟩
  by_cases e : a = i ∧ b = j
  · obtain ⟨rfl, rfl⟩ := e
    exact d.resolve_left hn
  · exact h.2.1 a b h1 h2 h3 h4 (by omega) hn
theorem MI_n (h : MIf R C t F i j row col) (ht : t ≤ i ∧ i < R ∧ t ≤ j ∧ j < C) (d : ¬ F (i * 5 + j) = 0) (d2 : F (row * 5 + col) = 0 ∨ na (F (i * 5 + j)) < na (F (row * 5 + col))) : MIf R C t F i (j + 1) i j := by
  refine ⟨ht, fun a b h1 h2 h3 h4 h5 hn => ⟨d, ?_⟩, Or.inr ⟨d, ?_⟩⟩
  · by_cases e : a = i ∧ b = j
    · obtain ⟨rfl, rfl⟩ := e
      exact Nat.le_refl _
    · have h6 := h.2.1 a b h1 h2 h3 h4 (by omega) hn
      exact Nat.le_trans (Nat.le_of_lt (d2.resolve_left h6.1)) h6.2
  · rcases h.2.2 with ⟨rfl, rfl⟩ | ⟨h7, h8⟩
    · exact d2
    · rcases h8 with h8 | h8
      · exact Or.inl h8
      · exact Or.inr (Nat.lt_trans (d2.resolve_left h7) h8)
theorem MI_r (h : MIf R C t F i j row col) (hj : j = C) : MIf R C t F (i + 1) t row col :=
  ⟨h.1, fun a b h1 h2 h3 h4 h5 hn => h.2.1 a b h1 h2 h3 h4 (by omega) hn, h.2.2⟩
def PHf (R C t N : Nat) (F : Nat → Int64) : Prop := (∃ i j, t ≤ i ∧ i < R ∧ t ≤ j ∧ j < C ∧ ¬ F (i * 5 + j) = 0 ∧ 2 * na (F (i * 5 + j)) ≤ N) ∨ (0 < (F (t * 5 + t)).toInt ∧ 2 * na (F (t * 5 + t)) ≤ N + 1 ∧ ∃ j, t < j ∧ j < C ∧ ¬ F (t * 5 + j) - F (t * 5 + j) / F (t * 5 + t) * F (t * 5 + t) = 0) ∨ ∀ i j, t ≤ i → i < R → t ≤ j → j < C → F (i * 5 + j) = 0
theorem PH_ex (R C t : Nat) (F : Nat → Int64) (hC : C ≤ 5) (hng : ∀ k, k < R * 5 → ng (F k)) : ∃ N, N ≤ 2000000000 ∧ PHf R C t N F := by
  by_cases h : ∃ i j, t ≤ i ∧ i < R ∧ t ≤ j ∧ j < C ∧ ¬ F (i * 5 + j) = 0
  · obtain ⟨i, j, h1, h2, h3, h4, h5⟩ := h
    have h6 := ng_int (hng (i * 5 + j) (by omega))
    exact ⟨2 * na (F (i * 5 + j)), by unfold na; omega, Or.inl ⟨i, j, h1, h2, h3, h4, h5, Nat.le_refl _⟩⟩
  · exact ⟨0, Nat.zero_le _, Or.inr (Or.inr fun i j h1 h2 h3 h4 => Classical.byContradiction fun h5 => h ⟨i, j, h1, h2, h3, h4, h5⟩)⟩
def HSf (R C t : Nat) (f : Nat → Int64) (N : Nat) (F : Nat → Int64) (G : Int32) : Prop := (G = 0 ∨ G = 1) ∧ (G = 0 → ∀ k, k < R * 5 → ng (F k)) ∧ (∀ k, k < t → F (k * 5 + k) = f (k * 5 + k)) ∧ (G = 0 → PHf R C t N F)
def QHf (C t N : Nat) (F : Nat → Int64) : Prop := 0 < (F (t * 5 + t)).toInt ∧ (2 * na (F (t * 5 + t)) ≤ N ∨ 2 * na (F (t * 5 + t)) ≤ N + 1 ∧ ∃ j, t < j ∧ j < C ∧ ¬ F (t * 5 + j) - F (t * 5 + j) / F (t * 5 + t) * F (t * 5 + t) = 0)
theorem QH_of (hP : PHf R C t N F) (hM : MIf R C t F R t row col) (hn : ¬ F (row * 5 + col) = 0) (hB : BRf R t row col F F1) : QHf C t N F1 := by
  obtain ⟨b1, b2, b3, b4, b5⟩ := hB
  refine ⟨b2, ?_⟩
  rw [b3]
  rcases hP with ⟨i, j, h1, h2, h3, h4, h5, h6⟩ | ⟨h1, h2, j, h3, h4, h5⟩ | h
  · have h7 := (hM.2.1 i j h1 h2 h3 h4 (Or.inl h2) h5).2
    exact Or.inl (by omega)
  · rcases hM.2.2 with ⟨rfl, rfl⟩ | ⟨h7, h8⟩
    · have e := b5 rfl rfl h1
      subst e
      exact Or.inr ⟨h2, j, h3, h4, h5⟩
    · have h9 : ¬ F (t * 5 + t) = 0 := fun e => by rw [e] at h1; exact absurd h1 (by decide)
      have := h8.resolve_left h9
      exact Or.inl (by omega)
  · exact absurd (h row col hM.1.1 hM.1.2.1 hM.1.2.2.1 hM.1.2.2.2) hn
theorem QH_1 (h : QHf C t N F) : 1 ≤ N := by
  obtain ⟨h1, h2⟩ := h
  have h3 : 1 ≤ na (F (t * 5 + t)) := by unfold na; omega
  rcases h2 with h2 | h2 <;> omega
/-- not alone: a smaller one is there -/
theorem HS_1 (hS : HSf R C t f N F G) (hB : BRf R t row col F F1) (hQ : QHf C t N F1) (hT : TKf R C t F1 F2 G1) (hg : G1 = 0) (h : ∃ i j, t ≤ i ∧ i < R ∧ t ≤ j ∧ j < C ∧ (i = t ∧ t < j ∨ t < i ∧ j = t) ∧ ¬ F2 (i * 5 + j) = 0) : HSf R C t f (N - 1) F2 G1 := by
  obtain ⟨t1, t2, t3, t4⟩ := hT
  obtain ⟨u1, u2, u3⟩ := t4 hg
  refine ⟨t1, fun _ => u1, fun k hk => by rw [t3 k hk, hB.2.2.2.1 k hk, hS.2.2.1 k hk], fun _ => ?_⟩
  obtain ⟨i, j, h1, h2, h3, h4, h5, h6⟩ := h
  refine Or.inl ⟨i, j, h1, h2, h3, h4, h6, ?_⟩
  have hlt : 0 ≤ (F2 (i * 5 + j)).toInt ∧ (F2 (i * 5 + j)).toInt < (F1 (t * 5 + t)).toInt := by
    rcases h5 with ⟨rfl, h5⟩ | ⟨h5, rfl⟩
    · rw [u3 j h5 h4]
      exact rmf_int hQ.1
    · exact u2 i h5 h2
  obtain ⟨q1, q2⟩ := hQ
  unfold na at q2 ⊢
  rcases q2 with q2 | ⟨q2, _⟩ <;> omega
theorem HS_2 {di dj : Nat} {G0 : Int32} (hC5 : C ≤ 5) (htR : t < R) (hS : HSf R C t f N F G0) (hB : BRf R t row col F F1) (hQ : QHf C t N F1) (hT : TKf R C t F1 F2 G) (hg : G = 0) (hal1 : ∀ i, t < i → i < R → F2 (i * 5 + t) = 0) (hal2 : ∀ j, t < j → j < C → F2 (t * 5 + j) = 0)
    (hb : G1 = 0 ∨ G1 = 1) (hn : G1 = 0 → G = 0 ∧ ∀ k, k < R * 5 → ng (F3 k)) (d1 : t < di) (d2 : di < R) (d3 : t < dj) (d4 : dj < C) (d5 : ¬ F2 (di * 5 + dj) - F2 (di * 5 + dj) / F2 (t * 5 + t) * F2 (t * 5 + t) = 0) (d6 : F3 = ar C t di 1 F2) : HSf R C t f (N - 1) F3 G1 := by
  obtain ⟨t1, t2, t3, t4⟩ := hT
  obtain ⟨u1, u2, u3⟩ := t4 hg
  have hN := QH_1 hQ
  have e1 : F3 (t * 5 + t) = F2 (t * 5 + t) := by
    rw [d6]
    unfold ar
    rw [if_pos (by omega), show (t * 5 + t) % 5 = t by omega, hal1 di d1 d2]
    simp
  have e2 : F3 (t * 5 + dj) = F2 (di * 5 + dj) := by
    rw [d6]
    unfold ar
    rw [if_pos (by omega), show (t * 5 + dj) % 5 = dj by omega, hal2 dj d3 d4]
    simp
  refine ⟨hb, fun z => (hn z).2, fun k hk => ?_, fun _ => Or.inr (Or.inl ⟨?_, ?_, dj, d3, d4, ?_⟩)⟩
  · rw [← hS.2.2.1 k hk, ← hB.2.2.2.1 k hk, ← t3 k hk, d6]
    unfold ar
    rw [if_neg (by omega)]
  · rw [e1, t2]
    exact hQ.1
  · rw [e1, t2]
    rcases hQ.2 with q | ⟨_, j, q1, q2, q3⟩
    · omega
    · have q4 := u3 j q1 q2
      rw [hal2 j q1 q2] at q4
      exact absurd q4.symm (rmf_ne hQ.1 q3)
  · rw [e1, e2]
    exact d5
/-- what isCleared says -/
def CSf (R t : Nat) (f F : Nat → Int64) (G x : Int32) : Prop := (∀ k, k < t → F (k * 5 + k) = f (k * 5 + k)) ∧ (x = 1 → ¬ F (t * 5 + t) = 0 ∧ G = 0 ∧ ∀ k, k < R * 5 → ng (F k)) ∧ (G = 0 ∨ G = 1)
theorem CS_0 (hS : HSf R C t f N F G) : CSf R t f F G 0 := ⟨hS.2.2.1, fun z => absurd z (by decide), hS.1⟩
theorem CS_g (hS : HSf R C t f N F G) (hB : BRf R t row col F F1) (hT : TKf R C t F1 F2 G1) : CSf R t f F2 G1 0 := ⟨fun k hk => by rw [hT.2.2.1 k hk, hB.2.2.2.1 k hk, hS.2.2.1 k hk], fun z => absurd z (by decide), hT.1⟩
theorem CS_1 {G0 : Int32} (hS : HSf R C t f N F G0) (hB : BRf R t row col F F1) (hT : TKf R C t F1 F2 G) (hg : G = 0) (e : F3 = F2) (eg : G1 = G) : CSf R t f F3 G1 1 := by
  subst e; subst eg
  refine ⟨fun k hk => by rw [hT.2.2.1 k hk, hB.2.2.2.1 k hk, hS.2.2.1 k hk], fun _ => ⟨?_, hg, (hT.2.2.2 hg).1⟩, hT.1⟩
  rw [hT.2.1]
  intro e
  have := hB.2.1
  rw [e] at this
  exact absurd this (by decide)
/-- the constructor's loop -/
def RIf (R C t : Nat) (M i3 : Int32) (F : Nat → Int64) (G : Int32) : Prop := (¬ M = 0 → i3 = nI t ∧ G = 0 ∧ ∀ k, k < R * 5 → ng (F k)) ∧ ∃ k, i3 = nI k ∧ k ≤ R ∧ k ≤ C ∧ ∀ j, j < k → ¬ F (j * 5 + j) = 0
theorem RI_0 (h : ∀ k, k < R * 5 → ng (F k)) (hg : G = 0) {M : Int32} : RIf R C 0 M 0 F G := ⟨fun _ => ⟨rfl, hg, h⟩, 0, rfl, Nat.zero_le _, Nat.zero_le _, fun j hj => absurd hj (Nat.not_lt_zero j)⟩
theorem RI_1 {M i3 : Int32} (h : RIf R C t M i3 F G) (hR4 : R ≤ 4) (hM : ¬ M = 0) (hR : t < R) (hC : t < C) (hc : CSf R t F F1 G1 1) : RIf R C (t + 1) 1 (i3 + 1) F1 G1 := by
  obtain ⟨⟨a1, a2, a3⟩, k, b1, b2, b3, b4⟩ := And.intro (h.1 hM) h.2
  obtain ⟨c1, c2, c3⟩ := hc.2.1 rfl
  have ek : k = t := (nI_eq (by omega) (by omega)).mp (b1.symm.trans a1)
  subst ek
  refine ⟨fun _ => ⟨by rw [a1]; exact nI_1 k, c2, c3⟩, k + 1, by rw [a1]; exact nI_1 k, hR, hC, fun j hj => ?_⟩
  by_cases e : j = k
  · rw [e]; exact c1
  · rw [hc.1 j (by omega)]; exact b4 j (by omega)
theorem RI_2 {M i3 : Int32} (h : RIf R C t M i3 F G) (hR4 : R ≤ 4) (hM : ¬ M = 0) (hR : t < R) (hC : t < C) (hc : CSf R t F F1 G1 0) : RIf R C (t + 1) 0 (i3 + 0) F1 G1 := by
  obtain ⟨⟨a1, a2, a3⟩, k, b1, b2, b3, b4⟩ := And.intro (h.1 hM) h.2
  have ek : k = t := (nI_eq (by omega) (by omega)).mp (b1.symm.trans a1)
  subst ek
  refine ⟨fun z => absurd rfl z, k, by rw [a1]; exact Int32.add_zero _, by omega, by omega, fun j hj => ?_⟩
  rw [hc.1 j hj]; exact b4 j hj
end MIS

noncomputable def D_X9_isCleared_29 (R : Nat) (C : Nat) (i3 : Int32) (f1_0 : Nat → Int64) (f2_0 : Nat → Int64) (f3_0 : Nat → Int64) (i1_0 : Int32) (i2_0 : Int32) (i4_0 : Int32) (lb14 : Nat → Nat → Nat → Int32 × (Nat → Int64) × (Nat → Int64) × (Nat → Int64) × Int32 × Int32 × Int32) (y4_14 : Nat) (nn : Nat) : Nat → Nat → Nat → Int32 × (Nat → Int64) × (Nat → Int64) × (Nat → Int64) × Int32 × Int32 × Int32 := @Nat.rec (fun _ => Nat → Nat → Nat → Int32 × (Nat → Int64) × (Nat → Int64) × (Nat → Int64) × Int32 × Int32 × Int32) (fun _ _ _ => default) (fun _ lb29 (y5_29 : Nat) (y3_29 : Nat) (y2_29 : Nat) => (if C ≤ y5_29 then (lb14 (y4_14 + 1) y3_29 y2_29) else bnd1 (D_X9_isLess R C f1_0 f2_0 f3_0 i1_0 i2_0 i3 i4_0 (f3_0 (y4_14 * 5 + y5_29)) (f3_0 (y2_29 * 5 + y3_29))) (fun (x827 : Int32) => (if x827 = 0 then (lb29 (y5_29 + 1) y3_29 y2_29) else (lb29 (y5_29 + 1) y5_29 y4_14))))) nn
theorem D_X9_isCleared_29_s {R : Nat} {C : Nat} {i3 : Int32} {f1_0 : Nat → Int64} {f2_0 : Nat → Int64} {f3_0 : Nat → Int64} {i1_0 : Int32} {i2_0 : Int32} {i4_0 : Int32} {lb14 : Nat → Nat → Nat → Int32 × (Nat → Int64) × (Nat → Int64) × (Nat → Int64) × Int32 × Int32 × Int32} {y4_14 : Nat} {nn : Nat} {y5_29 : Nat} {y3_29 : Nat} {y2_29 : Nat} : D_X9_isCleared_29 R C i3 f1_0 f2_0 f3_0 i1_0 i2_0 i4_0 lb14 y4_14 (nn + 1) y5_29 y3_29 y2_29 = (if C ≤ y5_29 then (lb14 (y4_14 + 1) y3_29 y2_29) else bnd1 (D_X9_isLess R C f1_0 f2_0 f3_0 i1_0 i2_0 i3 i4_0 (f3_0 (y4_14 * 5 + y5_29)) (f3_0 (y2_29 * 5 + y3_29))) (fun (x827 : Int32) => (if x827 = 0 then ((D_X9_isCleared_29 R C i3 f1_0 f2_0 f3_0 i1_0 i2_0 i4_0 lb14 y4_14 nn) (y5_29 + 1) y3_29 y2_29) else ((D_X9_isCleared_29 R C i3 f1_0 f2_0 f3_0 i1_0 i2_0 i4_0 lb14 y4_14 nn) (y5_29 + 1) y5_29 y4_14)))) := rfl
noncomputable def D_X9_isCleared_14 (R : Nat) (C : Nat) (i3 : Int32) (t : Nat) (lb0 : (Nat → Int64) → (Nat → Int64) → (Nat → Int64) → Int32 → Int32 → Int32 → Int32 × (Nat → Int64) × (Nat → Int64) × (Nat → Int64) × Int32 × Int32 × Int32) (f1_0 : Nat → Int64) (f2_0 : Nat → Int64) (f3_0 : Nat → Int64) (i1_0 : Int32) (i2_0 : Int32) (i4_0 : Int32) (nn : Nat) : Nat → Nat → Nat → Int32 × (Nat → Int64) × (Nat → Int64) × (Nat → Int64) × Int32 × Int32 × Int32 := @Nat.rec (fun _ => Nat → Nat → Nat → Int32 × (Nat → Int64) × (Nat → Int64) × (Nat → Int64) × Int32 × Int32 × Int32) (fun _ _ _ => default) (fun _ lb14 (y4_14 : Nat) (y3_14 : Nat) (y2_14 : Nat) => (if R ≤ y4_14 then (if (lg_cmp (f3_0 (y2_14 * 5 + y3_14)) 0) = 0 then (0, f1_0, f2_0, f3_0, i1_0, i2_0, i4_0) else bnd5 (D_X9_bring R C f1_0 f2_0 f3_0 i1_0 i2_0 i3 i4_0 t y2_14 y3_14) (fun (F787 : Nat → Int64) (F788 : Nat → Int64) (F789 : Nat → Int64) (S790 : Int32) (S791 : Int32) => bnd4 (D_X9_takeOff R C F787 F788 F789 S790 S791 i3 i4_0 t) (fun (F794 : Nat → Int64) (F795 : Nat → Int64) (F796 : Nat → Int64) (G797 : Int32) => (if G797 = 0 then bnd1 (D_X9_isAlone R C F794 F795 F796 S790 S791 i3 G797 t) (fun (x801 : Int32) => (if x801 = 0 then (lb0 F794 F795 F796 S790 S791 G797) else bnd4 (D_X9_isDividing R C F794 F795 F796 S790 S791 i3 G797 t) (fun (x806 : Int32) (F807 : Nat → Int64) (F808 : Nat → Int64) (G809 : Int32) => (if x806 = 1 then (1, F794, F807, F808, S790, S791, G809) else (lb0 F794 F807 F808 S790 S791 G809))))) else (0, F794, F795, F796, S790, S791, G797))))) else (D_X9_isCleared_29 R C i3 f1_0 f2_0 f3_0 i1_0 i2_0 i4_0 lb14 y4_14 (C + 1 - t + 1) t y3_14 y2_14))) nn
theorem D_X9_isCleared_14_s {R : Nat} {C : Nat} {i3 : Int32} {t : Nat} {lb0 : (Nat → Int64) → (Nat → Int64) → (Nat → Int64) → Int32 → Int32 → Int32 → Int32 × (Nat → Int64) × (Nat → Int64) × (Nat → Int64) × Int32 × Int32 × Int32} {f1_0 : Nat → Int64} {f2_0 : Nat → Int64} {f3_0 : Nat → Int64} {i1_0 : Int32} {i2_0 : Int32} {i4_0 : Int32} {nn : Nat} {y4_14 : Nat} {y3_14 : Nat} {y2_14 : Nat} : D_X9_isCleared_14 R C i3 t lb0 f1_0 f2_0 f3_0 i1_0 i2_0 i4_0 (nn + 1) y4_14 y3_14 y2_14 = (if R ≤ y4_14 then (if (lg_cmp (f3_0 (y2_14 * 5 + y3_14)) 0) = 0 then (0, f1_0, f2_0, f3_0, i1_0, i2_0, i4_0) else bnd5 (D_X9_bring R C f1_0 f2_0 f3_0 i1_0 i2_0 i3 i4_0 t y2_14 y3_14) (fun (F787 : Nat → Int64) (F788 : Nat → Int64) (F789 : Nat → Int64) (S790 : Int32) (S791 : Int32) => bnd4 (D_X9_takeOff R C F787 F788 F789 S790 S791 i3 i4_0 t) (fun (F794 : Nat → Int64) (F795 : Nat → Int64) (F796 : Nat → Int64) (G797 : Int32) => (if G797 = 0 then bnd1 (D_X9_isAlone R C F794 F795 F796 S790 S791 i3 G797 t) (fun (x801 : Int32) => (if x801 = 0 then (lb0 F794 F795 F796 S790 S791 G797) else bnd4 (D_X9_isDividing R C F794 F795 F796 S790 S791 i3 G797 t) (fun (x806 : Int32) (F807 : Nat → Int64) (F808 : Nat → Int64) (G809 : Int32) => (if x806 = 1 then (1, F794, F807, F808, S790, S791, G809) else (lb0 F794 F807 F808 S790 S791 G809))))) else (0, F794, F795, F796, S790, S791, G797))))) else (D_X9_isCleared_29 R C i3 f1_0 f2_0 f3_0 i1_0 i2_0 i4_0 (D_X9_isCleared_14 R C i3 t lb0 f1_0 f2_0 f3_0 i1_0 i2_0 i4_0 nn) y4_14 (C + 1 - t + 1) t y3_14 y2_14)) := rfl
noncomputable def D_X9_isCleared_0 (R : Nat) (C : Nat) (i3 : Int32) (t : Nat) (nn : Nat) : (Nat → Int64) → (Nat → Int64) → (Nat → Int64) → Int32 → Int32 → Int32 → Int32 × (Nat → Int64) × (Nat → Int64) × (Nat → Int64) × Int32 × Int32 × Int32 := @Nat.rec (fun _ => (Nat → Int64) → (Nat → Int64) → (Nat → Int64) → Int32 → Int32 → Int32 → Int32 × (Nat → Int64) × (Nat → Int64) × (Nat → Int64) × Int32 × Int32 × Int32) (fun _ _ _ _ _ _ => default) (fun _ lb0 (f1_0 : Nat → Int64) (f2_0 : Nat → Int64) (f3_0 : Nat → Int64) (i1_0 : Int32) (i2_0 : Int32) (i4_0 : Int32) => (if i4_0 = 0 then (D_X9_isCleared_14 R C i3 t lb0 f1_0 f2_0 f3_0 i1_0 i2_0 i4_0 (R + 1 - t + 1) t t t) else (0, f1_0, f2_0, f3_0, i1_0, i2_0, i4_0))) nn
theorem D_X9_isCleared_0_s {R : Nat} {C : Nat} {i3 : Int32} {t : Nat} {nn : Nat} {f1_0 : Nat → Int64} {f2_0 : Nat → Int64} {f3_0 : Nat → Int64} {i1_0 : Int32} {i2_0 : Int32} {i4_0 : Int32} : D_X9_isCleared_0 R C i3 t (nn + 1) f1_0 f2_0 f3_0 i1_0 i2_0 i4_0 = (if i4_0 = 0 then (D_X9_isCleared_14 R C i3 t (D_X9_isCleared_0 R C i3 t nn) f1_0 f2_0 f3_0 i1_0 i2_0 i4_0 (R + 1 - t + 1) t t t) else (0, f1_0, f2_0, f3_0, i1_0, i2_0, i4_0)) := rfl
noncomputable def D_X9_isCleared (R : Nat) (C : Nat) (f1 : Nat → Int64) (f2 : Nat → Int64) (f3 : Nat → Int64) (i1 : Int32) (i2 : Int32) (i3 : Int32) (i4 : Int32) (t : Nat) : Int32 × (Nat → Int64) × (Nat → Int64) × (Nat → Int64) × Int32 × Int32 × Int32 := (D_X9_isCleared_0 R C i3 t (2000000000 + 1) f1 f2 f3 i1 i2 i4)
theorem D_X9_isCleared_s {R : Nat} {C : Nat} {f1 : Nat → Int64} {f2 : Nat → Int64} {f3 : Nat → Int64} {i1 : Int32} {i2 : Int32} {i3 : Int32} {i4 : Int32} {t : Nat} : D_X9_isCleared R C f1 f2 f3 i1 i2 i3 i4 t = (D_X9_isCleared_0 R C i3 t (2000000000 + 1) f1 f2 f3 i1 i2 i4) := rfl
set_option maxHeartbeats 4000000 in
set_option maxRecDepth 100000 in
theorem k_X9_isCleared (κ : Kt) (l : Launch) (w : va_W) (s_0 g_r b_r g_l b_l g_w b_w R C : Nat) (f1 f2 f3 : Nat → Int64) (i1 i2 i3 i4 : Int32) (xt : Int32) (t : Nat) (hs : shp R C) (hC4 : C ≤ 4) (hxt : xt = nI t) (ht : t < R ∧ t < C) (hng : ∀ k, k < R * 5 → ng (f3 k)) (hg0 : i4 = 0) (o_x : Int32) (o_F1 : Nat → Int64) (o_F2 : Nat → Int64) (o_F3 : Nat → Int64) (o_S1 : Int32) (o_S2 : Int32) (o_G1 : Int32) (hR : D_X9_isCleared R C f1 f2 f3 i1 i2 i3 i4 t = (o_x, o_F1, o_F2, o_F3, o_S1, o_S2, o_G1)) : CM κ l yX9_isCleared cX9_isCleared 6 (some .boolean) 3 73 0 0 [.ref s_0, .int xt] (lA κ b_r (C * 5) f1 :: gO g_r C C b_r :: lA κ b_l (R * 5) f2 :: gO g_l R R b_l :: lA κ b_w (R * 5) f3 :: gO g_w R C b_w :: (s_0, .inr (10, [.ref g_w, .ref g_l, .ref g_r, .int i1, .int i2, .int i3, .int i4])) :: w) (fun o w' => o = some (.int o_x) ∧ (o_x = 0 ∨ o_x = 1) ∧ (CSf R t f3 o_F3 o_G1 o_x) ∧ w' = lA κ b_r (C * 5) o_F1 :: gO g_r C C b_r :: lA κ b_l (R * 5) o_F2 :: gO g_l R R b_l :: lA κ b_w (R * 5) o_F3 :: gO g_w R C b_w :: (s_0, .inr (10, [.ref g_w, .ref g_l, .ref g_r, .int o_S1, .int o_S2, .int i3, .int o_G1])) :: w) := by
  have hs0 := hs
  obtain ⟨hs1, hs2, hs3, hs4⟩ := hs0
  subst hxt
  refine CM_begin (plainFor_of_name pn_RX9) (Nat.le_of_ble_eq_true rfl) ?_
  intro p e s m args below meth c A Q hX hnm hA3 hQ hB ls hl
  have hx := hX.1.1
  have hb := hX.1.2.1
  have hl : lv_has ls 6 [(0, .ref s_0), (1, .int (nI t))] := hl
  obtain ⟨ht1, ht2⟩ := ht
  obtain ⟨N0, hNb, hN0⟩ := PH_ex R C t f3 hs4 hng
  replace hR := (D_X9_isCleared_s).symm.trans hR
  have lp0 : ∀ (nn0 : Nat) (f1_0 : Nat → Int64) (f2_0 : Nat → Int64) (f3_0 : Nat → Int64) (i1_0 : Int32) (i2_0 : Int32) (i4_0 : Int32) (N_0 : Nat) (H : Heap) (locs : List Loc), (HSf R C t f3 N_0 f3_0 i4_0) → N_0 < nn0 → D_X9_isCleared_0 R C i3 t nn0 f1_0 f2_0 f3_0 i1_0 i2_0 i4_0 = (o_x, o_F1, o_F2, o_F3, o_S1, o_S2, o_G1) → Bd κ A s (lA κ b_r (C * 5) f1_0 :: gO g_r C C b_r :: lA κ b_l (R * 5) f2_0 :: gO g_l R R b_l :: lA κ b_w (R * 5) f3_0 :: gO g_w R C b_w :: (s_0, .inr (10, [.ref g_w, .ref g_l, .ref g_r, .int i1_0, .int i2_0, .int i3, .int i4_0])) :: w) H locs → ∀ ls : Array Slot, lv_has ls 6 [(0, .ref s_0), (1, .int (nI t))] → W p l e (Rm 3 73 0 0) s m args below meth c H locs (0) (0) Q (F0 m 0 ls []) := by
    intro nn0
    induction nn0 with
    | zero => intro f1_0 f2_0 f3_0 i1_0 i2_0 i4_0 N_0 H locs hS hμ; exact absurd hμ (Nat.not_lt_zero _)
    | succ nn0 ih0 =>
      intro f1_0 f2_0 f3_0 i1_0 i2_0 i4_0 N_0 H locs hS hμ0 hR hB ls hl
      replace hR := (D_X9_isCleared_0_s).symm.trans hR
      refine lv_aload_n hx hb dX9_isCleared_0 rfl (lv_at hl 0 rfl) ?_
      refine gf (k0 := 6) hX hB rfl rfl in9 6 (by decide) wm_6_233 rfl rfl dX9_isCleared_1 ?_
      refine lv_if_ne (tgt := 144) hx hb dX9_isCleared_4 (by decide) (fun c555 => ?_) (fun c555 => ?_)
      · replace hR := ifn c555 hR
        refine lv_iconst (v := 0) hx hb dX9_isCleared_144 (by decide) ?_
        rw [← hQ]
        exact end_i hX hB hA3 rfl rfl (by obtain ⟨rfl, rfl, rfl, rfl, rfl, rfl, rfl⟩ := pr7 hR; exact ⟨rfl, Or.inl rfl, CS_0 hS, rfl⟩) (Nat.le_of_ble_eq_true rfl) (Nat.le_of_ble_eq_true rfl) dX9_isCleared_145
      · replace hR := ifp c555 hR
        have hG := c555
        refine lv_iload_n hx hb dX9_isCleared_7 rfl (lv_at hl 1 rfl) ?_
        refine lv_istore_n (lv' := [(2, .int (nI t)), (0, .ref s_0), (1, .int (nI t))]) hx hb dX9_isCleared_8 rfl hl (by decide) rfl (fun ls hl => ?_)
        refine lv_iload_n hx hb dX9_isCleared_9 rfl (lv_at hl 2 rfl) ?_
        refine lv_istore_n (lv' := [(3, .int (nI t)), (2, .int (nI t)), (0, .ref s_0), (1, .int (nI t))]) hx hb dX9_isCleared_10 rfl hl (by decide) rfl (fun ls hl => ?_)
        refine lv_iload_n hx hb dX9_isCleared_11 rfl (lv_at hl 3 rfl) ?_
        refine lv_istore (lv' := [(4, .int (nI t)), (3, .int (nI t)), (2, .int (nI t)), (0, .ref s_0), (1, .int (nI t))]) hx hb dX9_isCleared_12 hl (by decide) rfl (fun ls hl => ?_)
        have lp14 : ∀ (nn14 : Nat) (y4_14 : Nat) (y3_14 : Nat) (y2_14 : Nat) (H : Heap) (locs : List Loc), (y4_14 ≤ R) → (t ≤ y4_14) → (MIf R C t f3_0 y4_14 t y2_14 y3_14) → R + 1 - y4_14 < nn14 → D_X9_isCleared_14 R C i3 t (D_X9_isCleared_0 R C i3 t nn0) f1_0 f2_0 f3_0 i1_0 i2_0 i4_0 nn14 y4_14 y3_14 y2_14 = (o_x, o_F1, o_F2, o_F3, o_S1, o_S2, o_G1) → Bd κ A s (lA κ b_r (C * 5) f1_0 :: gO g_r C C b_r :: lA κ b_l (R * 5) f2_0 :: gO g_l R R b_l :: lA κ b_w (R * 5) f3_0 :: gO g_w R C b_w :: (s_0, .inr (10, [.ref g_w, .ref g_l, .ref g_r, .int i1_0, .int i2_0, .int i3, .int i4_0])) :: w) H locs → ∀ ls : Array Slot, lv_has ls 6 [(4, .int (nI y4_14)), (3, .int (nI y3_14)), (2, .int (nI y2_14)), (0, .ref s_0), (1, .int (nI t))] → W p l e (Rm 3 73 0 0) s m args below meth c H locs (0) (0) Q (F0 m 14 ls []) := by
          intro nn14
          induction nn14 with
          | zero => intro y4_14 y3_14 y2_14 H locs hn4_14 hI14 hM14 hμ; exact absurd hμ (Nat.not_lt_zero _)
          | succ nn14 ih14 =>
            intro y4_14 y3_14 y2_14 H locs hn4_14 hI14 hM14 hμ14 hR hB ls hl
            replace hR := (D_X9_isCleared_14_s).symm.trans hR
            have hq14 := hM14.1
            refine lv_iload hx hb dX9_isCleared_14 (lv_at hl 0 rfl) ?_
            refine lv_aload_n hx hb dX9_isCleared_16 rfl (lv_at hl 3 rfl) ?_
            refine gf (k0 := 6) hX hB rfl rfl in9 0 (by decide) wm_6_221 rfl rfl dX9_isCleared_17 ?_
            refine gf (k0 := 5) hX hB rfl rfl in7 0 (by decide) wm_5_147 rfl rfl dX9_isCleared_20 ?_
            refine lv_icmp_ge (tgt := 86) hx hb dX9_isCleared_23 (by decide) (fun c785 => ?_) (fun c785 => ?_)
            · rw [nleP (a := R) (b := y4_14) (by omega) (by omega)] at c785
              replace hR := ifp c785 hR
              refine lv_aload_n hx hb dX9_isCleared_86 rfl (lv_at hl 3 rfl) ?_
              refine gf (k0 := 6) hX hB rfl rfl in9 0 (by decide) wm_6_221 rfl rfl dX9_isCleared_87 ?_
              refine lv_iload_n hx hb dX9_isCleared_90 rfl (lv_at hl 2 rfl) ?_
              refine lv_iload_n hx hb dX9_isCleared_91 rfl (lv_at hl 1 rfl) ?_
              refine call_V (n := 2) (k0 := 5) (As := [.int (nI y2_14), .int (nI y3_14)]) (rest := []) hX hB (k_X7_at κ l (lA κ b_r (C * 5) f1_0 :: gO g_r C C b_r :: lA κ b_l (R * 5) f2_0 :: gO g_l R R b_l :: lA κ b_w (R * 5) f3_0 :: gO g_w R C b_w :: (s_0, .inr (10, [.ref g_w, .ref g_l, .ref g_r, .int i1_0, .int i2_0, .int i3, .int i4_0])) :: w) 5 4 g_w b_w R C f3_0 (nI y2_14) y2_14 (nI y3_14) y3_14 rfl rfl hs rfl rfl (by omega)) ⟨rfl, yk_X7_at⟩ wm_6_188 wm_5_238 wm_5_239 wm_1_7 wm_6_0 ⟨Nat.le_of_ble_eq_true rfl, Nat.le_of_ble_eq_true rfl⟩ ⟨Nat.le_of_ble_eq_true rfl, Nat.le_of_ble_eq_true rfl⟩ rfl rfl rfl rfl hl.1 rfl (Nat.le_of_ble_eq_true rfl) dX9_isCleared_92 (fun o w' H locs hp hB => ?_)
              obtain ⟨rfl, hw9⟩ := hp
              replace hB : Bd κ A s (lA κ b_r (C * 5) f1_0 :: gO g_r C C b_r :: lA κ b_l (R * 5) f2_0 :: gO g_l R R b_l :: lA κ b_w (R * 5) f3_0 :: gO g_w R C b_w :: (s_0, .inr (10, [.ref g_w, .ref g_l, .ref g_r, .int i1_0, .int i2_0, .int i3, .int i4_0])) :: w) H locs := by rw [hw9] at hB; exact hB
              refine W.eq (g2 := F0 m 95 ls [.long (f3_0 (y2_14 * 5 + y3_14))]) rfl ?_
              refine lv_lconst (v := 0) hx hb dX9_isCleared_95 (by decide) ?_
              refine W.lcmp hx hb dX9_isCleared_96 ?_
              refine lv_if_ne (tgt := 102) hx hb dX9_isCleared_97 (by decide) (fun c786 => ?_) (fun c786 => ?_)
              · replace hR := ifn c786 hR
                refine lv_aload_n hx hb dX9_isCleared_102 rfl (lv_at hl 3 rfl) ?_
                refine lv_iload_n hx hb dX9_isCleared_103 rfl (lv_at hl 4 rfl) ?_
                refine lv_iload_n hx hb dX9_isCleared_104 rfl (lv_at hl 2 rfl) ?_
                refine lv_iload_n hx hb dX9_isCleared_105 rfl (lv_at hl 1 rfl) ?_
                obtain ⟨F787, F788, F789, S790, S791, hd792⟩ := ex5 (D_X9_bring R C f1_0 f2_0 f3_0 i1_0 i2_0 i3 i4_0 t y2_14 y3_14)
                replace hR := bnd5_use hd792 hR
                refine call_V (n := 3) (k0 := 6) (As := [.int (nI t), .int (nI y2_14), .int (nI y3_14)]) (rest := []) hX hB (k_X9_bring κ l (w) s_0 g_r b_r g_l b_l g_w b_w R C f1_0 f2_0 f3_0 i1_0 i2_0 i3 i4_0 (nI t) t (nI y2_14) y2_14 (nI y3_14) y3_14 hs (by omega) rfl rfl rfl (by omega) (hS.2.1 hG) (lgnz (by assumption)) F787 F788 F789 S790 S791 hd792) ⟨rfl, yk_X9_bring⟩ wm_6_194 wm_6_196 wp_43 wm_1_16 wm_6_197 ⟨Nat.le_of_ble_eq_true rfl, Nat.le_of_ble_eq_true rfl⟩ ⟨Nat.le_of_ble_eq_true rfl, Nat.le_of_ble_eq_true rfl⟩ rfl rfl rfl rfl hl.1 rfl (Nat.le_of_ble_eq_true rfl) dX9_isCleared_106 (fun o w' H locs hp hB => ?_)
                obtain ⟨rfl, hf793, hw9⟩ := hp
                replace hB : Bd κ A s (lA κ b_r (C * 5) F787 :: gO g_r C C b_r :: lA κ b_l (R * 5) F788 :: gO g_l R R b_l :: lA κ b_w (R * 5) F789 :: gO g_w R C b_w :: (s_0, .inr (10, [.ref g_w, .ref g_l, .ref g_r, .int S790, .int S791, .int i3, .int i4_0])) :: w) H locs := by rw [hw9] at hB; exact hB
                refine W.eq (g2 := F0 m 109 ls []) rfl ?_
                have hQH := QH_of (hS.2.2.2 hG) ((show y4_14 = R by omega) ▸ hM14) (lgnz (by assumption)) hf793
                have hN1 := QH_1 hQH
                refine lv_aload_n hx hb dX9_isCleared_109 rfl (lv_at hl 3 rfl) ?_
                refine lv_iload_n hx hb dX9_isCleared_110 rfl (lv_at hl 4 rfl) ?_
                obtain ⟨F794, F795, F796, G797, hd798⟩ := ex4 (D_X9_takeOff R C F787 F788 F789 S790 S791 i3 i4_0 t)
                replace hR := bnd4_use hd798 hR
                refine call_V (n := 1) (k0 := 6) (As := [.int (nI t)]) (rest := []) hX hB (k_X9_takeOff κ l (w) s_0 g_r b_r g_l b_l g_w b_w R C F787 F788 F789 S790 S791 i3 i4_0 (nI t) t hs (by omega) rfl (by omega) hf793.1 hG hf793.2.1 F794 F795 F796 G797 hd798) ⟨rfl, yk_X9_takeOff⟩ wm_6_201 wm_6_203 wp_44 wm_1_16 wm_6_204 ⟨Nat.le_of_ble_eq_true rfl, Nat.le_of_ble_eq_true rfl⟩ ⟨Nat.le_of_ble_eq_true rfl, Nat.le_of_ble_eq_true rfl⟩ rfl rfl rfl rfl hl.1 rfl (Nat.le_of_ble_eq_true rfl) dX9_isCleared_111 (fun o w' H locs hp hB => ?_)
                obtain ⟨rfl, hf799, hw9⟩ := hp
                replace hB : Bd κ A s (lA κ b_r (C * 5) F794 :: gO g_r C C b_r :: lA κ b_l (R * 5) F795 :: gO g_l R R b_l :: lA κ b_w (R * 5) F796 :: gO g_w R C b_w :: (s_0, .inr (10, [.ref g_w, .ref g_l, .ref g_r, .int S790, .int S791, .int i3, .int G797])) :: w) H locs := by rw [hw9] at hB; exact hB
                refine W.eq (g2 := F0 m 114 ls []) rfl ?_
                refine lv_aload_n hx hb dX9_isCleared_114 rfl (lv_at hl 3 rfl) ?_
                refine gf (k0 := 6) hX hB rfl rfl in9 6 (by decide) wm_6_233 rfl rfl dX9_isCleared_115 ?_
                refine lv_if_eq (tgt := 123) hx hb dX9_isCleared_118 (by decide) (fun c800 => ?_) (fun c800 => ?_)
                · replace hR := ifp c800 hR
                  have hG2 := c800
                  refine lv_aload_n hx hb dX9_isCleared_123 rfl (lv_at hl 3 rfl) ?_
                  refine lv_iload_n hx hb dX9_isCleared_124 rfl (lv_at hl 4 rfl) ?_
                  obtain ⟨x801, hd802⟩ := ex1 (D_X9_isAlone R C F794 F795 F796 S790 S791 i3 G797 t)
                  replace hR := bnd1_use hd802 hR
                  refine call_V (n := 1) (k0 := 6) (As := [.int (nI t)]) (rest := []) hX hB (k_X9_isAlone κ l (w) s_0 g_r b_r g_l b_l g_w b_w R C F794 F795 F796 S790 S791 i3 G797 (nI t) t hs (by omega) rfl (by omega) x801 hd802) ⟨rfl, yk_X9_isAlone⟩ wm_6_213 wm_6_215 wp_46 wm_1_16 wm_6_216 ⟨Nat.le_of_ble_eq_true rfl, Nat.le_of_ble_eq_true rfl⟩ ⟨Nat.le_of_ble_eq_true rfl, Nat.le_of_ble_eq_true rfl⟩ rfl rfl rfl rfl hl.1 rfl (Nat.le_of_ble_eq_true rfl) dX9_isCleared_125 (fun o w' H locs hp hB => ?_)
                  obtain ⟨rfl, hf803, hw9⟩ := hp
                  replace hB : Bd κ A s (lA κ b_r (C * 5) F794 :: gO g_r C C b_r :: lA κ b_l (R * 5) F795 :: gO g_l R R b_l :: lA κ b_w (R * 5) F796 :: gO g_w R C b_w :: (s_0, .inr (10, [.ref g_w, .ref g_l, .ref g_r, .int S790, .int S791, .int i3, .int G797])) :: w) H locs := by rw [hw9] at hB; exact hB
                  rcases hf803 with ⟨rfl, hal⟩ | ⟨rfl, hal1, hal2⟩
                  · replace hR := ifp rfl hR
                    refine W.eq (g2 := F0 m 128 ls [.int 0]) rfl ?_
                    refine lv_if_eq (tgt := 141) hx hb dX9_isCleared_128 (by decide) (fun _ => ?_) (fun c804 => False.elim (by revert c804; decide))
                    refine lv_goto (tgt := 0) hx hb dX9_isCleared_141 (by decide) ?_
                    exact ih0 F794 F795 F796 S790 S791 G797 (N_0 - 1) _ _ (HS_1 hS hf793 hQH hf799 hG2 hal) (by omega) hR hB _ (lv_sub hl [3, 4] rfl)
                  · replace hR := ifn (by decide) hR
                    refine W.eq (g2 := F0 m 128 ls [.int 1]) rfl ?_
                    refine lv_if_eq (tgt := 141) hx hb dX9_isCleared_128 (by decide) (fun c805 => False.elim (by revert c805; decide)) (fun _ => ?_)
                    refine lv_aload_n hx hb dX9_isCleared_131 rfl (lv_at hl 3 rfl) ?_
                    refine lv_iload_n hx hb dX9_isCleared_132 rfl (lv_at hl 4 rfl) ?_
                    obtain ⟨x806, F807, F808, G809, hd810⟩ := ex4 (D_X9_isDividing R C F794 F795 F796 S790 S791 i3 G797 t)
                    replace hR := bnd4_use hd810 hR
                    refine call_V (n := 1) (k0 := 6) (As := [.int (nI t)]) (rest := []) hX hB (k_X9_isDividing κ l (w) s_0 g_r b_r g_l b_l g_w b_w R C F794 F795 F796 S790 S791 i3 G797 (nI t) t hs (by omega) rfl (by omega) (by rw [hf799.2.1]; intro e; have h0 := hf793.2.1; rw [e] at h0; exact absurd h0 (by decide)) hf799.1 x806 F807 F808 G809 hd810) ⟨rfl, yk_X9_isDividing⟩ wm_6_217 wm_6_219 wp_47 wm_1_16 wm_6_220 ⟨Nat.le_of_ble_eq_true rfl, Nat.le_of_ble_eq_true rfl⟩ ⟨Nat.le_of_ble_eq_true rfl, Nat.le_of_ble_eq_true rfl⟩ rfl rfl rfl rfl hl.1 rfl (Nat.le_of_ble_eq_true rfl) dX9_isCleared_133 (fun o w' H locs hp hB => ?_)
                    obtain ⟨rfl, hf811, hw9⟩ := hp
                    replace hB : Bd κ A s (lA κ b_r (C * 5) F794 :: gO g_r C C b_r :: lA κ b_l (R * 5) F807 :: gO g_l R R b_l :: lA κ b_w (R * 5) F808 :: gO g_w R C b_w :: (s_0, .inr (10, [.ref g_w, .ref g_l, .ref g_r, .int S790, .int S791, .int i3, .int G809])) :: w) H locs := by rw [hw9] at hB; exact hB
                    rcases hf811 with ⟨rfl, hdv, hdg⟩ | ⟨rfl, hdb, hdn, di, dj, hd1, hd2, hd3, hd4, hd5, hd6⟩
                    · replace hR := ifp rfl hR
                      refine W.eq (g2 := F0 m 136 ls [.int 1]) rfl ?_
                      refine lv_if_eq (tgt := 141) hx hb dX9_isCleared_136 (by decide) (fun c812 => False.elim (by revert c812; decide)) (fun _ => ?_)
                      refine lv_iconst (v := 1) hx hb dX9_isCleared_139 (by decide) ?_
                      rw [← hQ]
                      exact end_i hX hB hA3 rfl rfl (by obtain ⟨rfl, rfl, rfl, rfl, rfl, rfl, rfl⟩ := pr7 hR; exact ⟨rfl, Or.inr rfl, CS_1 hS hf793 hf799 hG2 hdv hdg, rfl⟩) (Nat.le_of_ble_eq_true rfl) (Nat.le_of_ble_eq_true rfl) dX9_isCleared_140
                    · replace hR := ifn (by decide) hR
                      refine W.eq (g2 := F0 m 136 ls [.int 0]) rfl ?_
                      refine lv_if_eq (tgt := 141) hx hb dX9_isCleared_136 (by decide) (fun _ => ?_) (fun c813 => False.elim (by revert c813; decide))
                      refine lv_goto (tgt := 0) hx hb dX9_isCleared_141 (by decide) ?_
                      exact ih0 F794 F807 F808 S790 S791 G809 (N_0 - 1) _ _ (HS_2 hs4 ht1 hS hf793 hQH hf799 hG2 hal1 hal2 hdb hdn hd1 hd2 hd3 hd4 hd5 hd6) (by omega) hR hB _ (lv_sub hl [3, 4] rfl)
                · replace hR := ifn c800 hR
                  refine lv_iconst (v := 0) hx hb dX9_isCleared_121 (by decide) ?_
                  rw [← hQ]
                  exact end_i hX hB hA3 rfl rfl (by obtain ⟨rfl, rfl, rfl, rfl, rfl, rfl, rfl⟩ := pr7 hR; exact ⟨rfl, Or.inl rfl, CS_g hS hf793 hf799, rfl⟩) (Nat.le_of_ble_eq_true rfl) (Nat.le_of_ble_eq_true rfl) dX9_isCleared_122
              · replace hR := ifp c786 hR
                refine lv_iconst (v := 0) hx hb dX9_isCleared_100 (by decide) ?_
                rw [← hQ]
                exact end_i hX hB hA3 rfl rfl (by obtain ⟨rfl, rfl, rfl, rfl, rfl, rfl, rfl⟩ := pr7 hR; exact ⟨rfl, Or.inl rfl, CS_0 hS, rfl⟩) (Nat.le_of_ble_eq_true rfl) (Nat.le_of_ble_eq_true rfl) dX9_isCleared_101
            · rw [nleP (a := R) (b := y4_14) (by omega) (by omega)] at c785
              replace hR := ifn c785 hR
              refine lv_iload_n hx hb dX9_isCleared_26 rfl (lv_at hl 4 rfl) ?_
              refine lv_istore (lv' := [(5, .int (nI t)), (4, .int (nI y4_14)), (3, .int (nI y3_14)), (2, .int (nI y2_14)), (0, .ref s_0), (1, .int (nI t))]) hx hb dX9_isCleared_27 hl (by decide) rfl (fun ls hl => ?_)
              have lp29 : ∀ (nn29 : Nat) (y5_29 : Nat) (y3_29 : Nat) (y2_29 : Nat) (H : Heap) (locs : List Loc), (y5_29 ≤ C) → (t ≤ y5_29) → (MIf R C t f3_0 y4_14 y5_29 y2_29 y3_29) → C + 1 - y5_29 < nn29 → D_X9_isCleared_29 R C i3 f1_0 f2_0 f3_0 i1_0 i2_0 i4_0 (D_X9_isCleared_14 R C i3 t (D_X9_isCleared_0 R C i3 t nn0) f1_0 f2_0 f3_0 i1_0 i2_0 i4_0 nn14) y4_14 nn29 y5_29 y3_29 y2_29 = (o_x, o_F1, o_F2, o_F3, o_S1, o_S2, o_G1) → Bd κ A s (lA κ b_r (C * 5) f1_0 :: gO g_r C C b_r :: lA κ b_l (R * 5) f2_0 :: gO g_l R R b_l :: lA κ b_w (R * 5) f3_0 :: gO g_w R C b_w :: (s_0, .inr (10, [.ref g_w, .ref g_l, .ref g_r, .int i1_0, .int i2_0, .int i3, .int i4_0])) :: w) H locs → ∀ ls : Array Slot, lv_has ls 6 [(5, .int (nI y5_29)), (4, .int (nI y4_14)), (3, .int (nI y3_29)), (2, .int (nI y2_29)), (0, .ref s_0), (1, .int (nI t))] → W p l e (Rm 3 73 0 0) s m args below meth c H locs (0) (0) Q (F0 m 29 ls []) := by
                intro nn29
                induction nn29 with
                | zero => intro y5_29 y3_29 y2_29 H locs hn5_29 hI29 hM29 hμ; exact absurd hμ (Nat.not_lt_zero _)
                | succ nn29 ih29 =>
                  intro y5_29 y3_29 y2_29 H locs hn5_29 hI29 hM29 hμ29 hR hB ls hl
                  replace hR := (D_X9_isCleared_29_s).symm.trans hR
                  have hq29 := hM29.1
                  refine lv_iload hx hb dX9_isCleared_29 (lv_at hl 0 rfl) ?_
                  refine lv_aload_n hx hb dX9_isCleared_31 rfl (lv_at hl 4 rfl) ?_
                  refine gf (k0 := 6) hX hB rfl rfl in9 0 (by decide) wm_6_221 rfl rfl dX9_isCleared_32 ?_
                  refine gf (k0 := 5) hX hB rfl rfl in7 1 (by decide) wm_5_150 rfl rfl dX9_isCleared_35 ?_
                  refine lv_icmp_ge (tgt := 80) hx hb dX9_isCleared_38 (by decide) (fun c826 => ?_) (fun c826 => ?_)
                  · rw [nleP (a := C) (b := y5_29) (by omega) (by omega)] at c826
                    replace hR := ifp c826 hR
                    refine lv_iinc (v := nI (y4_14 + 1)) (lv' := [(4, .int (nI (y4_14 + 1))), (5, .int (nI y5_29)), (3, .int (nI y3_29)), (2, .int (nI y2_29)), (0, .ref s_0), (1, .int (nI t))]) hx hb dX9_isCleared_80 hl (k := 1) rfl (nI_add y4_14 1) (by decide) rfl (fun ls hl => ?_)
                    refine lv_goto (tgt := 14) hx hb dX9_isCleared_83 (by decide) ?_
                    exact ih14 (y4_14 + 1) y3_29 y2_29 _ _ (by omega) (by omega) (MI_r hM29 (by omega)) (by omega) hR hB _ (lv_sub hl [0, 2, 3, 4, 5] rfl)
                  · rw [nleP (a := C) (b := y5_29) (by omega) (by omega)] at c826
                    replace hR := ifn c826 hR
                    refine lv_aload_n hx hb dX9_isCleared_41 rfl (lv_at hl 4 rfl) ?_
                    refine lv_aload_n hx hb dX9_isCleared_42 rfl (lv_at hl 4 rfl) ?_
                    refine gf (k0 := 6) hX hB rfl rfl in9 0 (by decide) wm_6_221 rfl rfl dX9_isCleared_43 ?_
                    refine lv_iload hx hb dX9_isCleared_46 (lv_at hl 1 rfl) ?_
                    refine lv_iload hx hb dX9_isCleared_48 (lv_at hl 0 rfl) ?_
                    refine call_V (n := 2) (k0 := 5) (As := [.int (nI y4_14), .int (nI y5_29)]) (rest := [.ref s_0]) hX hB (k_X7_at κ l (lA κ b_r (C * 5) f1_0 :: gO g_r C C b_r :: lA κ b_l (R * 5) f2_0 :: gO g_l R R b_l :: lA κ b_w (R * 5) f3_0 :: gO g_w R C b_w :: (s_0, .inr (10, [.ref g_w, .ref g_l, .ref g_r, .int i1_0, .int i2_0, .int i3, .int i4_0])) :: w) 5 4 g_w b_w R C f3_0 (nI y4_14) y4_14 (nI y5_29) y5_29 rfl rfl hs rfl rfl (by omega)) ⟨rfl, yk_X7_at⟩ wm_6_188 wm_5_238 wm_5_239 wm_1_7 wm_6_0 ⟨Nat.le_of_ble_eq_true rfl, Nat.le_of_ble_eq_true rfl⟩ ⟨Nat.le_of_ble_eq_true rfl, Nat.le_of_ble_eq_true rfl⟩ rfl rfl rfl rfl hl.1 rfl (Nat.le_of_ble_eq_true rfl) dX9_isCleared_50 (fun o w' H locs hp hB => ?_)
                    obtain ⟨rfl, hw9⟩ := hp
                    replace hB : Bd κ A s (lA κ b_r (C * 5) f1_0 :: gO g_r C C b_r :: lA κ b_l (R * 5) f2_0 :: gO g_l R R b_l :: lA κ b_w (R * 5) f3_0 :: gO g_w R C b_w :: (s_0, .inr (10, [.ref g_w, .ref g_l, .ref g_r, .int i1_0, .int i2_0, .int i3, .int i4_0])) :: w) H locs := by rw [hw9] at hB; exact hB
                    refine W.eq (g2 := F0 m 53 ls [.long (f3_0 (y4_14 * 5 + y5_29)), .ref s_0]) rfl ?_
                    refine lv_aload_n hx hb dX9_isCleared_53 rfl (lv_at hl 4 rfl) ?_
                    refine gf (k0 := 6) hX hB rfl rfl in9 0 (by decide) wm_6_221 rfl rfl dX9_isCleared_54 ?_
                    refine lv_iload_n hx hb dX9_isCleared_57 rfl (lv_at hl 3 rfl) ?_
                    refine lv_iload_n hx hb dX9_isCleared_58 rfl (lv_at hl 2 rfl) ?_
                    refine call_V (n := 2) (k0 := 5) (As := [.int (nI y2_29), .int (nI y3_29)]) (rest := [.long (f3_0 (y4_14 * 5 + y5_29)), .ref s_0]) hX hB (k_X7_at κ l (lA κ b_r (C * 5) f1_0 :: gO g_r C C b_r :: lA κ b_l (R * 5) f2_0 :: gO g_l R R b_l :: lA κ b_w (R * 5) f3_0 :: gO g_w R C b_w :: (s_0, .inr (10, [.ref g_w, .ref g_l, .ref g_r, .int i1_0, .int i2_0, .int i3, .int i4_0])) :: w) 5 4 g_w b_w R C f3_0 (nI y2_29) y2_29 (nI y3_29) y3_29 rfl rfl hs rfl rfl (by omega)) ⟨rfl, yk_X7_at⟩ wm_6_188 wm_5_238 wm_5_239 wm_1_7 wm_6_0 ⟨Nat.le_of_ble_eq_true rfl, Nat.le_of_ble_eq_true rfl⟩ ⟨Nat.le_of_ble_eq_true rfl, Nat.le_of_ble_eq_true rfl⟩ rfl rfl rfl rfl hl.1 rfl (Nat.le_of_ble_eq_true rfl) dX9_isCleared_59 (fun o w' H locs hp hB => ?_)
                    obtain ⟨rfl, hw9⟩ := hp
                    replace hB : Bd κ A s (lA κ b_r (C * 5) f1_0 :: gO g_r C C b_r :: lA κ b_l (R * 5) f2_0 :: gO g_l R R b_l :: lA κ b_w (R * 5) f3_0 :: gO g_w R C b_w :: (s_0, .inr (10, [.ref g_w, .ref g_l, .ref g_r, .int i1_0, .int i2_0, .int i3, .int i4_0])) :: w) H locs := by rw [hw9] at hB; exact hB
                    refine W.eq (g2 := F0 m 62 ls [.long (f3_0 (y2_29 * 5 + y3_29)), .long (f3_0 (y4_14 * 5 + y5_29)), .ref s_0]) rfl ?_
                    obtain ⟨x827, hd828⟩ := ex1 (D_X9_isLess R C f1_0 f2_0 f3_0 i1_0 i2_0 i3 i4_0 (f3_0 (y4_14 * 5 + y5_29)) (f3_0 (y2_29 * 5 + y3_29)))
                    replace hR := bnd1_use hd828 hR
                    refine call_V (n := 2) (k0 := 6) (As := [.long (f3_0 (y4_14 * 5 + y5_29)), .long (f3_0 (y2_29 * 5 + y3_29))]) (rest := []) hX hB (k_X9_isLess κ l (w) s_0 g_r b_r g_l b_l g_w b_w R C f1_0 f2_0 f3_0 i1_0 i2_0 i3 i4_0 (f3_0 (y4_14 * 5 + y5_29)) (f3_0 (y2_29 * 5 + y3_29)) hs (by omega) (hS.2.1 hG _ (by omega)) (hS.2.1 hG _ (by omega)) x827 hd828) ⟨rfl, yk_X9_isLess⟩ wm_6_189 wm_6_191 wp_42 wm_1_16 wm_6_192 ⟨Nat.le_of_ble_eq_true rfl, Nat.le_of_ble_eq_true rfl⟩ ⟨Nat.le_of_ble_eq_true rfl, Nat.le_of_ble_eq_true rfl⟩ rfl rfl rfl rfl hl.1 rfl (Nat.le_of_ble_eq_true rfl) dX9_isCleared_62 (fun o w' H locs hp hB => ?_)
                    obtain ⟨rfl, hf829, hw9⟩ := hp
                    replace hB : Bd κ A s (lA κ b_r (C * 5) f1_0 :: gO g_r C C b_r :: lA κ b_l (R * 5) f2_0 :: gO g_l R R b_l :: lA κ b_w (R * 5) f3_0 :: gO g_w R C b_w :: (s_0, .inr (10, [.ref g_w, .ref g_l, .ref g_r, .int i1_0, .int i2_0, .int i3, .int i4_0])) :: w) H locs := by rw [hw9] at hB; exact hB
                    rcases hf829 with ⟨rfl, hle⟩ | ⟨rfl, hle0, hle1⟩
                    · replace hR := ifp rfl hR
                      refine W.eq (g2 := F0 m 65 ls [.int 0]) rfl ?_
                      refine lv_if_eq (tgt := 74) hx hb dX9_isCleared_65 (by decide) (fun _ => ?_) (fun c830 => False.elim (by revert c830; decide))
                      refine lv_iinc (v := nI (y5_29 + 1)) (lv' := [(5, .int (nI (y5_29 + 1))), (4, .int (nI y4_14)), (3, .int (nI y3_29)), (2, .int (nI y2_29)), (0, .ref s_0), (1, .int (nI t))]) hx hb dX9_isCleared_74 hl (k := 0) rfl (nI_add y5_29 1) (by decide) rfl (fun ls hl => ?_)
                      refine lv_goto (tgt := 29) hx hb dX9_isCleared_77 (by decide) ?_
                      exact ih29 (y5_29 + 1) y3_29 y2_29 _ _ (by omega) (by omega) (MI_k hM29 hle) (by omega) hR hB _ hl
                    · replace hR := ifn (by decide) hR
                      refine W.eq (g2 := F0 m 65 ls [.int 1]) rfl ?_
                      refine lv_if_eq (tgt := 74) hx hb dX9_isCleared_65 (by decide) (fun c831 => False.elim (by revert c831; decide)) (fun _ => ?_)
                      refine lv_iload hx hb dX9_isCleared_68 (lv_at hl 1 rfl) ?_
                      refine lv_istore_n (lv' := [(2, .int (nI y4_14)), (5, .int (nI y5_29)), (4, .int (nI y4_14)), (3, .int (nI y3_29)), (0, .ref s_0), (1, .int (nI t))]) hx hb dX9_isCleared_70 rfl hl (by decide) rfl (fun ls hl => ?_)
                      refine lv_iload hx hb dX9_isCleared_71 (lv_at hl 1 rfl) ?_
                      refine lv_istore_n (lv' := [(3, .int (nI y5_29)), (2, .int (nI y4_14)), (5, .int (nI y5_29)), (4, .int (nI y4_14)), (0, .ref s_0), (1, .int (nI t))]) hx hb dX9_isCleared_73 rfl hl (by decide) rfl (fun ls hl => ?_)
                      refine lv_iinc (v := nI (y5_29 + 1)) (lv' := [(5, .int (nI (y5_29 + 1))), (3, .int (nI y5_29)), (2, .int (nI y4_14)), (4, .int (nI y4_14)), (0, .ref s_0), (1, .int (nI t))]) hx hb dX9_isCleared_74 hl (k := 2) rfl (nI_add y5_29 1) (by decide) rfl (fun ls hl => ?_)
                      refine lv_goto (tgt := 29) hx hb dX9_isCleared_77 (by decide) ?_
                      exact ih29 (y5_29 + 1) y5_29 y4_14 _ _ (by omega) (by omega) (MI_n hM29 (by omega) hle0 hle1) (by omega) hR hB _ (lv_sub hl [0, 3, 1, 2, 4, 5] rfl)
              exact lp29 _ t y3_14 y2_14 _ _ (by omega) (by omega) hM14 (Nat.lt_succ_self _) hR hB _ hl
        exact lp14 _ t t t _ _ (by omega) (by omega) (MI_0 ht1 ht2) (Nat.lt_succ_self _) hR hB _ hl
  exact lp0 (2000000000 + 1) f1 f2 f3 i1 i2 i4 N0 _ _ (⟨Or.inl hg0, fun _ => hng, fun _ _ => rfl, fun _ => hN0⟩) (by omega) hR hB _ hl
noncomputable def D_X9_init_48 (R : Nat) (C : Nat) (nn : Nat) : Nat → Int32 → (Nat → Int64) → (Nat → Int64) → (Nat → Int64) → Int32 → Int32 → Int32 → Int32 → (Nat → Int64) × (Nat → Int64) × (Nat → Int64) × Int32 × Int32 × Nat × Int32 := @Nat.rec (fun _ => Nat → Int32 → (Nat → Int64) → (Nat → Int64) → (Nat → Int64) → Int32 → Int32 → Int32 → Int32 → (Nat → Int64) × (Nat → Int64) × (Nat → Int64) × Int32 × Int32 × Nat × Int32) (fun _ _ _ _ _ _ _ _ _ => default) (fun _ lb48 (y3_48 : Nat) (y2_48 : Int32) (fq12_48 : Nat → Int64) (fq2_48 : Nat → Int64) (fq7_48 : Nat → Int64) (i1_48 : Int32) (i2_48 : Int32) (i3_48 : Int32) (i4_48 : Int32) => (if y2_48 = 0 then nm ((i3_48).toNatClampNeg) (fun (kk : Nat) => (fq12_48, fq7_48, fq2_48, i1_48, i2_48, kk, i4_48)) else (if R ≤ y3_48 then nm ((i3_48).toNatClampNeg) (fun (kk : Nat) => (fq12_48, fq7_48, fq2_48, i1_48, i2_48, kk, i4_48)) else (if C ≤ y3_48 then nm ((i3_48).toNatClampNeg) (fun (kk : Nat) => (fq12_48, fq7_48, fq2_48, i1_48, i2_48, kk, i4_48)) else bnd7 (D_X9_isCleared R C fq12_48 fq7_48 fq2_48 i1_48 i2_48 i3_48 i4_48 y3_48) (fun (x49 : Int32) (F50 : Nat → Int64) (F51 : Nat → Int64) (F52 : Nat → Int64) (S53 : Int32) (S54 : Int32) (G55 : Int32) => (if x49 = 0 then (lb48 (y3_48 + 1) 0 F50 F52 F51 S53 S54 (i3_48 + 0) G55) else (lb48 (y3_48 + 1) 1 F50 F52 F51 S53 S54 (i3_48 + 1) G55))))))) nn
theorem D_X9_init_48_s {R : Nat} {C : Nat} {nn : Nat} {y3_48 : Nat} {y2_48 : Int32} {fq12_48 : Nat → Int64} {fq2_48 : Nat → Int64} {fq7_48 : Nat → Int64} {i1_48 : Int32} {i2_48 : Int32} {i3_48 : Int32} {i4_48 : Int32} : D_X9_init_48 R C (nn + 1) y3_48 y2_48 fq12_48 fq2_48 fq7_48 i1_48 i2_48 i3_48 i4_48 = (if y2_48 = 0 then nm ((i3_48).toNatClampNeg) (fun (kk : Nat) => (fq12_48, fq7_48, fq2_48, i1_48, i2_48, kk, i4_48)) else (if R ≤ y3_48 then nm ((i3_48).toNatClampNeg) (fun (kk : Nat) => (fq12_48, fq7_48, fq2_48, i1_48, i2_48, kk, i4_48)) else (if C ≤ y3_48 then nm ((i3_48).toNatClampNeg) (fun (kk : Nat) => (fq12_48, fq7_48, fq2_48, i1_48, i2_48, kk, i4_48)) else bnd7 (D_X9_isCleared R C fq12_48 fq7_48 fq2_48 i1_48 i2_48 i3_48 i4_48 y3_48) (fun (x49 : Int32) (F50 : Nat → Int64) (F51 : Nat → Int64) (F52 : Nat → Int64) (S53 : Int32) (S54 : Int32) (G55 : Int32) => (if x49 = 0 then ((D_X9_init_48 R C nn) (y3_48 + 1) 0 F50 F52 F51 S53 S54 (i3_48 + 0) G55) else ((D_X9_init_48 R C nn) (y3_48 + 1) 1 F50 F52 F51 S53 S54 (i3_48 + 1) G55)))))) := rfl
noncomputable def D_X9_init (R : Nat) (C : Nat) (f : Nat → Int64) : (Nat → Int64) × (Nat → Int64) × (Nat → Int64) × Int32 × Int32 × Nat × Int32 := bnd1 (D_X7_copy R C f) (fun (F3 : Nat → Int64) => bnd1 (D_X7_unit R) (fun (F8 : Nat → Int64) => bnd1 (D_X7_unit C) (fun (F13 : Nat → Int64) => (D_X9_init_48 R C (R + 1 - 0 + 1) 0 1 F13 F3 F8 1 1 0 0))))
theorem D_X9_init_s {R : Nat} {C : Nat} {f : Nat → Int64} : D_X9_init R C f = bnd1 (D_X7_copy R C f) (fun (F3 : Nat → Int64) => bnd1 (D_X7_unit R) (fun (F8 : Nat → Int64) => bnd1 (D_X7_unit C) (fun (F13 : Nat → Int64) => (D_X9_init_48 R C (R + 1 - 0 + 1) 0 1 F13 F3 F8 1 1 0 0)))) := rfl
set_option maxHeartbeats 4000000 in
set_option maxRecDepth 100000 in
theorem k_X9_init (κ : Kt) (l : Launch) (w : va_W) (s_0 k1 k2 g b R C : Nat) (f : Nat → Int64) (h1 : w[k1]? = some (gO g R C b)) (h2 : w[k2]? = some (lA κ b (R * 5) f)) (hs : shp R C) (hC4 : C ≤ 4) (hng : ∀ k, k < R * 5 → ng (f k)) (o_F1 : Nat → Int64) (o_F2 : Nat → Int64) (o_F3 : Nat → Int64) (o_S1 : Int32) (o_S2 : Int32) (o_K : Nat) (o_G1 : Int32) (hR : D_X9_init R C f = (o_F1, o_F2, o_F3, o_S1, o_S2, o_K, o_G1)) : CM κ l yX9_init cX9_init 4 (none) 4 98 6 69 [.ref s_0, .ref g] ((s_0, .inr (10, [.null, .null, .null, .int 0, .int 0, .int 0, .int 0])) :: w) (fun o w' => ∃ (g_r : Nat) (b_r : Nat) (g_l : Nat) (b_l : Nat) (g_w : Nat) (b_w : Nat), o = none ∧ (o_K ≤ R ∧ o_K ≤ C ∧ ∀ j, j < o_K → ¬ o_F3 (j * 5 + j) = 0) ∧ w' = lA κ b_r (C * 5) o_F1 :: gO g_r C C b_r :: lA κ b_l (R * 5) o_F2 :: gO g_l R R b_l :: lA κ b_w (R * 5) o_F3 :: gO g_w R C b_w :: (s_0, .inr (10, [.ref g_w, .ref g_l, .ref g_r, .int o_S1, .int o_S2, .int (nI o_K), .int o_G1])) :: w) := by
  have hs0 := hs
  obtain ⟨hs1, hs2, hs3, hs4⟩ := hs0
  refine CM_begin (plainFor_of_name pn_RX9) (Nat.le_of_ble_eq_true rfl) ?_
  intro p e s m args below meth c A Q hX hnm hA3 hQ hB ls hl
  have hx := hX.1.1
  have hb := hX.1.2.1
  have hl : lv_has ls 4 [(0, .ref s_0), (1, .ref g)] := hl
  replace hR := (D_X9_init_s).symm.trans hR
  refine lv_aload_n hx hb dX9_init_0 rfl (lv_at hl 0 rfl) ?_
  refine W.objInit hx hb hX.1.2.2.2.1 (hX.1.2.2.2.2 _ wm_6_181) (hX.1.2.2.2.2 _ wm_1_36) (hX.1.2.2.2.2 _ wm_1_37) rfl (by rw [hX.1.2.2.1]; exact hl.1) rfl dX9_init_1 (Nat.le_of_ble_eq_true rfl) (Nat.le_of_ble_eq_true rfl) ?_
  refine W.eq (g2 := F0 m 4 ls []) rfl ?_
  refine lv_aload_n hx hb dX9_init_4 rfl (lv_at hl 0 rfl) ?_
  refine lv_iconst (v := 1) hx hb dX9_init_5 (by decide) ?_
  refine pf (ty := .int) (k0 := 0) hX hB rfl rfl in9 tyX9_ok nmX9 3 (by decide) wm_6_227 rfl rfl rfl rfl rfl (Nat.le_of_ble_eq_true rfl) (w1 := (s_0, .inr (10, [.null, .null, .null, .int 1, .int 0, .int 0, .int 0])) :: w) rfl dX9_init_6 (fun H locs hB => ?_)
  refine lv_aload_n hx hb dX9_init_9 rfl (lv_at hl 0 rfl) ?_
  refine lv_iconst (v := 1) hx hb dX9_init_10 (by decide) ?_
  refine pf (ty := .int) (k0 := 0) hX hB rfl rfl in9 tyX9_ok nmX9 4 (by decide) wm_6_229 rfl rfl rfl rfl rfl (Nat.le_of_ble_eq_true rfl) (w1 := (s_0, .inr (10, [.null, .null, .null, .int 1, .int 1, .int 0, .int 0])) :: w) rfl dX9_init_11 (fun H locs hB => ?_)
  refine lv_aload_n hx hb dX9_init_14 rfl (lv_at hl 0 rfl) ?_
  refine lv_aload_n hx hb dX9_init_15 rfl (lv_at hl 1 rfl) ?_
  obtain ⟨F3, hd4⟩ := ex1 (D_X7_copy R C f)
  replace hR := bnd1_use hd4 hR
  refine call_V (n := 0) (k0 := (k1 + 1)) (As := []) (rest := [.ref s_0]) hX hB (k_X7_copy κ l ((s_0, .inr (10, [.null, .null, .null, .int 1, .int 1, .int 0, .int 0])) :: w) (k1 + 1) (k2 + 1) g b R C f h1 h2 hs F3 hd4) ⟨rfl, yk_X7_copy⟩ wm_6_182 wm_6_24 wm_6_25 wm_1_7 wm_6_26 ⟨Nat.le_of_ble_eq_true rfl, Nat.le_of_ble_eq_true rfl⟩ ⟨Nat.le_of_ble_eq_true rfl, Nat.le_of_ble_eq_true rfl⟩ h1 rfl rfl rfl hl.1 rfl (Nat.le_of_ble_eq_true rfl) dX9_init_16 (fun o w' H locs hp hB => ?_)
  obtain ⟨q1, q2, rfl, hf5, hw9⟩ := hp
  replace hB : Bd κ A s (lA κ q2 (R * 5) F3 :: gO q1 R C q2 :: (s_0, .inr (10, [.null, .null, .null, .int 1, .int 1, .int 0, .int 0])) :: w) H locs := by rw [hw9] at hB; exact hB
  refine W.eq (g2 := F0 m 19 ls [.ref q1, .ref s_0]) rfl ?_
  refine pfF (ty := .object "GridmenderModel$Grid") (k0 := 2) hX hnm hB rfl rfl in9 tyX9_ok nmX9 0 (by decide) wm_6_221 rfl rfl rfl rfl rfl rfl (Nat.le_of_ble_eq_true rfl) (w1 := lA κ q2 (R * 5) F3 :: gO q1 R C q2 :: (s_0, .inr (10, [.ref q1, .null, .null, .int 1, .int 1, .int 0, .int 0])) :: w) rfl dX9_init_19 (fun H locs hB => ?_)
  refine lv_aload_n hx hb dX9_init_22 rfl (lv_at hl 0 rfl) ?_
  refine lv_aload_n hx hb dX9_init_23 rfl (lv_at hl 1 rfl) ?_
  refine gf (k0 := k1 + 3) hX hB h1 rfl in7 0 (by decide) wm_5_147 rfl rfl dX9_init_24 ?_
  obtain ⟨F8, hd9⟩ := ex1 (D_X7_unit R)
  replace hR := bnd1_use hd9 hR
  refine call_S (n := 1) (As := [.int (nI R)]) (rest := [.ref s_0]) hX hB (k_X7_unit κ l (lA κ q2 (R * 5) F3 :: gO q1 R C q2 :: (s_0, .inr (10, [.ref q1, .null, .null, .int 1, .int 1, .int 0, .int 0])) :: w) (nI R) R rfl (by omega) (by omega) F8 hd9) yk_X7_unit wm_6_183 wm_5_217 wm_1_7 wm_5_218 ⟨Nat.le_of_ble_eq_true rfl, Nat.le_of_ble_eq_true rfl⟩ ⟨Nat.le_of_ble_eq_true rfl, Nat.le_of_ble_eq_true rfl⟩ rfl hl.1 rfl (Nat.le_of_ble_eq_true rfl) dX9_init_27 (fun o w' H locs hp hB => ?_)
  obtain ⟨q6, q7, rfl, hf10, hw9⟩ := hp
  replace hB : Bd κ A s (lA κ q7 (R * 5) F8 :: gO q6 R R q7 :: lA κ q2 (R * 5) F3 :: gO q1 R C q2 :: (s_0, .inr (10, [.ref q1, .null, .null, .int 1, .int 1, .int 0, .int 0])) :: w) H locs := by rw [hw9] at hB; exact hB
  refine W.eq (g2 := F0 m 30 ls [.ref q6, .ref s_0]) rfl ?_
  refine pfF (ty := .object "GridmenderModel$Grid") (k0 := 4) hX hnm hB rfl rfl in9 tyX9_ok nmX9 1 (by decide) wm_6_223 rfl rfl rfl rfl rfl rfl (Nat.le_of_ble_eq_true rfl) (w1 := lA κ q7 (R * 5) F8 :: gO q6 R R q7 :: lA κ q2 (R * 5) F3 :: gO q1 R C q2 :: (s_0, .inr (10, [.ref q1, .ref q6, .null, .int 1, .int 1, .int 0, .int 0])) :: w) rfl dX9_init_30 (fun H locs hB => ?_)
  refine lv_aload_n hx hb dX9_init_33 rfl (lv_at hl 0 rfl) ?_
  refine lv_aload_n hx hb dX9_init_34 rfl (lv_at hl 1 rfl) ?_
  refine gf (k0 := k1 + 5) hX hB h1 rfl in7 1 (by decide) wm_5_150 rfl rfl dX9_init_35 ?_
  obtain ⟨F13, hd14⟩ := ex1 (D_X7_unit C)
  replace hR := bnd1_use hd14 hR
  refine call_S (n := 1) (As := [.int (nI C)]) (rest := [.ref s_0]) hX hB (k_X7_unit κ l (lA κ q7 (R * 5) F8 :: gO q6 R R q7 :: lA κ q2 (R * 5) F3 :: gO q1 R C q2 :: (s_0, .inr (10, [.ref q1, .ref q6, .null, .int 1, .int 1, .int 0, .int 0])) :: w) (nI C) C rfl (by omega) (by omega) F13 hd14) yk_X7_unit wm_6_183 wm_5_217 wm_1_7 wm_5_218 ⟨Nat.le_of_ble_eq_true rfl, Nat.le_of_ble_eq_true rfl⟩ ⟨Nat.le_of_ble_eq_true rfl, Nat.le_of_ble_eq_true rfl⟩ rfl hl.1 rfl (Nat.le_of_ble_eq_true rfl) dX9_init_38 (fun o w' H locs hp hB => ?_)
  obtain ⟨q11, q12, rfl, hf15, hw9⟩ := hp
  replace hB : Bd κ A s (lA κ q12 (C * 5) F13 :: gO q11 C C q12 :: lA κ q7 (R * 5) F8 :: gO q6 R R q7 :: lA κ q2 (R * 5) F3 :: gO q1 R C q2 :: (s_0, .inr (10, [.ref q1, .ref q6, .null, .int 1, .int 1, .int 0, .int 0])) :: w) H locs := by rw [hw9] at hB; exact hB
  refine W.eq (g2 := F0 m 41 ls [.ref q11, .ref s_0]) rfl ?_
  refine pfF (ty := .object "GridmenderModel$Grid") (k0 := 6) hX hnm hB rfl rfl in9 tyX9_ok nmX9 2 (by decide) wm_6_225 rfl rfl rfl rfl rfl rfl (Nat.le_of_ble_eq_true rfl) (w1 := lA κ q12 (C * 5) F13 :: gO q11 C C q12 :: lA κ q7 (R * 5) F8 :: gO q6 R R q7 :: lA κ q2 (R * 5) F3 :: gO q1 R C q2 :: (s_0, .inr (10, [.ref q1, .ref q6, .ref q11, .int 1, .int 1, .int 0, .int 0])) :: w) rfl dX9_init_41 (fun H locs hB => ?_)
  refine lv_iconst (v := 1) hx hb dX9_init_44 (by decide) ?_
  refine lv_istore_n (lv' := [(2, .int 1), (0, .ref s_0), (1, .ref g)]) hx hb dX9_init_45 rfl hl (by decide) rfl (fun ls hl => ?_)
  refine lv_iconst (v := 0) hx hb dX9_init_46 (by decide) ?_
  refine lv_istore_n (lv' := [(3, .int 0), (2, .int 1), (0, .ref s_0), (1, .ref g)]) hx hb dX9_init_47 rfl hl (by decide) rfl (fun ls hl => ?_)
  have lp48 : ∀ (nn48 : Nat) (y3_48 : Nat) (y2_48 : Int32) (fq12_48 : Nat → Int64) (fq2_48 : Nat → Int64) (fq7_48 : Nat → Int64) (i1_48 : Int32) (i2_48 : Int32) (i3_48 : Int32) (i4_48 : Int32) (H : Heap) (locs : List Loc), (y3_48 ≤ R) → (RIf R C y3_48 y2_48 i3_48 fq2_48 i4_48) → R + 1 - y3_48 < nn48 → D_X9_init_48 R C nn48 y3_48 y2_48 fq12_48 fq2_48 fq7_48 i1_48 i2_48 i3_48 i4_48 = (o_F1, o_F2, o_F3, o_S1, o_S2, o_K, o_G1) → Bd κ A s (lA κ q12 (C * 5) fq12_48 :: gO q11 C C q12 :: lA κ q7 (R * 5) fq7_48 :: gO q6 R R q7 :: lA κ q2 (R * 5) fq2_48 :: gO q1 R C q2 :: (s_0, .inr (10, [.ref q1, .ref q6, .ref q11, .int i1_48, .int i2_48, .int i3_48, .int i4_48])) :: w) H locs → ∀ ls : Array Slot, lv_has ls 4 [(3, .int (nI y3_48)), (2, .int y2_48), (0, .ref s_0), (1, .ref g)] → W p l e (Rm 4 98 6 69) s m args below meth c H locs (6) (69) Q (F0 m 48 ls []) := by
    intro nn48
    induction nn48 with
    | zero => intro y3_48 y2_48 fq12_48 fq2_48 fq7_48 i1_48 i2_48 i3_48 i4_48 H locs hn3 hRI hμ; exact absurd hμ (Nat.not_lt_zero _)
    | succ nn48 ih48 =>
      intro y3_48 y2_48 fq12_48 fq2_48 fq7_48 i1_48 i2_48 i3_48 i4_48 H locs hn3 hRI hμ48 hR hB ls hl
      replace hR := (D_X9_init_48_s).symm.trans hR
      refine lv_iload_n hx hb dX9_init_48 rfl (lv_at hl 1 rfl) ?_
      refine lv_if_eq (tgt := 104) hx hb dX9_init_49 (by decide) (fun c46 => ?_) (fun c46 => ?_)
      · replace hR := ifp c46 hR
        obtain ⟨kk, hk1, hk2, hk3, hk4⟩ := hRI.2
        subst hk1
        replace hR := nm_use (nI_clamp (by omega)).symm hR
        rw [← hQ]
        exact end_v hX hB hA3 rfl (by obtain ⟨rfl, rfl, rfl, rfl, rfl, rfl, rfl⟩ := pr7 hR; exact ⟨q11, q12, q6, q7, q1, q2, rfl, ⟨hk2, hk3, hk4⟩, rfl⟩) (Nat.le_of_ble_eq_true rfl) (Nat.le_of_ble_eq_true rfl) dX9_init_104
      · replace hR := ifn c46 hR
        have hM := c46
        refine lv_iload_n hx hb dX9_init_52 rfl (lv_at hl 0 rfl) ?_
        refine lv_aload_n hx hb dX9_init_53 rfl (lv_at hl 2 rfl) ?_
        refine gf (k0 := 6) hX hB rfl rfl in9 0 (by decide) wm_6_221 rfl rfl dX9_init_54 ?_
        refine gf (k0 := 5) hX hB rfl rfl in7 0 (by decide) wm_5_147 rfl rfl dX9_init_57 ?_
        refine lv_icmp_ge (tgt := 104) hx hb dX9_init_60 (by decide) (fun c47 => ?_) (fun c47 => ?_)
        · rw [nleP (a := R) (b := y3_48) (by omega) (by omega)] at c47
          replace hR := ifp c47 hR
          obtain ⟨kk, hk1, hk2, hk3, hk4⟩ := hRI.2
          subst hk1
          replace hR := nm_use (nI_clamp (by omega)).symm hR
          rw [← hQ]
          exact end_v hX hB hA3 rfl (by obtain ⟨rfl, rfl, rfl, rfl, rfl, rfl, rfl⟩ := pr7 hR; exact ⟨q11, q12, q6, q7, q1, q2, rfl, ⟨hk2, hk3, hk4⟩, rfl⟩) (Nat.le_of_ble_eq_true rfl) (Nat.le_of_ble_eq_true rfl) dX9_init_104
        · rw [nleP (a := R) (b := y3_48) (by omega) (by omega)] at c47
          replace hR := ifn c47 hR
          refine lv_iload_n hx hb dX9_init_63 rfl (lv_at hl 0 rfl) ?_
          refine lv_aload_n hx hb dX9_init_64 rfl (lv_at hl 2 rfl) ?_
          refine gf (k0 := 6) hX hB rfl rfl in9 0 (by decide) wm_6_221 rfl rfl dX9_init_65 ?_
          refine gf (k0 := 5) hX hB rfl rfl in7 1 (by decide) wm_5_150 rfl rfl dX9_init_68 ?_
          refine lv_icmp_ge (tgt := 104) hx hb dX9_init_71 (by decide) (fun c48 => ?_) (fun c48 => ?_)
          · rw [nleP (a := C) (b := y3_48) (by omega) (by omega)] at c48
            replace hR := ifp c48 hR
            obtain ⟨kk, hk1, hk2, hk3, hk4⟩ := hRI.2
            subst hk1
            replace hR := nm_use (nI_clamp (by omega)).symm hR
            rw [← hQ]
            exact end_v hX hB hA3 rfl (by obtain ⟨rfl, rfl, rfl, rfl, rfl, rfl, rfl⟩ := pr7 hR; exact ⟨q11, q12, q6, q7, q1, q2, rfl, ⟨hk2, hk3, hk4⟩, rfl⟩) (Nat.le_of_ble_eq_true rfl) (Nat.le_of_ble_eq_true rfl) dX9_init_104
          · rw [nleP (a := C) (b := y3_48) (by omega) (by omega)] at c48
            replace hR := ifn c48 hR
            refine lv_aload_n hx hb dX9_init_74 rfl (lv_at hl 2 rfl) ?_
            refine lv_iload_n hx hb dX9_init_75 rfl (lv_at hl 0 rfl) ?_
            obtain ⟨x49, F50, F51, F52, S53, S54, G55, hd56⟩ := ex7 (D_X9_isCleared R C fq12_48 fq7_48 fq2_48 i1_48 i2_48 i3_48 i4_48 y3_48)
            replace hR := bnd7_use hd56 hR
            refine call_V (n := 1) (k0 := 6) (As := [.int (nI y3_48)]) (rest := []) hX hB (k_X9_isCleared κ l (w) s_0 q11 q12 q6 q7 q1 q2 R C fq12_48 fq7_48 fq2_48 i1_48 i2_48 i3_48 i4_48 (nI y3_48) y3_48 ⟨by omega, by omega, by omega, by omega⟩ (by omega) rfl (by omega) ((hRI.1 hM).2.2) ((hRI.1 hM).2.1) x49 F50 F51 F52 S53 S54 G55 hd56) ⟨rfl, yk_X9_isCleared⟩ wm_6_184 wm_6_186 wp_41 wm_1_16 wm_6_187 ⟨Nat.le_of_ble_eq_true rfl, Nat.le_of_ble_eq_true rfl⟩ ⟨Nat.le_of_ble_eq_true rfl, Nat.le_of_ble_eq_true rfl⟩ rfl rfl rfl rfl hl.1 rfl (Nat.le_of_ble_eq_true rfl) dX9_init_76 (fun o w' H locs hp hB => ?_)
            obtain ⟨rfl, hf57, hf58, hw9⟩ := hp
            replace hB : Bd κ A s (lA κ q12 (C * 5) F50 :: gO q11 C C q12 :: lA κ q7 (R * 5) F51 :: gO q6 R R q7 :: lA κ q2 (R * 5) F52 :: gO q1 R C q2 :: (s_0, .inr (10, [.ref q1, .ref q6, .ref q11, .int S53, .int S54, .int i3_48, .int G55])) :: w) H locs := by rw [hw9] at hB; exact hB
            rcases hf57 with rfl | rfl
            · replace hR := ifp rfl hR
              refine W.eq (g2 := F0 m 79 ls [.int 0]) rfl ?_
              refine lv_istore_n (lv' := [(2, .int 0), (3, .int (nI y3_48)), (0, .ref s_0), (1, .ref g)]) hx hb dX9_init_79 rfl hl (by decide) rfl (fun ls hl => ?_)
              refine lv_aload_n hx hb dX9_init_80 rfl (lv_at hl 2 rfl) ?_
              refine lv_dup hx hb dX9_init_81 rfl ?_
              refine gf (k0 := 6) hX hB rfl rfl in9 5 (by decide) wm_6_231 rfl rfl dX9_init_82 ?_
              refine lv_iload_n hx hb dX9_init_85 rfl (lv_at hl 0 rfl) ?_
              refine lv_if_eq (tgt := 93) hx hb dX9_init_86 (by decide) (fun _ => ?_) (fun c59 => False.elim (by revert c59; decide))
              refine lv_iconst (v := 0) hx hb dX9_init_93 (by decide) ?_
              refine lv_iadd hx hb dX9_init_94 ?_
              refine pf (ty := .int) (k0 := 6) hX hB rfl rfl in9 tyX9_ok nmX9 5 (by decide) wm_6_231 rfl rfl rfl rfl rfl (Nat.le_of_ble_eq_true rfl) (w1 := lA κ q12 (C * 5) F50 :: gO q11 C C q12 :: lA κ q7 (R * 5) F51 :: gO q6 R R q7 :: lA κ q2 (R * 5) F52 :: gO q1 R C q2 :: (s_0, .inr (10, [.ref q1, .ref q6, .ref q11, .int S53, .int S54, .int (i3_48 + 0), .int G55])) :: w) rfl dX9_init_95 (fun H locs hB => ?_)
              refine lv_iinc (v := nI (y3_48 + 1)) (lv' := [(3, .int (nI (y3_48 + 1))), (2, .int 0), (0, .ref s_0), (1, .ref g)]) hx hb dX9_init_98 hl (k := 1) rfl (nI_add y3_48 1) (by decide) rfl (fun ls hl => ?_)
              refine lv_goto (tgt := 48) hx hb dX9_init_101 (by decide) ?_
              exact ih48 (y3_48 + 1) 0 F50 F52 F51 S53 S54 (i3_48 + 0) G55 _ _ (by omega) (RI_2 hRI hs2 hM (by omega) (by omega) hf58) (by omega) hR hB _ hl
            · replace hR := ifn (by decide) hR
              refine W.eq (g2 := F0 m 79 ls [.int 1]) rfl ?_
              refine lv_istore_n (lv' := [(2, .int 1), (3, .int (nI y3_48)), (0, .ref s_0), (1, .ref g)]) hx hb dX9_init_79 rfl hl (by decide) rfl (fun ls hl => ?_)
              refine lv_aload_n hx hb dX9_init_80 rfl (lv_at hl 2 rfl) ?_
              refine lv_dup hx hb dX9_init_81 rfl ?_
              refine gf (k0 := 6) hX hB rfl rfl in9 5 (by decide) wm_6_231 rfl rfl dX9_init_82 ?_
              refine lv_iload_n hx hb dX9_init_85 rfl (lv_at hl 0 rfl) ?_
              refine lv_if_eq (tgt := 93) hx hb dX9_init_86 (by decide) (fun c60 => False.elim (by revert c60; decide)) (fun _ => ?_)
              refine lv_iconst (v := 1) hx hb dX9_init_89 (by decide) ?_
              refine lv_goto (tgt := 94) hx hb dX9_init_90 (by decide) ?_
              refine lv_iadd hx hb dX9_init_94 ?_
              refine pf (ty := .int) (k0 := 6) hX hB rfl rfl in9 tyX9_ok nmX9 5 (by decide) wm_6_231 rfl rfl rfl rfl rfl (Nat.le_of_ble_eq_true rfl) (w1 := lA κ q12 (C * 5) F50 :: gO q11 C C q12 :: lA κ q7 (R * 5) F51 :: gO q6 R R q7 :: lA κ q2 (R * 5) F52 :: gO q1 R C q2 :: (s_0, .inr (10, [.ref q1, .ref q6, .ref q11, .int S53, .int S54, .int (i3_48 + 1), .int G55])) :: w) rfl dX9_init_95 (fun H locs hB => ?_)
              refine lv_iinc (v := nI (y3_48 + 1)) (lv' := [(3, .int (nI (y3_48 + 1))), (2, .int 1), (0, .ref s_0), (1, .ref g)]) hx hb dX9_init_98 hl (k := 1) rfl (nI_add y3_48 1) (by decide) rfl (fun ls hl => ?_)
              refine lv_goto (tgt := 48) hx hb dX9_init_101 (by decide) ?_
              exact ih48 (y3_48 + 1) 1 F50 F52 F51 S53 S54 (i3_48 + 1) G55 _ _ (by omega) (RI_1 hRI hs2 hM (by omega) (by omega) hf58) (by omega) hR hB _ hl
  exact lp48 _ 0 1 F13 F3 F8 1 1 0 0 _ _ (by omega) (RI_0 (fun k hk => by rw [hf5 k hk]; exact hng k hk) rfl) (Nat.lt_succ_self _) hR hB _ hl
end
