/-! ===== Rows over the plumbing: fields, arrays, ends; the world of the class ===== -/
section GMR
variable {p : Program} {l : Launch} {e : Env} {R : Room} {s : State} {m : MethodId} {args : Array Value} {below : List Frame} {meth : Method} {c : Code} {H : Heap} {locs : List Loc} {cells slots : Nat} {Q : State → Prop}
variable {κ : Kt} {cc : ByteArray} {nL : Nat} {own : String} {ret : Option FieldType} {A : Nat → Prop} {w : va_W}
variable {pc : Nat} {ls : Array Slot} {rest : List Value}
theorem gf {k0 ci N b index : Nat} {C : String} {T : u_T} {fs : List Value} (hX : Cx κ p m c cc nL s args own meth ret A) (hB : Bd κ A s w H locs) (he : w[k0]? = some (b, .inr (ci, fs))) (hc : vwCl[ci]? = some (C, T, N)) (hin : ∀ x ∈ u_ws C T N, x ∈ wAll) (k : Nat) (hk : k < N) (hl : Cond.fieldLink own index C (T k).2.1 (T k).2.2.1 ∈ wAll) (hs : (T k).1 = C) {v : Value} (hv : fs[k]? = some v) (hdg : decode cc pc = .ok (.getfield index, 3))
    (kk : W p l e R s m args below meth c H locs cells slots Q (F0 m (pc + 3) ls (v :: rest))) : W p l e R s m args below meth c H locs cells slots Q (F0 m pc ls (.ref b :: rest)) :=
  va_get (ref := C) hX.1.1 hX.1.2.1 hX.1.2.2.2.2 hin hX.1.2.2.2.1 hX.2.1.1 hB.1 k0 he hc k hk (hX.1.2.2.2.2 _ hl) (fun x h => by rw [hs] at h; exact h) hv hdg kk
theorem gfN {k0 ci N b index : Nat} {C host : String} {T : u_T} {fs : List Value} (hX : Cx κ p m c cc nL s args own meth ret A) (hB : Bd κ A s w H locs) (he : w[k0]? = some (b, .inr (ci, fs))) (hc : vwCl[ci]? = some (C, T, N)) (hin : ∀ x ∈ u_ws C T N, x ∈ wAll) (k : Nat) (hk : k < N) (hl : Cond.fieldLinkNest own index C (T k).2.1 (T k).2.2.1 host ∈ wNest) (hs : (T k).1 = C) {v : Value} (hv : fs[k]? = some v) (hdg : decode cc pc = .ok (.getfield index, 3))
    (kk : W p l e R s m args below meth c H locs cells slots Q (F0 m (pc + 3) ls (v :: rest))) : W p l e R s m args below meth c H locs cells slots Q (F0 m pc ls (.ref b :: rest)) :=
  va_getN (ref := C) (host := host) hX.1.1 hX.1.2.1 hX.1.2.2.2.2 hin hX.1.2.2.2.1 hX.2.1.1 hB.1 k0 he hc k hk (va_Nw.use rfl (hX.2.1.2.1.use hl)) (fun x h => by rw [hs] at h; exact h) hv hdg kk
theorem pf {k0 ci N b index : Nat} {C : String} {T : u_T} {fs : List Value} {ty : FieldType} {v : Value} (hX : Cx κ p m c cc nL s args own meth ret A) (hB : Bd κ A s w H locs) (he : w[k0]? = some (b, .inr (ci, fs))) (hc : vwCl[ci]? = some (C, T, N)) (hin : ∀ x ∈ u_ws C T N, x ∈ wAll) {ty0 : Nat → FieldType} (hty : ∀ k, k < N → parseFieldDescriptor (T k).2.2.1 = some (ty0 k)) (hnm : ∀ a, a < N → ∀ b, b < N → a ≠ b → (T a).2.1 ≠ (T b).2.1) (k : Nat) (hk : k < N) (hl : Cond.fieldLink own index C (T k).2.1 (T k).2.2.1 ∈ wAll) (hs : (T k).1 = C) (hfin : (T k).2.2.2 = false) (hd : ty0 k = ty) (hn : narrow ty v = v) (hfit : fits ty v = true) (hlen : k < fs.length) {w1 : va_W} (hw : w.set k0 (b, .inr (ci, fs.set k v)) = w1) (hdg : decode cc pc = .ok (.putfield index, 3))
    (kk : ∀ (H1 : Heap) (locs1 : List Loc), Bd κ A s w1 H1 locs1 → W p l e R s m args below meth c H1 locs1 cells slots Q (F0 m (pc + 3) ls rest)) : W p l e R s m args below meth c H locs cells slots Q (F0 m pc ls (v :: .ref b :: rest)) := by
  subst hw
  exact va_put (ref := C) (ty := ty) hX.1.1 hX.1.2.1 hX.1.2.2.2.2 hin ty0 hty hnm hX.1.2.2.2.1 hX.2.1.1 hB.1 hB.2.1 hB.2.2 k0 he hc k hk (hX.1.2.2.2.2 _ hl) (fun x h => by rw [hs] at h; exact h) hfin (by rw [hty k hk, hd]) hn hfit hlen hdg (fun H1 locs1 h1 h2 h3 => kk H1 locs1 ⟨h1, h2, h3⟩)
theorem lald {k0 b n : Nat} {f : Nat → Int64} {i : Int32} (hX : Cx κ p m c cc nL s args own meth ret A) (hB : Bd κ A s w H locs) (he : w[k0]? = some (b, .inl (κ.2.1 0, n, .inr (.inl f)))) (hin : vp_in i n) (hdg : decode cc pc = .ok (.laload, 1))
    (kk : W p l e R s m args below meth c H locs cells slots Q (F0 m (pc + 1) ls (.long (f i.toNatClampNeg) :: rest))) : W p l e R s m args below meth c H locs cells slots Q (F0 m pc ls (.int i :: .ref b :: rest)) :=
  va_lald (tys := tysK κ) hX.1.1 hX.1.2.1 hX.2.1.1 hB.1 k0 0 he rfl hin hdg kk
theorem last {k0 b n : Nat} {f : Nat → Int64} {i : Int32} {x : Int64} (hX : Cx κ p m c cc nL s args own meth ret A) (hB : Bd κ A s w H locs) (he : w[k0]? = some (b, .inl (κ.2.1 0, n, .inr (.inl f)))) (hin : vp_in i n) {w1 : va_W} (hw : w.set k0 (b, .inl (κ.2.1 0, n, .inr (.inl (vp_updL f i.toNatClampNeg x)))) = w1) (hdg : decode cc pc = .ok (.lastore, 1))
    (kk : ∀ (H1 : Heap) (locs1 : List Loc), Bd κ A s w1 H1 locs1 → W p l e R s m args below meth c H1 locs1 cells slots Q (F0 m (pc + 1) ls rest)) : W p l e R s m args below meth c H locs cells slots Q (F0 m pc ls (.long x :: .int i :: .ref b :: rest)) := by
  subst hw
  exact va_last (tys := tysK κ) hX.1.1 hX.1.2.1 hX.2.1.1 hB.1 hB.2.1 hB.2.2 k0 0 he rfl hin hdg (fun H1 locs1 h1 h2 h3 => kk H1 locs1 ⟨h1, h2, h3⟩)
theorem alenL {k0 b n : Nat} {f : Nat → Int64} {v : Int32} (hX : Cx κ p m c cc nL s args own meth ret A) (hB : Bd κ A s w H locs) (he : w[k0]? = some (b, .inl (κ.2.1 0, n, .inr (.inl f)))) (hv : Int32.ofNat n = v) (hdg : decode cc pc = .ok (.arraylength, 1))
    (kk : W p l e R s m args below meth c H locs cells slots Q (F0 m (pc + 1) ls (.int v :: rest))) : W p l e R s m args below meth c H locs cells slots Q (F0 m pc ls (.ref b :: rest)) :=
  va_alen (tys := tysK κ) (ty := .long) hX.1.1 hX.1.2.1 hX.2.1.1 hB.1 k0 0 he rfl hv hdg kk
theorem aaldG {k0 b n : Nat} {f : Nat → Option Nat} {i : Int32} (hX : Cx κ p m c cc nL s args own meth ret A) (hB : Bd κ A s w H locs) (he : w[k0]? = some (b, .inl (κ.2.1 1, n, .inr (.inr (.inr (.inr f)))))) (hin : vp_in i n) {a : Nat} (hv : f i.toNatClampNeg = some a) (hdg : decode cc pc = .ok (.aaload, 1))
    (kk : W p l e R s m args below meth c H locs cells slots Q (F0 m (pc + 1) ls (.ref a :: rest))) : W p l e R s m args below meth c H locs cells slots Q (F0 m pc ls (.int i :: .ref b :: rest)) := by
  refine va_aldq (tys := tysK κ) hX.1.1 hX.1.2.1 hX.2.1.1 hB.1 k0 1 he rfl hin hdg ?_
  rw [hv]
  exact kk
/-- the ends -/
theorem end_i {w0 : va_W} {post : Option Value → va_W → Prop} {mc ms : Nat} {v : Int32} {ty : FieldType} (hX : Cx κ p m c cc nL s args own meth ret A) (hB : Bd κ A s w H locs) (hA3 : ∀ q, A q → Fw w0 q ∨ s.heap.size ≤ q) (hr : ret = some ty) (hn : narrow ty (.int v) = .int v) (hp : post (some (.int v)) w) (hc : cells ≤ mc) (hs : slots ≤ ms) (hdg : decode cc pc = .ok (.ireturn, 1)) :
    W p l e R s m args below meth c H locs cells slots (Zm κ below w0 post args s mc ms) (F0 m pc ls [.int v]) := by
  refine W.widen hc hs (W.zret hX.1.1 hX.1.2.1 (hX.2.2.2.2.1.trans hr) hn (fun t ht hW => ⟨⟨_, w, rfl, hp, by rw [ht]; exact hB.1, hB.2.1.weaken (fun _ q _ h => hA3 q.1 h)⟩, ?_⟩) (fun q hq => hA3 _ (hB.2.2.2.2 q hq)) hdg (hlocks := hX.2.2.2.2.2))
  exact ⟨by rw [ht]; exact hB.2.2.1, fun q h1 h2 => by rw [ht]; exact hB.2.2.2.1 q h1 (fun h => h2 (hA3 q h))⟩
theorem end_l {w0 : va_W} {post : Option Value → va_W → Prop} {mc ms : Nat} {v : Int64} (hX : Cx κ p m c cc nL s args own meth ret A) (hB : Bd κ A s w H locs) (hA3 : ∀ q, A q → Fw w0 q ∨ s.heap.size ≤ q) (hr : ret = some .long) (hp : post (some (.long v)) w) (hc : cells ≤ mc) (hs : slots ≤ ms) (hdg : decode cc pc = .ok (.lreturn, 1)) :
    W p l e R s m args below meth c H locs cells slots (Zm κ below w0 post args s mc ms) (F0 m pc ls [.long v]) := by
  refine W.widen hc hs (W.lret hX.1.1 hX.1.2.1 (hX.2.2.2.2.1.trans hr) (fun t ht hW => ⟨⟨_, w, rfl, hp, by rw [ht]; exact hB.1, hB.2.1.weaken (fun _ q _ h => hA3 q.1 h)⟩, ?_⟩) (fun q hq => hA3 _ (hB.2.2.2.2 q hq)) hdg (hlocks := hX.2.2.2.2.2))
  exact ⟨by rw [ht]; exact hB.2.2.1, fun q h1 h2 => by rw [ht]; exact hB.2.2.2.1 q h1 (fun h => h2 (hA3 q h))⟩
theorem end_v {w0 : va_W} {post : Option Value → va_W → Prop} {mc ms : Nat} (hX : Cx κ p m c cc nL s args own meth ret A) (hB : Bd κ A s w H locs) (hA3 : ∀ q, A q → Fw w0 q ∨ s.heap.size ≤ q) (hr : ret = none) (hp : post none w) (hc : cells ≤ mc) (hs : slots ≤ ms) (hdg : decode cc pc = .ok (.return_, 1)) :
    W p l e R s m args below meth c H locs cells slots (Zm κ below w0 post args s mc ms) (F0 m pc ls []) := by
  refine W.widen hc hs (W.vret hX.1.1 hX.1.2.1 (hX.2.2.2.2.1.trans hr) (fun t ht hW => ⟨⟨_, w, rfl, hp, by rw [ht]; exact hB.1, hB.2.1.weaken (fun _ q _ h => hA3 q.1 h)⟩, ?_⟩) (fun q hq => hA3 _ (hB.2.2.2.2 q hq)) hdg (hlocks := hX.2.2.2.2.2))
  exact ⟨by rw [ht]; exact hB.2.2.1, fun q h1 h2 => by rw [ht]; exact hB.2.2.2.1 q h1 (fun h => h2 (hA3 q h))⟩
end GMR
/-- the cells of the class: 0 the object, 1 its tables, 2 row steps, 3 steps, 4 equation, 5 row numbers, 6 + 2 i and 7 + 2 i the grid i (0 to 3 the tables, 4 draft, 5 check, 6 and 7 of the row steps, 8 to 10 of the steps, 11 to 14 of the equation) -/
def cwE (a : Nat → Nat) (cy : Nat → ClassId) (r q : Nat → Int32) (f : Nat → Nat → Int64) (k : Nat) : va_E :=
  if k = 0 then .inr (6, [.ref (a 1), .ref (a 14), .ref (a 16), .ref (a 2), .ref (a 3), .ref (a 4), .ref (a 5), .int (q 2), .int (q 3), .int (q 4)])
  else if k = 1 then .inl (cy 1, 4, .inr (.inr (.inr (.inr (fun j => some (a (6 + 2 * j)))))))
  else if k = 2 then .inr (5, [.ref (a 18), .ref (a 20), .int (q 0)])
  else if k = 3 then .inr (2, [.ref (a 22), .ref (a 24), .ref (a 26), .int (q 1)])
  else if k = 4 then .inr (3, [.ref (a 28), .ref (a 30), .ref (a 32), .ref (a 34)])
  else if k = 5 then .inl (cy 0, 4, .inr (.inl (f 15)))
  else if k % 2 = 0 then .inr (4, [.ref (a (k + 1)), .int (r (k - 6)), .int (r (k - 5))])
  else .inl (cy 0, 20, .inr (.inl (f ((k - 7) / 2))))
def cw (κ : Kt) (a : Nat → Nat) (r q : Nat → Int32) (f : Nat → Nat → Int64) : va_W := (List.range 36).map (fun k => (a k, cwE a κ.2.1 r q f k))
theorem cw_at {κ : Kt} {a : Nat → Nat} {r q : Nat → Int32} {f : Nat → Nat → Int64} {k : Nat} (hk : k < 36) {e : va_E} (he : cwE a κ.2.1 r q f k = e) : (cw κ a r q f)[k]? = some (a k, e) := by
  subst he
  simp [cw, hk]
theorem cw_set {κ : Kt} {a : Nat → Nat} {r r' q q' : Nat → Int32} {f f' : Nat → Nat → Int64} {k : Nat} {e : va_E} (h : ∀ j, j < 36 → (if j = k then e else cwE a κ.2.1 r q f j) = cwE a κ.2.1 r' q' f' j) : (cw κ a r q f).set k (a k, e) = cw κ a r' q' f' := by
  apply List.ext_getElem?
  intro j
  simp only [cw, List.getElem?_set, List.length_map, List.length_range, List.getElem?_map, List.getElem?_range]
  by_cases hj : j < 36
  · have h1 := h j hj
    by_cases e1 : k = j
    · subst e1
      simp only [if_true, hj] at h1 ⊢
      simp [h1, List.getElem?_range hj]
    · rw [if_neg (fun h => e1 h.symm)] at h1
      simp [e1, hj, h1]
  · by_cases e1 : k = j
    · subst e1; simp [hj]
    · simp [e1, hj]
theorem cwE_G {a : Nat → Nat} {cy : Nat → ClassId} {r q : Nat → Int32} {f : Nat → Nat → Int64} (i : Nat) : cwE a cy r q f (6 + 2 * i) = .inr (4, [.ref (a (7 + 2 * i)), .int (r (2 * i)), .int (r (2 * i + 1))]) := by
  unfold cwE
  rw [if_neg (by omega), if_neg (by omega), if_neg (by omega), if_neg (by omega), if_neg (by omega), if_neg (by omega), if_pos (by omega), show 6 + 2 * i + 1 = 7 + 2 * i by omega, show 6 + 2 * i - 6 = 2 * i by omega, show 6 + 2 * i - 5 = 2 * i + 1 by omega]
theorem cwE_C {a : Nat → Nat} {cy : Nat → ClassId} {r q : Nat → Int32} {f : Nat → Nat → Int64} (i : Nat) : cwE a cy r q f (7 + 2 * i) = .inl (cy 0, 20, .inr (.inl (f i))) := by
  unfold cwE
  rw [if_neg (by omega), if_neg (by omega), if_neg (by omega), if_neg (by omega), if_neg (by omega), if_neg (by omega), if_neg (by omega), show (7 + 2 * i - 7) / 2 = i by omega]
section CWR
variable {κ : Kt} {a : Nat → Nat} {r q : Nat → Int32} {f : Nat → Nat → Int64} {i : Nat}
theorem cwG (hi : i < 15) : (cw κ a r q f)[6 + 2 * i]? = some (a (6 + 2 * i), .inr (4, [.ref (a (7 + 2 * i)), .int (r (2 * i)), .int (r (2 * i + 1))])) := cw_at (by omega) (cwE_G i)
theorem cwC (hi : i < 15) : (cw κ a r q f)[7 + 2 * i]? = some (a (7 + 2 * i), .inl (κ.2.1 0, 20, .inr (.inl (f i)))) := cw_at (by omega) (cwE_C i)
theorem cw0 : (cw κ a r q f)[0]? = some (a 0, .inr (6, [.ref (a 1), .ref (a 14), .ref (a 16), .ref (a 2), .ref (a 3), .ref (a 4), .ref (a 5), .int (q 2), .int (q 3), .int (q 4)])) := cw_at (by decide) rfl
theorem cw1 : (cw κ a r q f)[1]? = some (a 1, .inl (κ.2.1 1, 4, .inr (.inr (.inr (.inr (fun j => some (a (6 + 2 * j)))))))) := cw_at (by decide) rfl
theorem cw2 : (cw κ a r q f)[2]? = some (a 2, .inr (5, [.ref (a 18), .ref (a 20), .int (q 0)])) := cw_at (by decide) rfl
theorem cw3 : (cw κ a r q f)[3]? = some (a 3, .inr (2, [.ref (a 22), .ref (a 24), .ref (a 26), .int (q 1)])) := cw_at (by decide) rfl
theorem cw4 : (cw κ a r q f)[4]? = some (a 4, .inr (3, [.ref (a 28), .ref (a 30), .ref (a 32), .ref (a 34)])) := cw_at (by decide) rfl
theorem cw5 : (cw κ a r q f)[5]? = some (a 5, .inl (κ.2.1 0, 4, .inr (.inl (f 15)))) := cw_at (by decide) rfl
/-- a grid's rows, a grid's columns, a grid's numbers are written -/
theorem cwSR (hi : i < 15) (x : Int32) : (cw κ a r q f).set (6 + 2 * i) (a (6 + 2 * i), .inr (4, [.ref (a (7 + 2 * i)), .int x, .int (r (2 * i + 1))])) = cw κ a (va_up r (2 * i) x) q f := by
  refine cw_set (fun j hj => ?_)
  by_cases e1 : j = 6 + 2 * i
  · subst e1; rw [if_pos rfl, cwE_G]; simp [va_up]
  · rw [if_neg e1]
    unfold cwE va_up
    repeat' split
    all_goals first | rfl | omega | (simp; omega) | (congr 3 <;> (first | rfl | (rw [if_neg (by omega)])))
theorem cwSC (hi : i < 15) (x : Int32) : (cw κ a r q f).set (6 + 2 * i) (a (6 + 2 * i), .inr (4, [.ref (a (7 + 2 * i)), .int (r (2 * i)), .int x])) = cw κ a (va_up r (2 * i + 1) x) q f := by
  refine cw_set (fun j hj => ?_)
  by_cases e1 : j = 6 + 2 * i
  · subst e1; rw [if_pos rfl, cwE_G]; simp [va_up]
  · rw [if_neg e1]
    unfold cwE va_up
    repeat' split
    all_goals first | rfl | omega | (simp; omega)
theorem cwSL (hi : i < 15) (g : Nat → Int64) : (cw κ a r q f).set (7 + 2 * i) (a (7 + 2 * i), .inl (κ.2.1 0, 20, .inr (.inl g))) = cw κ a r q (va_up f i g) := by
  refine cw_set (fun j hj => ?_)
  by_cases e1 : j = 7 + 2 * i
  · subst e1; rw [if_pos rfl, cwE_C]; simp [va_up]
  · rw [if_neg e1]
    unfold cwE va_up
    repeat' split
    all_goals first | rfl | omega | (simp; omega)
end CWR
theorem in3 : ∀ x ∈ u_ws RX3 TX3 3, x ∈ wAll := by decide +kernel
theorem in1 : ∀ x ∈ u_ws RX1 TX1 4, x ∈ wAll := by decide +kernel
theorem in2 : ∀ x ∈ u_ws RX2 TX2 4, x ∈ wAll := by decide +kernel
theorem in4 : ∀ x ∈ u_ws RX4 TX4 3, x ∈ wAll := by decide +kernel
theorem in5 : ∀ x ∈ u_ws RX5 TX5 10, x ∈ wAll := by decide +kernel

/-- how far a counter is from its bound -/
def gap (y x : Int32) : Nat := (y.toInt - x.toInt).toNat
theorem i32_lt {x y : Int32} : x < y ↔ x.toInt < y.toInt := Int32.lt_iff_toInt_lt
theorem i32_le {x y : Int32} : x ≤ y ↔ x.toInt ≤ y.toInt := Int32.le_iff_toInt_le
theorem i32_succ {x y : Int32} (h : x < y) : (x + 1).toInt = x.toInt + 1 := by
  have h1 := i32_lt.mp h
  have h2 := Int32.toInt_lt y
  have h3 := Int32.le_toInt x
  rw [Int32.toInt_add, show (1 : Int32).toInt = 1 from rfl]
  exact Int.bmod_eq_of_le (by omega) (by omega)
theorem i32_not_le {x y : Int32} : ¬ y ≤ x ↔ x < y := by rw [i32_le, i32_lt]; omega
theorem gap_step {x y : Int32} {n : Nat} (c : ¬ y ≤ x) (h : gap y x < n + 1) : gap y (x + 1) < n := by
  have h1 := i32_not_le.mp c
  have h2 := i32_succ h1
  have h3 := i32_lt.mp h1
  unfold gap at h ⊢
  rw [h2]
  omega
theorem gap_step' {x y : Int32} {n : Nat} (c : x < y) (h : gap y x < n + 1) : gap y (x + 1) < n := gap_step (i32_not_le.mpr c) h
def gapd (x : Int32) : Nat := (x.toInt + 1).toNat
theorem i32_pred {x : Int32} (h : ¬ x < 0) : (x + -1).toInt = x.toInt - 1 := by
  have h1 : ¬ x.toInt < (0 : Int32).toInt := fun z => h (i32_lt.mpr z)
  have h2 := Int32.toInt_lt x
  rw [show (0 : Int32).toInt = 0 from rfl] at h1
  rw [Int32.toInt_add, show (-1 : Int32).toInt = -1 from rfl]
  rw [Int.bmod_eq_of_le (by omega) (by omega)]
  omega
theorem gapd_step {x : Int32} {n : Nat} (c : ¬ x < 0) (h : gapd x < n + 1) : gapd (x + -1) < n := by
  have h1 : ¬ x.toInt < (0 : Int32).toInt := fun z => c (i32_lt.mpr z)
  rw [show (0 : Int32).toInt = 0 from rfl] at h1
  have h2 := i32_pred c
  unfold gapd at h ⊢
  rw [h2]
  omega
theorem ix20 {x y : Int32} (h1 : ¬ x < 0) (h2 : ¬ 4 ≤ x) (h3 : ¬ y < 0) (h4 : ¬ 5 ≤ y) : vp_in (x * 5 + y) 20 := by
  rw [i32_lt] at h1 h3
  rw [i32_le] at h2 h4
  rw [show (0 : Int32).toInt = 0 from rfl] at h1 h3
  rw [show (4 : Int32).toInt = 4 from rfl] at h2
  rw [show (5 : Int32).toInt = 5 from rfl] at h4
  rw [vp_in_iff]
  have e : (x * 5 + y).toInt = x.toInt * 5 + y.toInt := by
    rw [Int32.toInt_add, Int32.toInt_mul, show (5 : Int32).toInt = 5 from rfl]
    rw [Int.bmod_eq_of_le (n := x.toInt * 5) (by omega) (by omega)]
    exact Int.bmod_eq_of_le (by omega) (by omega)
  rw [e]
  omega
theorem nbz {x : Int32} (h : x = 0 ∨ x = 1) : narrow .boolean (.int x) = .int x := by rcases h with rfl | rfl <;> rfl
section CWS
variable {κ : Kt} {a : Nat → Nat} {r q : Nat → Int32} {f : Nat → Nat → Int64}
theorem cwSQ2 (x : Int32) : (cw κ a r q f).set 0 (a 0, .inr (6, [.ref (a 1), .ref (a 14), .ref (a 16), .ref (a 2), .ref (a 3), .ref (a 4), .ref (a 5), .int x, .int (q 3), .int (q 4)])) = cw κ a r (va_up q 2 x) f := by
  refine cw_set (fun j hj => ?_)
  unfold cwE va_up
  repeat' split
  all_goals first | rfl | omega
theorem cwSQ3 (x : Int32) : (cw κ a r q f).set 0 (a 0, .inr (6, [.ref (a 1), .ref (a 14), .ref (a 16), .ref (a 2), .ref (a 3), .ref (a 4), .ref (a 5), .int (q 2), .int x, .int (q 4)])) = cw κ a r (va_up q 3 x) f := by
  refine cw_set (fun j hj => ?_)
  unfold cwE va_up
  repeat' split
  all_goals first | rfl | omega
theorem cwSQ4 (x : Int32) : (cw κ a r q f).set 0 (a 0, .inr (6, [.ref (a 1), .ref (a 14), .ref (a 16), .ref (a 2), .ref (a 3), .ref (a 4), .ref (a 5), .int (q 2), .int (q 3), .int x])) = cw κ a r (va_up q 4 x) f := by
  refine cw_set (fun j hj => ?_)
  unfold cwE va_up
  repeat' split
  all_goals first | rfl | omega
theorem cwSQ0 (x : Int32) : (cw κ a r q f).set 2 (a 2, .inr (5, [.ref (a 18), .ref (a 20), .int x])) = cw κ a r (va_up q 0 x) f := by
  refine cw_set (fun j hj => ?_)
  unfold cwE va_up
  repeat' split
  all_goals first | rfl | omega
theorem cwSQ1 (x : Int32) : (cw κ a r q f).set 3 (a 3, .inr (2, [.ref (a 22), .ref (a 24), .ref (a 26), .int x])) = cw κ a r (va_up q 1 x) f := by
  refine cw_set (fun j hj => ?_)
  unfold cwE va_up
  repeat' split
  all_goals first | rfl | omega
theorem cwS5 (g : Nat → Int64) : (cw κ a r q f).set 5 (a 5, .inl (κ.2.1 0, 4, .inr (.inl g))) = cw κ a r q (va_up f 15 g) := by
  refine cw_set (fun j hj => ?_)
  unfold cwE va_up
  repeat' split
  all_goals first | rfl | omega | (simp; omega)
end CWS
