section
-- 11.rows
/-! ===== Rows over the plumbing: fields, arrays, ends; the world of the class ===== -/
section GMR
variable {p : Program} {l : Launch} {e : Env} {R : Room} {s : State} {m : MethodId} {args : Array Value} {below : List Frame} {meth : Method} {c : Code} {H : Heap} {locs : List Loc} {cells slots : Nat} {Q : State → Prop}
variable {κ : Kt} {cc : ByteArray} {nL : Nat} {own : String} {ret : Option FieldType} {A : Nat → Prop} {w : va_W}
variable {pc : Nat} {ls : Array Slot} {rest : List Value}
theorem gf {k0 ci N b index : Nat} {C : String} {T : u_T} {fs : List Value} (hX : Cx κ p m c cc nL s args own meth ret A) (hB : Bd κ A s w H locs) (he : w[k0]? = some (b, .inr (ci, fs))) (hc : vwCl[ci]? = some (C, T, N)) (hin : ∀ x ∈ u_ws C T N, x ∈ wAll) (k : Nat) (hk : k < N) (hl : Cond.fieldLink own index C (T k).2.1 (T k).2.2.1 ∈ wAll) (hs : (T k).1 = C) {v : Value} (hv : fs[k]? = some v) (hdg : decode cc pc = .ok (.getfield index, 3))
    (kk : W p l e R s m args below meth c H locs cells slots Q (F0 m (pc + 3) ls (v :: rest))) : W p l e R s m args below meth c H locs cells slots Q (F0 m pc ls (.ref b :: rest)) :=
  va_get (ref := C) hX.1.1 hX.1.2.1 hX.1.2.2.2.2 hin hX.1.2.2.2.1 hX.2.1.1 hB.1 k0 he hc k hk (hX.1.2.2.2.2 _ hl) (fun x h => by rw [hs] at h; exact h) hv hdg kk
theorem gfN {k0 ci N b index : Nat} {C host : String} {T : u_T} {fs : List Value} (hX : Cx κ p m c cc nL s args own meth ret A) (hB : Bd κ A s w H locs) (he : w[k0]? = some (b, .inr (ci, fs))) (hc : vwCl[ci]? = some (C, T, N)) (hin : ∀ x ∈ u_ws C T N, x ∈ wAll) (k : Nat) (hk : k < N) (hl : Cond.fieldLinkNest own index C (T k).2.1 (T k).2.2.1 host ∈ wNest) (hs : (T k).1 = C) {v : Value} (hv : fs[k]? = some v) (hdg : decode cc pc = .ok (.getfield index, 3))
    (kk : W p l e R s m args below meth c H locs cells slots Q (F0 m (pc + 3) ls (v :: rest))) : W p l e R s m args below meth c H locs cells slots Q (F0 m pc ls (.ref b :: rest)) :=
  va_getN (ref := C) (host := host) hX.1.1 hX.1.2.1 hX.1.2.2.2.2 hin hX.1.2.2.2.1 hX.2.1.1 hB.1 k0 he hc k hk (va_Nw.use rfl (hX.2.1.2.1.use hl)) (fun x h => by rw [hs] at h; exact h) hv hdg kk
theorem pf {k0 ci N b index : Nat} {C : String} {T : u_T} {fs : List Value} {ty : FieldType} {v : Value} (hX : Cx κ p m c cc nL s args own meth ret A) (hB : Bd κ A s w H locs) (he : w[k0]? = some (b, .inr (ci, fs))) (hc : vwCl[ci]? = some (C, T, N)) (hin : ∀ x ∈ u_ws C T N, x ∈ wAll) {ty0 : Nat → FieldType} (hty : ∀ k, k < N → parseFieldDescriptor (T k).2.2.1 = some (ty0 k)) (hnm : ∀ a, a < N → ∀ b, b < N → a ≠ b → (T a).2.1 ≠ (T b).2.1) (k : Nat) (hk : k < N) (hl : Cond.fieldLink own index C (T k).2.1 (T k).2.2.1 ∈ wAll) (hs : (T k).1 = C) (hfin : (T k).2.2.2 = false) (hd : ty0 k = ty) (hn : narrow ty v = v) (hfit : fits ty v = true) (hlen : k < fs.length) {w1 : va_W} (hw : w.set k0 (b, .inr (ci, fs.set k v)) = w1) (hdg : decode cc pc = .ok (.putfield index, 3))
    (kk : ∀ (H1 : Heap) (locs1 : List Loc), Bd κ A s w1 H1 locs1 → W p l e R s m args below meth c H1 locs1 cells slots Q (F0 m (pc + 3) ls rest)) : W p l e R s m args below meth c H locs cells slots Q (F0 m pc ls (v :: .ref b :: rest)) := by
  subst hw
  exact va_put (ref := C) (ty := ty) hX.1.1 hX.1.2.1 hX.1.2.2.2.2 hin ty0 hty hnm hX.1.2.2.2.1 hX.2.1.1 hB.1 hB.2.1 hB.2.2 k0 he hc k hk (hX.1.2.2.2.2 _ hl) (fun x h => by rw [hs] at h; exact h) hfin (by rw [hty k hk, hd]) hn hfit hlen hdg (fun H1 locs1 h1 h2 h3 => kk H1 locs1 ⟨h1, h2, h3⟩)
theorem lald {k0 b n : Nat} {f : Nat → Int64} {i : Int32} (hX : Cx κ p m c cc nL s args own meth ret A) (hB : Bd κ A s w H locs) (he : w[k0]? = some (b, .inl (κ.2.1 0, n, .inr (.inl f)))) (hin : vp_in i n) (hdg : decode cc pc = .ok (.laload, 1))
    (kk : W p l e R s m args below meth c H locs cells slots Q (F0 m (pc + 1) ls (.long (f i.toNatClampNeg) :: rest))) : W p l e R s m args below meth c H locs cells slots Q (F0 m pc ls (.int i :: .ref b :: rest)) :=
  va_lald (tys := tysK κ) hX.1.1 hX.1.2.1 hX.2.1.1 hB.1 k0 0 he rfl hin hdg kk
theorem last {k0 b n : Nat} {f : Nat → Int64} {i : Int32} {x : Int64} (hX : Cx κ p m c cc nL s args own meth ret A) (hB : Bd κ A s w H locs) (he : w[k0]? = some (b, .inl (κ.2.1 0, n, .inr (.inl f)))) (hin : vp_in i n) {w1 : va_W} (hw : w.set k0 (b, .inl (κ.2.1 0, n, .inr (.inl (vp_updL f i.toNatClampNeg x)))) = w1) (hdg : decode cc pc = .ok (.lastore, 1))
    (kk : ∀ (H1 : Heap) (locs1 : List Loc), Bd κ A s w1 H1 locs1 → W p l e R s m args below meth c H1 locs1 cells slots Q (F0 m (pc + 1) ls rest)) : W p l e R s m args below meth c H locs cells slots Q (F0 m pc ls (.long x :: .int i :: .ref b :: rest)) := by
  subst hw
  exact va_last (tys := tysK κ) hX.1.1 hX.1.2.1 hX.2.1.1 hB.1 hB.2.1 hB.2.2 k0 0 he rfl hin hdg (fun H1 locs1 h1 h2 h3 => kk H1 locs1 ⟨h1, h2, h3⟩)
theorem alenL {k0 b n : Nat} {f : Nat → Int64} {v : Int32} (hX : Cx κ p m c cc nL s args own meth ret A) (hB : Bd κ A s w H locs) (he : w[k0]? = some (b, .inl (κ.2.1 0, n, .inr (.inl f)))) (hv : Int32.ofNat n = v) (hdg : decode cc pc = .ok (.arraylength, 1))
    (kk : W p l e R s m args below meth c H locs cells slots Q (F0 m (pc + 1) ls (.int v :: rest))) : W p l e R s m args below meth c H locs cells slots Q (F0 m pc ls (.ref b :: rest)) :=
  va_alen (tys := tysK κ) (ty := .long) hX.1.1 hX.1.2.1 hX.2.1.1 hB.1 k0 0 he rfl hv hdg kk
theorem aaldG {k0 b n : Nat} {f : Nat → Option Nat} {i : Int32} (hX : Cx κ p m c cc nL s args own meth ret A) (hB : Bd κ A s w H locs) (he : w[k0]? = some (b, .inl (κ.2.1 1, n, .inr (.inr (.inr (.inr f)))))) (hin : vp_in i n) {a : Nat} (hv : f i.toNatClampNeg = some a) (hdg : decode cc pc = .ok (.aaload, 1))
    (kk : W p l e R s m args below meth c H locs cells slots Q (F0 m (pc + 1) ls (.ref a :: rest))) : W p l e R s m args below meth c H locs cells slots Q (F0 m pc ls (.int i :: .ref b :: rest)) := by
  refine va_aldq (tys := tysK κ) hX.1.1 hX.1.2.1 hX.2.1.1 hB.1 k0 1 he rfl hin hdg ?_
  rw [hv]
  exact kk
/-- the ends -/
theorem end_i {w0 : va_W} {post : Option Value → va_W → Prop} {mc ms : Nat} {v : Int32} {ty : FieldType} (hX : Cx κ p m c cc nL s args own meth ret A) (hB : Bd κ A s w H locs) (hA3 : ∀ q, A q → Fw w0 q ∨ s.heap.size ≤ q) (hr : ret = some ty) (hn : narrow ty (.int v) = .int v) (hp : post (some (.int v)) w) (hc : cells ≤ mc) (hs : slots ≤ ms) (hdg : decode cc pc = .ok (.ireturn, 1)) :
    W p l e R s m args below meth c H locs cells slots (Zm κ below w0 post args s mc ms) (F0 m pc ls [.int v]) := by
  refine W.widen hc hs (W.zret hX.1.1 hX.1.2.1 (hX.2.2.2.2.1.trans hr) hn (fun t ht hW => ⟨⟨_, w, rfl, hp, by rw [ht]; exact hB.1, hB.2.1.weaken (fun _ q _ h => hA3 q.1 h)⟩, ?_⟩) (fun q hq => hA3 _ (hB.2.2.2.2 q hq)) hdg (hlocks := hX.2.2.2.2.2))
  exact ⟨by rw [ht]; exact hB.2.2.1, fun q h1 h2 => by rw [ht]; exact hB.2.2.2.1 q h1 (fun h => h2 (hA3 q h))⟩
theorem end_l {w0 : va_W} {post : Option Value → va_W → Prop} {mc ms : Nat} {v : Int64} (hX : Cx κ p m c cc nL s args own meth ret A) (hB : Bd κ A s w H locs) (hA3 : ∀ q, A q → Fw w0 q ∨ s.heap.size ≤ q) (hr : ret = some .long) (hp : post (some (.long v)) w) (hc : cells ≤ mc) (hs : slots ≤ ms) (hdg : decode cc pc = .ok (.lreturn, 1)) :
    W p l e R s m args below meth c H locs cells slots (Zm κ below w0 post args s mc ms) (F0 m pc ls [.long v]) := by
  refine W.widen hc hs (W.lret hX.1.1 hX.1.2.1 (hX.2.2.2.2.1.trans hr) (fun t ht hW => ⟨⟨_, w, rfl, hp, by rw [ht]; exact hB.1, hB.2.1.weaken (fun _ q _ h => hA3 q.1 h)⟩, ?_⟩) (fun q hq => hA3 _ (hB.2.2.2.2 q hq)) hdg (hlocks := hX.2.2.2.2.2))
  exact ⟨by rw [ht]; exact hB.2.2.1, fun q h1 h2 => by rw [ht]; exact hB.2.2.2.1 q h1 (fun h => h2 (hA3 q h))⟩
theorem end_v {w0 : va_W} {post : Option Value → va_W → Prop} {mc ms : Nat} (hX : Cx κ p m c cc nL s args own meth ret A) (hB : Bd κ A s w H locs) (hA3 : ∀ q, A q → Fw w0 q ∨ s.heap.size ≤ q) (hr : ret = none) (hp : post none w) (hc : cells ≤ mc) (hs : slots ≤ ms) (hdg : decode cc pc = .ok (.return_, 1)) :
    W p l e R s m args below meth c H locs cells slots (Zm κ below w0 post args s mc ms) (F0 m pc ls []) := by
  refine W.widen hc hs (W.vret hX.1.1 hX.1.2.1 (hX.2.2.2.2.1.trans hr) (fun t ht hW => ⟨⟨_, w, rfl, hp, by rw [ht]; exact hB.1, hB.2.1.weaken (fun _ q _ h => hA3 q.1 h)⟩, ?_⟩) (fun q hq => hA3 _ (hB.2.2.2.2 q hq)) hdg (hlocks := hX.2.2.2.2.2))
  exact ⟨by rw [ht]; exact hB.2.2.1, fun q h1 h2 => by rw [ht]; exact hB.2.2.2.1 q h1 (fun h => h2 (hA3 q h))⟩
end GMR
/-- the cells of the class: 0 the object, 1 its tables, 2 row steps, 3 steps, 4 equation, 5 row numbers, 6 + 2 i and 7 + 2 i the grid i (0 to 3 the tables, 4 draft, 5 check, 6 and 7 of the row steps, 8 to 10 of the steps, 11 to 14 of the equation) -/
def cwE (a : Nat → Nat) (cy : Nat → ClassId) (r q : Nat → Int32) (f : Nat → Nat → Int64) (k : Nat) : va_E :=
  if k = 0 then .inr (6, [.ref (a 1), .ref (a 14), .ref (a 16), .ref (a 2), .ref (a 3), .ref (a 4), .ref (a 5), .int (q 2), .int (q 3), .int (q 4)])
  else if k = 1 then .inl (cy 1, 4, .inr (.inr (.inr (.inr (fun j => some (a (6 + 2 * j)))))))
  else if k = 2 then .inr (5, [.ref (a 18), .ref (a 20), .int (q 0)])
  else if k = 3 then .inr (2, [.ref (a 22), .ref (a 24), .ref (a 26), .int (q 1)])
  else if k = 4 then .inr (3, [.ref (a 28), .ref (a 30), .ref (a 32), .ref (a 34)])
  else if k = 5 then .inl (cy 0, 4, .inr (.inl (f 15)))
  else if k % 2 = 0 then .inr (4, [.ref (a (k + 1)), .int (r (k - 6)), .int (r (k - 5))])
  else .inl (cy 0, 20, .inr (.inl (f ((k - 7) / 2))))
def cw (κ : Kt) (a : Nat → Nat) (r q : Nat → Int32) (f : Nat → Nat → Int64) : va_W := (List.range 36).map (fun k => (a k, cwE a κ.2.1 r q f k))
theorem cw_at {κ : Kt} {a : Nat → Nat} {r q : Nat → Int32} {f : Nat → Nat → Int64} {k : Nat} (hk : k < 36) {e : va_E} (he : cwE a κ.2.1 r q f k = e) : (cw κ a r q f)[k]? = some (a k, e) := by
  subst he
  simp [cw, hk]
theorem cw_set {κ : Kt} {a : Nat → Nat} {r r' q q' : Nat → Int32} {f f' : Nat → Nat → Int64} {k : Nat} {e : va_E} (h : ∀ j, j < 36 → (if j = k then e else cwE a κ.2.1 r q f j) = cwE a κ.2.1 r' q' f' j) : (cw κ a r q f).set k (a k, e) = cw κ a r' q' f' := by
  apply List.ext_getElem?
  intro j
  simp only [cw, List.getElem?_set, List.length_map, List.length_range, List.getElem?_map, List.getElem?_range]
  by_cases hj : j < 36
  · have h1 := h j hj
    by_cases e1 : k = j
    · subst e1
      simp only [if_true, hj] at h1 ⊢
      simp [h1, List.getElem?_range hj]
    · rw [if_neg (fun h => e1 h.symm)] at h1
      simp [e1, hj, h1]
  · by_cases e1 : k = j
    · subst e1; simp [hj]
    · simp [e1, hj]
theorem cwE_G {a : Nat → Nat} {cy : Nat → ClassId} {r q : Nat → Int32} {f : Nat → Nat → Int64} (i : Nat) : cwE a cy r q f (6 + 2 * i) = .inr (4, [.ref (a (7 + 2 * i)), .int (r (2 * i)), .int (r (2 * i + 1))]) := by
  unfold cwE
  rw [if_neg (by omega), if_neg (by omega), if_neg (by omega), if_neg (by omega), if_neg (by omega), if_neg (by omega), if_pos (by omega), show 6 + 2 * i + 1 = 7 + 2 * i by omega, show 6 + 2 * i - 6 = 2 * i by omega, show 6 + 2 * i - 5 = 2 * i + 1 by omega]
theorem cwE_C {a : Nat → Nat} {cy : Nat → ClassId} {r q : Nat → Int32} {f : Nat → Nat → Int64} (i : Nat) : cwE a cy r q f (7 + 2 * i) = .inl (cy 0, 20, .inr (.inl (f i))) := by
  unfold cwE
  rw [if_neg (by omega), if_neg (by omega), if_neg (by omega), if_neg (by omega), if_neg (by omega), if_neg (by omega), if_neg (by omega), show (7 + 2 * i - 7) / 2 = i by omega]
section CWR
variable {κ : Kt} {a : Nat → Nat} {r q : Nat → Int32} {f : Nat → Nat → Int64} {i : Nat}
theorem cwG (hi : i < 15) : (cw κ a r q f)[6 + 2 * i]? = some (a (6 + 2 * i), .inr (4, [.ref (a (7 + 2 * i)), .int (r (2 * i)), .int (r (2 * i + 1))])) := cw_at (by omega) (cwE_G i)
theorem cwC (hi : i < 15) : (cw κ a r q f)[7 + 2 * i]? = some (a (7 + 2 * i), .inl (κ.2.1 0, 20, .inr (.inl (f i)))) := cw_at (by omega) (cwE_C i)
theorem cw0 : (cw κ a r q f)[0]? = some (a 0, .inr (6, [.ref (a 1), .ref (a 14), .ref (a 16), .ref (a 2), .ref (a 3), .ref (a 4), .ref (a 5), .int (q 2), .int (q 3), .int (q 4)])) := cw_at (by decide) rfl
theorem cw1 : (cw κ a r q f)[1]? = some (a 1, .inl (κ.2.1 1, 4, .inr (.inr (.inr (.inr (fun j => some (a (6 + 2 * j)))))))) := cw_at (by decide) rfl
theorem cw2 : (cw κ a r q f)[2]? = some (a 2, .inr (5, [.ref (a 18), .ref (a 20), .int (q 0)])) := cw_at (by decide) rfl
theorem cw3 : (cw κ a r q f)[3]? = some (a 3, .inr (2, [.ref (a 22), .ref (a 24), .ref (a 26), .int (q 1)])) := cw_at (by decide) rfl
theorem cw4 : (cw κ a r q f)[4]? = some (a 4, .inr (3, [.ref (a 28), .ref (a 30), .ref (a 32), .ref (a 34)])) := cw_at (by decide) rfl
theorem cw5 : (cw κ a r q f)[5]? = some (a 5, .inl (κ.2.1 0, 4, .inr (.inl (f 15)))) := cw_at (by decide) rfl
/-- a grid's rows, a grid's columns, a grid's numbers are written -/
theorem cwSR (hi : i < 15) (x : Int32) : (cw κ a r q f).set (6 + 2 * i) (a (6 + 2 * i), .inr (4, [.ref (a (7 + 2 * i)), .int x, .int (r (2 * i + 1))])) = cw κ a (va_up r (2 * i) x) q f := by
  refine cw_set (fun j hj => ?_)
  by_cases e1 : j = 6 + 2 * i
  · subst e1; rw [if_pos rfl, cwE_G]; simp [va_up]
  · rw [if_neg e1]
    unfold cwE va_up
    repeat' split
    all_goals first | rfl | omega | (simp; omega) | (congr 3 <;> (first | rfl | (rw [if_neg (by omega)])))
theorem cwSC (hi : i < 15) (x : Int32) : (cw κ a r q f).set (6 + 2 * i) (a (6 + 2 * i), .inr (4, [.ref (a (7 + 2 * i)), .int (r (2 * i)), .int x])) = cw κ a (va_up r (2 * i + 1) x) q f := by
  refine cw_set (fun j hj => ?_)
  by_cases e1 : j = 6 + 2 * i
  · subst e1; rw [if_pos rfl, cwE_G]; simp [va_up]
  · rw [if_neg e1]
    unfold cwE va_up
    repeat' split
    all_goals first | rfl | omega | (simp; omega)
theorem cwSL (hi : i < 15) (g : Nat → Int64) : (cw κ a r q f).set (7 + 2 * i) (a (7 + 2 * i), .inl (κ.2.1 0, 20, .inr (.inl g))) = cw κ a r q (va_up f i g) := by
  refine cw_set (fun j hj => ?_)
  by_cases e1 : j = 7 + 2 * i
  · subst e1; rw [if_pos rfl, cwE_C]; simp [va_up]
  · rw [if_neg e1]
    unfold cwE va_up
    repeat' split
    all_goals first | rfl | omega | (simp; omega)
end CWR
theorem in3 : ∀ x ∈ u_ws RX3 TX3 3, x ∈ wAll := by decide +kernel
theorem in1 : ∀ x ∈ u_ws RX1 TX1 4, x ∈ wAll := by decide +kernel
theorem in2 : ∀ x ∈ u_ws RX2 TX2 4, x ∈ wAll := by decide +kernel
theorem in4 : ∀ x ∈ u_ws RX4 TX4 3, x ∈ wAll := by decide +kernel
theorem in5 : ∀ x ∈ u_ws RX5 TX5 10, x ∈ wAll := by decide +kernel

/-- how far a counter is from its bound -/
def gap (y x : Int32) : Nat := (y.toInt - x.toInt).toNat
theorem i32_lt {x y : Int32} : x < y ↔ x.toInt < y.toInt := Int32.lt_iff_toInt_lt
theorem i32_le {x y : Int32} : x ≤ y ↔ x.toInt ≤ y.toInt := Int32.le_iff_toInt_le
theorem i32_succ {x y : Int32} (h : x < y) : (x + 1).toInt = x.toInt + 1 := by
  have h1 := i32_lt.mp h
  have h2 := Int32.toInt_lt y
  have h3 := Int32.le_toInt x
  rw [Int32.toInt_add, show (1 : Int32).toInt = 1 from rfl]
  exact Int.bmod_eq_of_le (by omega) (by omega)
theorem i32_not_le {x y : Int32} : ¬ y ≤ x ↔ x < y := by rw [i32_le, i32_lt]; omega
theorem gap_step {x y : Int32} {n : Nat} (c : ¬ y ≤ x) (h : gap y x < n + 1) : gap y (x + 1) < n := by
  have h1 := i32_not_le.mp c
  have h2 := i32_succ h1
  have h3 := i32_lt.mp h1
  unfold gap at h ⊢
  rw [h2]
  omega
theorem gap_step' {x y : Int32} {n : Nat} (c : x < y) (h : gap y x < n + 1) : gap y (x + 1) < n := gap_step (i32_not_le.mpr c) h
def gapd (x : Int32) : Nat := (x.toInt + 1).toNat
theorem i32_pred {x : Int32} (h : ¬ x < 0) : (x + -1).toInt = x.toInt - 1 := by
  have h1 : ¬ x.toInt < (0 : Int32).toInt := fun z => h (i32_lt.mpr z)
  have h2 := Int32.toInt_lt x
  rw [show (0 : Int32).toInt = 0 from rfl] at h1
  rw [Int32.toInt_add, show (-1 : Int32).toInt = -1 from rfl]
  rw [Int.bmod_eq_of_le (by omega) (by omega)]
  omega
theorem gapd_step {x : Int32} {n : Nat} (c : ¬ x < 0) (h : gapd x < n + 1) : gapd (x + -1) < n := by
  have h1 : ¬ x.toInt < (0 : Int32).toInt := fun z => c (i32_lt.mpr z)
  rw [show (0 : Int32).toInt = 0 from rfl] at h1
  have h2 := i32_pred c
  unfold gapd at h ⊢
  rw [h2]
  omega
theorem ix20 {x y : Int32} (h1 : ¬ x < 0) (h2 : ¬ 4 ≤ x) (h3 : ¬ y < 0) (h4 : ¬ 5 ≤ y) : vp_in (x * 5 + y) 20 := by
  rw [i32_lt] at h1 h3
  rw [i32_le] at h2 h4
  rw [show (0 : Int32).toInt = 0 from rfl] at h1 h3
  rw [show (4 : Int32).toInt = 4 from rfl] at h2
  rw [show (5 : Int32).toInt = 5 from rfl] at h4
  rw [vp_in_iff]
  have e : (x * 5 + y).toInt = x.toInt * 5 + y.toInt := by
    rw [Int32.toInt_add, Int32.toInt_mul, show (5 : Int32).toInt = 5 from rfl]
    rw [Int.bmod_eq_of_le (n := x.toInt * 5) (by omega) (by omega)]
    exact Int.bmod_eq_of_le (by omega) (by omega)
  rw [e]
  omega
theorem nbz {x : Int32} (h : x = 0 ∨ x = 1) : narrow .boolean (.int x) = .int x := by rcases h with rfl | rfl <;> rfl
section CWS
variable {κ : Kt} {a : Nat → Nat} {r q : Nat → Int32} {f : Nat → Nat → Int64}
theorem cwSQ2 (x : Int32) : (cw κ a r q f).set 0 (a 0, .inr (6, [.ref (a 1), .ref (a 14), .ref (a 16), .ref (a 2), .ref (a 3), .ref (a 4), .ref (a 5), .int x, .int (q 3), .int (q 4)])) = cw κ a r (va_up q 2 x) f := by
  refine cw_set (fun j hj => ?_)
  unfold cwE va_up
  repeat' split
  all_goals first | rfl | omega
theorem cwSQ3 (x : Int32) : (cw κ a r q f).set 0 (a 0, .inr (6, [.ref (a 1), .ref (a 14), .ref (a 16), .ref (a 2), .ref (a 3), .ref (a 4), .ref (a 5), .int (q 2), .int x, .int (q 4)])) = cw κ a r (va_up q 3 x) f := by
  refine cw_set (fun j hj => ?_)
  unfold cwE va_up
  repeat' split
  all_goals first | rfl | omega
theorem cwSQ4 (x : Int32) : (cw κ a r q f).set 0 (a 0, .inr (6, [.ref (a 1), .ref (a 14), .ref (a 16), .ref (a 2), .ref (a 3), .ref (a 4), .ref (a 5), .int (q 2), .int (q 3), .int x])) = cw κ a r (va_up q 4 x) f := by
  refine cw_set (fun j hj => ?_)
  unfold cwE va_up
  repeat' split
  all_goals first | rfl | omega
theorem cwSQ0 (x : Int32) : (cw κ a r q f).set 2 (a 2, .inr (5, [.ref (a 18), .ref (a 20), .int x])) = cw κ a r (va_up q 0 x) f := by
  refine cw_set (fun j hj => ?_)
  unfold cwE va_up
  repeat' split
  all_goals first | rfl | omega
theorem cwSQ1 (x : Int32) : (cw κ a r q f).set 3 (a 3, .inr (2, [.ref (a 22), .ref (a 24), .ref (a 26), .int x])) = cw κ a r (va_up q 1 x) f := by
  refine cw_set (fun j hj => ?_)
  unfold cwE va_up
  repeat' split
  all_goals first | rfl | omega
theorem cwS5 (g : Nat → Int64) : (cw κ a r q f).set 5 (a 5, .inl (κ.2.1 0, 4, .inr (.inl g))) = cw κ a r q (va_up f 15 g) := by
  refine cw_set (fun j hj => ?_)
  unfold cwE va_up
  repeat' split
  all_goals first | rfl | omega | (simp; omega)
end CWS
end
section
-- 12.throws
/-! ===== Methods that may throw: a contract, a call, a throw ===== -/
def Xm (κ : Kt) (w : va_W) (postX : String → va_W → Prop) (sz : Nat) : String → State → State → Prop := fun E st t => (∃ w' : va_W, postX E w' ∧ va_P κ.1 vwCl w' t.heap ∧ va_D (Ac w sz) w') ∧ va_F (Ac w sz) st t
def CX (κ : Kt) (l : Launch) (y : MethodName) (cc : ByteArray) (n : Nat) (ret : Option FieldType) (fr lo mc ms : Nat) (av : List Value) (w : va_W) (post : Option Value → va_W → Prop) (postX : String → va_W → Prop) : Prop :=
  ∀ sz : Nat, vx_Met l y (Cond.code y cc n ret :: wAll) (Rm fr lo mc ms) (Pm κ av w sz) (Qm κ w post sz) (Xm κ w postX sz) mc ms (Ac w sz)
section GMX
variable {p : Program} {l : Launch} {e : Env} {R : Room} {s : State} {m : MethodId} {args : Array Value} {below : List Frame} {meth : Method} {c : Code} {H : Heap} {locs : List Loc} {cells slots : Nat} {Q : State → Prop}
variable {κ : Kt} {cc : ByteArray} {nL : Nat} {own : String} {ret : Option FieldType} {A : Nat → Prop} {w : va_W}
def Zx (κ : Kt) (below : List Frame) (w0 : va_W) (post : Option Value → va_W → Prop) (postX : String → va_W → Prop) (a : Array Value) (s : State) (mc ms : Nat) : State → Prop := vx_MQ below (Qm κ w0 post s.heap.size) (Xm κ w0 postX s.heap.size) a s mc ms (Ac w0 s.heap.size)
theorem CX_begin {y : MethodName} {fr lo mc ms : Nat} {av : List Value} {post : Option Value → va_W → Prop} {postX : String → va_W → Prop} (hy : plainName y.cls = true) (hn : (lg_sl av).length ≤ nL)
    (body : ∀ (p : Program) (e : Env) (s : State) (m : MethodId) (args : Array Value) (below : List Frame) (meth : Method) (c : Code) (A : Nat → Prop) (Q : State → Prop), Cx κ p m c cc nL s args y.cls meth ret A → (∀ x ∈ c.exceptionTable.toList, False) → (∀ q, A q → Fw w q ∨ s.heap.size ≤ q) → Zx κ below w post postX args s mc ms = Q → Bd κ A s w s.heap [] → ∀ ls : Array Slot, lv_has ls nL (lv_args 0 av) →
      W p l e (Rm fr lo mc ms) s m args below meth c s.heap [] 0 0 Q (F0 m 0 ls [])) : CX κ l y cc nL ret fr lo mc ms av w post postX := by
  intro sz
  refine vx_ofW (cc := cc) (maxL := nL) (ret := ret) hy rfl ?_
  intro p e s m args below meth c s₁ B hml hne hv
  obtain ⟨rfl, hsz, hE, hP, hD⟩ := hv
  subst hsz
  have hts := atoms_spec (ws := Cond.code y cc nL ret :: wAll) B.pre
  have hown : s.vm.findClass y.cls = some m.cls := findClass_of_methodNamed B.named
  have hl := lv_entry av hn
  rw [lg_entry_eq]
  generalize (lg_sl av ++ List.replicate (nL - (lg_sl av).length) Slot.unset).toArray = ls at hl ⊢
  exact body p e s m _ below meth c (Ac w s.heap.size) _ ⟨⟨B.exec, B.bytes, hml, hown, fun x hx => hts x (List.mem_cons_of_mem _ hx)⟩, hE, fun q hq => hq.elim (fun h => D_of hD h) (fun h => Nat.le_trans hE.2.2.2 h), fun q h => Or.inr h, B.returns, B.notSynchronized⟩ hne (fun q h => h) rfl ⟨hP, ⟨hD.1, fun k q hk => Or.inl ⟨q.2, List.mem_of_getElem? hk⟩⟩, va_S.rf⟩ ls hl
/-- behind a call that may throw: both ways -/
theorem CX_after2 {post : Option Value → va_W → Prop} {postX : String → va_W → Prop} {mc ms pc : Nat} {ls : Array Slot} {rest st0 : List Value} {a : Array Value} (hX : Cx κ p m c cc nL s args own meth ret A) (hB : Bd κ A s w H locs)
    (hr : vx_Run p l e R s m args below meth c H locs cells slots mc ms (F0 m pc ls st0) rest (Qm κ w post H.size a) (Xm κ w postX H.size) (Ac w H.size))
    (kx : ∀ (E : String) (ce : Cell) (q9 : Addr) (w' : va_W) (H1 : Heap) (locs1 : List Loc), postX E w' → Bd κ A s w' H1 locs1 → H1[q9]? = some ce → ce.vm = .none → s.vm.findClass E = some ce.cls → vx_W p l e R s m args below meth c H1 locs1 (cells + mc) (slots + ms) Q (F0 m pc ls rest) q9)
    (kk : ∀ (r : Option Value) (w' : va_W) (H1 : Heap) (locs1 : List Loc), post r w' → Bd κ A s w' H1 locs1 → W p l e R s m args below meth c H1 locs1 (cells + mc) (slots + ms) Q (F0 m (pc + 3) ls (r.toList ++ rest))) : W p l e R s m args below meth c H locs cells slots Q (F0 m pc ls st0) := by
  intro T hT X
  obtain ⟨hP0, hD0, hS⟩ := hB
  have hf : ∀ q, Ac w H.size q → A q := fun q h => h.elim (fun h => D_of hD0 h) (fun h => hX.2.2.2.1 q (Nat.le_trans hS.1 h))
  rcases hr T hT X with ⟨v, st₀, t, T', L, h0, X', hL, e1, e2, ⟨⟨r, w', hv, hp, hP, hD⟩, hF⟩, st⟩ | ⟨q, st₀, t, T', L, E, ce, h0, X', hL, e1, e2, ⟨⟨w', hp, hP, hD⟩, hF⟩, hce, hcv, hcl, st⟩
  · cases hv
    obtain ⟨k1, k2, k3⟩ := vx_keep h0 e1 hS (fun q _ h => hf q h) hf hL hF
    obtain ⟨t2, a1, b1⟩ := kk v w' T'.heap (locs ++ L) hp ⟨by rw [e1]; exact hP, hD.weaken (fun _ q _ h => hf q.1 h), k3⟩ T' rfl X'
    exact ⟨t2, st t2 a1, b1⟩
  · obtain ⟨k1, k2, k3⟩ := vx_keep h0 e1 hS (fun q _ h => hf q h) hf hL hF
    obtain ⟨t2, a1, b1⟩ := kx E ce q w' T'.heap (locs ++ L) hp ⟨by rw [e1]; exact hP, hD.weaken (fun _ q _ h => hf q.1 h), k3⟩ (by rw [e1]; exact hce) hcv hcl T' rfl X'
    exact ⟨t2, st.trans a1, b1⟩
/-- it goes on to the caller -/
theorem thrown_on {w0 : va_W} {post : Option Value → va_W → Prop} {postX : String → va_W → Prop} {mc ms pc : Nat} {ls : Array Slot} {rest : List Value} {E : String} {ce : Cell} {q9 : Addr} (hX : Cx κ p m c cc nL s args own meth ret A) (hne : ∀ x ∈ c.exceptionTable.toList, False) (hB : Bd κ A s w H locs) (hA3 : ∀ q, A q → Fw w0 q ∨ s.heap.size ≤ q)
    (hce : H[q9]? = some ce) (hcv : ce.vm = .none) (hcl : s.vm.findClass E = some ce.cls) (hp : postX E w) (hc : cells ≤ mc) (hs : slots ≤ ms) :
    vx_W p l e R s m args below meth c H locs cells slots (Zx κ below w0 post postX args s mc ms) (F0 m pc ls rest) q9 := by
  refine vx_out (fun x hx => (hne x hx).elim) hX.2.2.2.2.2 hce hcv hcl (fun t ht hvm => ⟨⟨w, hp, by rw [ht]; exact hB.1, hB.2.1.weaken (fun _ q _ h => hA3 q.1 h)⟩, ?_⟩) (fun q hq => hA3 _ (hB.2.2.2.2 q hq)) hc hs
  exact ⟨by rw [ht]; exact hB.2.2.1, fun q h1 h2 => by rw [ht]; exact hB.2.2.2.1 q h1 (fun h => h2 (hA3 q h))⟩
theorem run_XV {post : Option Value → va_W → Prop} {postX : String → va_W → Prop} {y : MethodName} {C : String} {bytes : ByteArray} {maxL fr lo mc ms n index pc b : Nat} {rt : Option FieldType} {ls : Array Slot} {As rest st0 : List Value} (hX : Cx κ p m c cc nL s args own meth ret A) (hB : Bd κ A s w H locs)
    (hM : CX κ l y bytes maxL rt fr lo mc ms (.ref b :: As) w post postX) (hy : y.cls = C ∧ Yk y n) (m1 : Cond.methodLink own index y ∈ wAll) (m2 : Cond.instanceMethod y ∈ wAll) (m3 : Cond.selects C y y ∈ wAll) (m4 : Cond.initialized C ∈ wAll) (m5 : Cond.code y bytes maxL rt ∈ wAll)
    (hR : fr + 1 ≤ R.frames ∧ 8 + (maxL + 11) + lo ≤ R.locals) (hf : cells + mc ≤ R.cells ∧ slots + ms ≤ R.slots) {k0 ci : Nat} {q : vw_C} {fs : List Value} (he : w[k0]? = some (b, .inr (ci, fs))) (hc : vwCl[ci]? = some q) (hq : q.1 = C)
    (hn : As.length = n) (hl : ls.size = nL) (hst : st0 = As.reverse ++ .ref b :: rest) (hcat : (rest.map fun v => v.category).sum ≤ 8) (hdg : decode cc pc = .ok (.invokevirtual index, 3)) :
    vx_Run p l e R s m args below meth c H locs cells slots mc ms (F0 m pc ls st0) rest (Qm κ w post H.size (Value.ref b :: As).toArray) (Xm κ w postX H.size) (Ac w H.size) := by
  refine vx_runV (As := As) (rest := rest) (nL := nL) (own := own) (C := C) (b := b) hX.1 (hM H.size) (cwV n hX.1.2.2.2.2 (gAll1 m1 (gAll1 m2 (gAll1 m3 (gAll1 m4 (gAll m5))))) rfl rfl rfl ⟨hy.1, hy.2⟩ hR) ⟨Pm_blind, ?_, Pm_at hX hB⟩ rfl hn hl hst (lv_room hcat) hdg hf
  obtain ⟨cell, z1, z2, z3⟩ := va_recv hX.2.1.1 hB.1 hc he
  exact ⟨cell, z1, z2, by rw [← hq]; exact z3⟩
theorem run_XS {post : Option Value → va_W → Prop} {postX : String → va_W → Prop} {y : MethodName} {bytes : ByteArray} {maxL fr lo mc ms n index pc : Nat} {rt : Option FieldType} {ls : Array Slot} {As rest st0 : List Value} (hX : Cx κ p m c cc nL s args own meth ret A) (hB : Bd κ A s w H locs)
    (hM : CX κ l y bytes maxL rt fr lo mc ms As w post postX) (hy : Yk y n) (m1 : Cond.methodLink own index y ∈ wAll) (m2 : Cond.static y ∈ wAll) (m4 : Cond.initialized y.cls ∈ wAll) (m5 : Cond.code y bytes maxL rt ∈ wAll)
    (hR : fr + 1 ≤ R.frames ∧ 8 + (maxL + 11) + lo ≤ R.locals) (hf : cells + mc ≤ R.cells ∧ slots + ms ≤ R.slots)
    (hn : As.length = n) (hl : ls.size = nL) (hst : st0 = As.reverse ++ rest) (hcat : (rest.map fun v => v.category).sum ≤ 8) (hdg : decode cc pc = .ok (.invokestatic index, 3)) :
    vx_Run p l e R s m args below meth c H locs cells slots mc ms (F0 m pc ls st0) rest (Qm κ w post H.size As.toArray) (Xm κ w postX H.size) (Ac w H.size) := by
  have ht := hX.1.2.2.2.2
  exact vx_runS (As := As) (rest := rest) (nL := nL) (own := own) hX.1 (hM H.size) ⟨callB_of n ht (gAll m5) rfl rfl rfl (ht _ m4) (ht _ m1) hy hR, ht _ m2⟩ ⟨Pm_blind, Pm_at hX hB⟩ rfl hn hl hst (lv_room hcat) hdg hf
/-- new X("text") is thrown -/
theorem throw_T {w0 : va_W} {post : Option Value → va_W → Prop} {postX : String → va_W → Prop} {mc ms pc : Nat} {ls : Array Slot} {rest : List Value} {cls text : String} {ik is ic : Nat} (hst : l.stackTraces = false) (hX : Cx κ p m c cc nL s args own meth ret A) (hne : ∀ x ∈ c.exceptionTable.toList, False) (hB : Bd κ A s w H locs) (hA3 : ∀ q, A q → Fw w0 q ∨ s.heap.size ≤ q)
    (ho : own = "Gridmender") (hcls : Bundle.fit cls = true) (m1 : Cond.classLink own ik cls ∈ wAll) (m2 : Cond.initialized cls ∈ wAll) (hstr : (is, text) ∈ strs)
    (hat1 : ∀ x ∈ (vx_atS own ic cls ["java/lang/RuntimeException", "java/lang/Exception"]).filter goodWord, x ∈ wAll) (hat2 : ∀ x ∈ (vx_atS own ic cls ["java/lang/RuntimeException", "java/lang/Exception"]).filter (fun x => !goodWord x), x ∈ wNest)
    (hgood : ∀ x ∈ Cond.classLink own ik cls :: Cond.initialized cls :: vx_atS own ic cls ["java/lang/RuntimeException", "java/lang/Exception"], vx_ot x = true) (hls : ls.size = nL)
    (d0 : decode cc pc = .ok (.new ik, 3)) (d3 : decode cc (pc + 3) = .ok (.dup, 1)) (d4 : decode cc (pc + 4) = .ok (.ldc is, 2)) (d6 : decode cc (pc + 6) = .ok (.invokespecial ic, 3)) (d9 : decode cc (pc + 9) = .ok (.athrow, 1))
    (hRf : 5 < R.frames) (hRl : (rest.map fun v => v.category).sum + 82 ≤ R.locals) (hRc : cells + 1 ≤ R.cells) (hRs : slots + 6 ≤ R.slots) (hp : postX cls w) (hc : cells + 1 ≤ mc) (hs : slots + 6 ≤ ms) :
    W p l e R s m args below meth c H locs cells slots (Zx κ below w0 post postX args s mc ms) (F0 m pc ls rest) := by
  subst ho
  obtain ⟨sa, hsa⟩ := hX.2.1.2.2.1.2.2.1 (is, text) hstr
  have ht := hX.1.2.2.2.2
  have hz := hX.2.1.2.2.1.1
  refine vx_throwS (names := ["java/lang/RuntimeException", "java/lang/Exception"]) hX.1.1 hX.1.2.1 hst hX.1.2.2.2.1 hcls (by decide +kernel) (ht _ m1) (ht _ m2) hsa (vx_hat (B := wNest) (fun x hx => ht _ (hat1 x hx)) hat2 (fun x hx => ?_)) hgood (hz.1.narrow hX.2.2.1) (hz.2.1.narrow hX.2.2.1) hB.2.2 (by rw [hX.1.2.2.1]; exact hls) d0 d3 d4 d6 d9 (fun x hx => (hne x hx).elim) hRf hRl hRc hRs hX.2.2.2.2.2 (fun t hvm hz1 hk => ⟨⟨w, hp, P_kept hB.1 (fun q hq => hk q (P_lt hB.1 hq)), hB.2.1.weaken (fun _ q _ h => hA3 q.1 h)⟩, ?_⟩) (fun q hq => hA3 _ (hB.2.2.2.2 q hq)) hc hs
  · have h1 := hX.2.1.2.1.use hx
    have h2 := (List.mem_filter.mp hx).2
    cases x <;> first | (simp [wNk] at h2; done) | exact va_Nw.use rfl h1
  · exact ⟨Nat.le_trans hB.2.2.1 hz1, fun q h1 h2 => (hk q (Nat.lt_of_lt_of_le h1 hB.2.2.1)).trans (hB.2.2.2.1 q h1 (fun h => h2 (hA3 q h)))⟩

theorem throw_TW {w0 : va_W} {post : Option Value → va_W → Prop} {postX : String → va_W → Prop} {mc ms pc : Nat} {ls : Array Slot} {rest : List Value} {cls text : String} {ik is ic : Nat} (hst : l.stackTraces = false) (hX : Cx κ p m c cc nL s args own meth ret A) (hne : ∀ x ∈ c.exceptionTable.toList, False) (hB : Bd κ A s w H locs) (hA3 : ∀ q, A q → Fw w0 q ∨ s.heap.size ≤ q)
    (ho : own = "Gridmender") (hcls : Bundle.fit cls = true) (m1 : Cond.classLink own ik cls ∈ wAll) (m2 : Cond.initialized cls ∈ wAll) (hstr : (is, text) ∈ strs)
    (hat1 : ∀ x ∈ (vx_atS own ic cls ["java/lang/RuntimeException", "java/lang/Exception"]).filter goodWord, x ∈ wAll) (hat2 : ∀ x ∈ (vx_atS own ic cls ["java/lang/RuntimeException", "java/lang/Exception"]).filter (fun x => !goodWord x), x ∈ wNest)
    (hgood : ∀ x ∈ Cond.classLink own ik cls :: Cond.initialized cls :: vx_atS own ic cls ["java/lang/RuntimeException", "java/lang/Exception"], vx_ot x = true) (hls : ls.size = nL)
    (d0 : decode cc pc = .ok (.new ik, 3)) (d3 : decode cc (pc + 3) = .ok (.dup, 1)) (d4 : decode cc (pc + 4) = .ok (.ldc_w is, 3)) (d6 : decode cc (pc + 7) = .ok (.invokespecial ic, 3)) (d9 : decode cc (pc + 10) = .ok (.athrow, 1))
    (hRf : 5 < R.frames) (hRl : (rest.map fun v => v.category).sum + 82 ≤ R.locals) (hRc : cells + 1 ≤ R.cells) (hRs : slots + 6 ≤ R.slots) (hp : postX cls w) (hc : cells + 1 ≤ mc) (hs : slots + 6 ≤ ms) :
    W p l e R s m args below meth c H locs cells slots (Zx κ below w0 post postX args s mc ms) (F0 m pc ls rest) := by
  subst ho
  obtain ⟨sa, hsa⟩ := hX.2.1.2.2.1.2.2.1 (is, text) hstr
  have ht := hX.1.2.2.2.2
  have hz := hX.2.1.2.2.1.1
  refine vx_throwSW (names := ["java/lang/RuntimeException", "java/lang/Exception"]) hX.1.1 hX.1.2.1 hst hX.1.2.2.2.1 hcls (by decide +kernel) (ht _ m1) (ht _ m2) hsa (vx_hat (B := wNest) (fun x hx => ht _ (hat1 x hx)) hat2 (fun x hx => ?_)) hgood (hz.1.narrow hX.2.2.1) (hz.2.1.narrow hX.2.2.1) hB.2.2 (by rw [hX.1.2.2.1]; exact hls) d0 d3 d4 d6 d9 (fun x hx => (hne x hx).elim) hRf hRl hRc hRs hX.2.2.2.2.2 (fun t hvm hz1 hk => ⟨⟨w, hp, P_kept hB.1 (fun q hq => hk q (P_lt hB.1 hq)), hB.2.1.weaken (fun _ q _ h => hA3 q.1 h)⟩, ?_⟩) (fun q hq => hA3 _ (hB.2.2.2.2 q hq)) hc hs
  · have h1 := hX.2.1.2.1.use hx
    have h2 := (List.mem_filter.mp hx).2
    cases x <;> first | (simp [wNk] at h2; done) | exact va_Nw.use rfl h1
  · exact ⟨Nat.le_trans hB.2.2.1 hz1, fun q h1 h2 => (hk q (Nat.lt_of_lt_of_le h1 hB.2.2.1)).trans (hB.2.2.2.1 q h1 (fun h => h2 (hA3 q h)))⟩
end GMX
end
section
-- 13.thr
/-- the words of the class's own throws -/
theorem tw_275a : ∀ x ∈ (vx_atS RX5 275 "java/lang/IndexOutOfBoundsException" ["java/lang/RuntimeException", "java/lang/Exception"]).filter goodWord, x ∈ wAll := by decide +kernel
theorem tw_275b : ∀ x ∈ (vx_atS RX5 275 "java/lang/IndexOutOfBoundsException" ["java/lang/RuntimeException", "java/lang/Exception"]).filter (fun x => !goodWord x), x ∈ wNest := by decide +kernel
theorem tw_275c : ∀ x ∈ Cond.classLink RX5 271 "java/lang/IndexOutOfBoundsException" :: Cond.initialized "java/lang/IndexOutOfBoundsException" :: vx_atS RX5 275 "java/lang/IndexOutOfBoundsException" ["java/lang/RuntimeException", "java/lang/Exception"], vx_ot x = true := by decide +kernel
theorem tw_282a : ∀ x ∈ (vx_atS RX5 282 "java/lang/IllegalArgumentException" ["java/lang/RuntimeException", "java/lang/Exception"]).filter goodWord, x ∈ wAll := by decide +kernel
theorem tw_282b : ∀ x ∈ (vx_atS RX5 282 "java/lang/IllegalArgumentException" ["java/lang/RuntimeException", "java/lang/Exception"]).filter (fun x => !goodWord x), x ∈ wNest := by decide +kernel
theorem tw_282c : ∀ x ∈ Cond.classLink RX5 278 "java/lang/IllegalArgumentException" :: Cond.initialized "java/lang/IllegalArgumentException" :: vx_atS RX5 282 "java/lang/IllegalArgumentException" ["java/lang/RuntimeException", "java/lang/Exception"], vx_ot x = true := by decide +kernel
theorem tw_227a : ∀ x ∈ (vx_atS RX5 227 "java/lang/IllegalStateException" ["java/lang/RuntimeException", "java/lang/Exception"]).filter goodWord, x ∈ wAll := by decide +kernel
theorem tw_227b : ∀ x ∈ (vx_atS RX5 227 "java/lang/IllegalStateException" ["java/lang/RuntimeException", "java/lang/Exception"]).filter (fun x => !goodWord x), x ∈ wNest := by decide +kernel
theorem tw_227c : ∀ x ∈ Cond.classLink RX5 223 "java/lang/IllegalStateException" :: Cond.initialized "java/lang/IllegalStateException" :: vx_atS RX5 227 "java/lang/IllegalStateException" ["java/lang/RuntimeException", "java/lang/Exception"], vx_ot x = true := by decide +kernel
/-- the shapes are in their bounds -/
def okr (r : Nat → Int32) : Prop := ∀ i : Nat, i < 15 → (1 ≤ r (2 * i) ∧ r (2 * i) ≤ 4) ∧ (1 ≤ r (2 * i + 1) ∧ r (2 * i + 1) ≤ 5)
theorem clampI {x t u M : Int32} (hM : 1 ≤ M) (h1 : t = if M < x then M else x) (h2 : u = if 1 < t then t else 1) : 1 ≤ u ∧ u ≤ M := by
  rw [i32_le] at hM
  rw [i32_le, i32_le]
  subst h2
  split
  · rename_i h3
    rw [i32_lt] at h3
    subst h1
    split at h3
    · rename_i h4
      rw [if_pos h4]
      omega
    · rename_i h4
      rw [if_neg h4]
      rw [i32_lt] at h4
      omega
  · exact ⟨Int.le_refl _, hM⟩
theorem okr_set {r : Nat → Int32} {i : Nat} {x y : Int32} (hx : 1 ≤ x ∧ x ≤ 4) (hy : 1 ≤ y ∧ y ≤ 5) (h : okr r) : okr (va_up (va_up r (2 * i) x) (2 * i + 1) y) := by
  intro k hk
  obtain ⟨h1, h2⟩ := h k hk
  constructor
  · simp only [va_up]
    rw [if_neg (by omega)]
    split
    · exact hx
    · exact h1
  · simp only [va_up]
    split
    · exact hy
    · rw [if_neg (by omega)]
      exact h2
theorem okr_like {r : Nat → Int32} {i j : Nat} (hj : j < 15) (h : okr r) : okr (va_up (va_up r (2 * i) (r (2 * j))) (2 * i + 1) (va_up r (2 * i) (r (2 * j)) (2 * j + 1))) := by
  refine okr_set (h j hj).1 ?_ h
  simp only [va_up]
  rw [if_neg (by omega)]
  exact (h j hj).2
theorem nn_step {x y : Int32} (h : 0 ≤ x) (c : ¬ y ≤ x) : 0 ≤ x + 1 := by
  rw [i32_le] at h ⊢
  rw [i32_succ (i32_not_le.mp c)]
  rw [show (0 : Int32).toInt = 0 from rfl] at h ⊢
  omega
theorem in_of {x : Int32} {n : Nat} {N : Int32} (hN : N.toInt = n) (h : 0 ≤ x) (c : ¬ N ≤ x) : vp_in x n := by
  rw [i32_le] at h c
  rw [show (0 : Int32).toInt = 0 from rfl] at h
  rw [vp_in_iff]
  omega
theorem in_of' {x : Int32} {n : Nat} {N : Int32} (hN : N.toInt = n) (h : ¬ x < 0) (c : ¬ N ≤ x) : vp_in x n := by
  rw [i32_lt] at h
  rw [i32_le] at c
  rw [show (0 : Int32).toInt = 0 from rfl] at h
  rw [vp_in_iff]
  omega
theorem clamp_lt {x : Int32} {n : Nat} (h : vp_in x n) : x.toNatClampNeg < n := Nat.not_le.mp (fun q => h (Or.inr q))
theorem lt15 {i : Nat} (h : i < 4) : i < 15 := by omega
theorem end_a {p : Program} {l : Launch} {e : Env} {R : Room} {s : State} {m : MethodId} {args : Array Value} {below : List Frame} {meth : Method} {c : Code} {H : Heap} {locs : List Loc} {cells slots : Nat} {κ : Kt} {cc : ByteArray} {nL : Nat} {own : String} {ret : Option FieldType} {A : Nat → Prop} {w : va_W} {pc : Nat} {ls : Array Slot} {w0 : va_W} {post : Option Value → va_W → Prop} {mc ms : Nat} {v : Value} {nm : String} (hX : Cx κ p m c cc nL s args own meth ret A) (hB : Bd κ A s w H locs) (hA3 : ∀ q, A q → Fw w0 q ∨ s.heap.size ≤ q) (hr : ret = some (.object nm)) (hv : v = .null ∨ ∃ a, v = .ref a) (hp : post (some v) w) (hc : cells ≤ mc) (hs : slots ≤ ms) (hdg : decode cc pc = .ok (.areturn, 1)) :
    W p l e R s m args below meth c H locs cells slots (Zm κ below w0 post args s mc ms) (F0 m pc ls [v]) := by
  refine W.widen hc hs (W.aret hX.1.1 hX.1.2.1 (hX.2.2.2.2.1.trans hr) (Or.inl ⟨_, rfl⟩) hv (fun t ht hW => ⟨⟨_, w, rfl, hp, by rw [ht]; exact hB.1, hB.2.1.weaken (fun _ q _ h => hA3 q.1 h)⟩, ?_⟩) (fun q hq => hA3 _ (hB.2.2.2.2 q hq)) hdg (hlocks := hX.2.2.2.2.2))
  exact ⟨by rw [ht]; exact hB.2.2.1, fun q h1 h2 => by rw [ht]; exact hB.2.2.2.1 q h1 (fun h => h2 (hA3 q h))⟩
end
section
-- 14.val
/-! ===== What a method answers, as a function: names, branches, calls ===== -/
def nm {α β : Type} (x : α) (k : α → β) : β := k x
theorem nm_use {α β : Type} {x y : α} {k : α → β} {R : β} (h : y = x) (hR : nm x k = R) : k y = R := by subst h; exact hR
theorem ifp {α : Type} {c : Prop} {h : Decidable c} {a b R : α} (hc : c) (hR : @ite α c h a b = R) : a = R := by rw [if_pos hc] at hR; exact hR
theorem ifn {α : Type} {c : Prop} {h : Decidable c} {a b R : α} (hc : ¬ c) (hR : @ite α c h a b = R) : b = R := by rw [if_neg hc] at hR; exact hR
def bnd1 {α β : Type} (p : α) (k : α → β) : β := k p
def bnd2 {α α2 β : Type} (p : α × α2) (k : α → α2 → β) : β := k p.1 p.2
def bnd3 {α α2 α3 β : Type} (p : α × α2 × α3) (k : α → α2 → α3 → β) : β := k p.1 p.2.1 p.2.2
def bnd4 {α α2 α3 α4 β : Type} (p : α × α2 × α3 × α4) (k : α → α2 → α3 → α4 → β) : β := k p.1 p.2.1 p.2.2.1 p.2.2.2
def bnd5 {α α2 α3 α4 α5 β : Type} (p : α × α2 × α3 × α4 × α5) (k : α → α2 → α3 → α4 → α5 → β) : β := k p.1 p.2.1 p.2.2.1 p.2.2.2.1 p.2.2.2.2
theorem bnd1_use {α β : Type} {p a : α} {k : α → β} {R : β} (h : p = a) (hR : bnd1 p k = R) : k a = R := by subst h; exact hR
theorem bnd2_use {α α2 β : Type} {p : α × α2} {a : α} {b : α2} {k : α → α2 → β} {R : β} (h : p = (a, b)) (hR : bnd2 p k = R) : k a b = R := by subst h; exact hR
theorem bnd3_use {α α2 α3 β : Type} {p : α × α2 × α3} {a : α} {b : α2} {c : α3} {k : α → α2 → α3 → β} {R : β} (h : p = (a, b, c)) (hR : bnd3 p k = R) : k a b c = R := by subst h; exact hR
theorem bnd4_use {α α2 α3 α4 β : Type} {p : α × α2 × α3 × α4} {a : α} {b : α2} {c : α3} {d : α4} {k : α → α2 → α3 → α4 → β} {R : β} (h : p = (a, b, c, d)) (hR : bnd4 p k = R) : k a b c d = R := by subst h; exact hR
theorem bnd5_use {α α2 α3 α4 α5 β : Type} {p : α × α2 × α3 × α4 × α5} {a : α} {b : α2} {c : α3} {d : α4} {e : α5} {k : α → α2 → α3 → α4 → α5 → β} {R : β} (h : p = (a, b, c, d, e)) (hR : bnd5 p k = R) : k a b c d e = R := by subst h; exact hR
theorem ex1 {α : Type} (p : α) : ∃ a, p = a := ⟨_, rfl⟩
theorem ex2 {α α2 : Type} (p : α × α2) : ∃ a b, p = (a, b) := ⟨_, _, rfl⟩
theorem ex3 {α α2 α3 : Type} (p : α × α2 × α3) : ∃ a b c, p = (a, b, c) := ⟨_, _, _, rfl⟩
theorem ex4 {α α2 α3 α4 : Type} (p : α × α2 × α3 × α4) : ∃ a b c d, p = (a, b, c, d) := ⟨_, _, _, _, rfl⟩
theorem ex5 {α α2 α3 α4 α5 : Type} (p : α × α2 × α3 × α4 × α5) : ∃ a b c d e, p = (a, b, c, d, e) := ⟨_, _, _, _, _, rfl⟩
theorem pr2 {α α2 : Type} {a a' : α} {b b' : α2} (h : (a, b) = (a', b')) : a = a' ∧ b = b' := Prod.mk.inj h
theorem pr3 {α α2 α3 : Type} {a a' : α} {b b' : α2} {c c' : α3} (h : (a, b, c) = (a', b', c')) : a = a' ∧ b = b' ∧ c = c' := ⟨(Prod.mk.inj h).1, pr2 (Prod.mk.inj h).2⟩
theorem pr4 {α α2 α3 α4 : Type} {a a' : α} {b b' : α2} {c c' : α3} {d d' : α4} (h : (a, b, c, d) = (a', b', c', d')) : a = a' ∧ b = b' ∧ c = c' ∧ d = d' := ⟨(Prod.mk.inj h).1, pr3 (Prod.mk.inj h).2⟩
theorem pr5 {α α2 α3 α4 α5 : Type} {a a' : α} {b b' : α2} {c c' : α3} {d d' : α4} {e e' : α5} (h : (a, b, c, d, e) = (a', b', c', d', e')) : a = a' ∧ b = b' ∧ c = c' ∧ d = d' ∧ e = e' := ⟨(Prod.mk.inj h).1, pr4 (Prod.mk.inj h).2⟩
theorem ne_mt {E : String} {xs : List String} (h : E ∈ xs) (hx : "" ∉ xs) : ¬ E = "" := fun e => hx (e ▸ h)
def bnd6 {α α2 α3 α4 α5 α6 β : Type} (p : α × α2 × α3 × α4 × α5 × α6) (k : α → α2 → α3 → α4 → α5 → α6 → β) : β := k p.1 p.2.1 p.2.2.1 p.2.2.2.1 p.2.2.2.2.1 p.2.2.2.2.2
def bnd7 {α α2 α3 α4 α5 α6 α7 β : Type} (p : α × α2 × α3 × α4 × α5 × α6 × α7) (k : α → α2 → α3 → α4 → α5 → α6 → α7 → β) : β := k p.1 p.2.1 p.2.2.1 p.2.2.2.1 p.2.2.2.2.1 p.2.2.2.2.2.1 p.2.2.2.2.2.2
theorem bnd6_use {α α2 α3 α4 α5 α6 β : Type} {p : α × α2 × α3 × α4 × α5 × α6} {a : α} {b : α2} {c : α3} {d : α4} {e : α5} {f : α6} {k : α → α2 → α3 → α4 → α5 → α6 → β} {R : β} (h : p = (a, b, c, d, e, f)) (hR : bnd6 p k = R) : k a b c d e f = R := by subst h; exact hR
theorem bnd7_use {α α2 α3 α4 α5 α6 α7 β : Type} {p : α × α2 × α3 × α4 × α5 × α6 × α7} {a : α} {b : α2} {c : α3} {d : α4} {e : α5} {f : α6} {g : α7} {k : α → α2 → α3 → α4 → α5 → α6 → α7 → β} {R : β} (h : p = (a, b, c, d, e, f, g)) (hR : bnd7 p k = R) : k a b c d e f g = R := by subst h; exact hR
theorem ex6 {α α2 α3 α4 α5 α6 : Type} (p : α × α2 × α3 × α4 × α5 × α6) : ∃ a b c d e f, p = (a, b, c, d, e, f) := ⟨_, _, _, _, _, _, rfl⟩
theorem ex7 {α α2 α3 α4 α5 α6 α7 : Type} (p : α × α2 × α3 × α4 × α5 × α6 × α7) : ∃ a b c d e f g, p = (a, b, c, d, e, f, g) := ⟨_, _, _, _, _, _, _, rfl⟩
theorem pr6 {α α2 α3 α4 α5 α6 : Type} {a a' : α} {b b' : α2} {c c' : α3} {d d' : α4} {e e' : α5} {f f' : α6} (h : (a, b, c, d, e, f) = (a', b', c', d', e', f')) : a = a' ∧ b = b' ∧ c = c' ∧ d = d' ∧ e = e' ∧ f = f' := ⟨(Prod.mk.inj h).1, pr5 (Prod.mk.inj h).2⟩
theorem pr7 {α α2 α3 α4 α5 α6 α7 : Type} {a a' : α} {b b' : α2} {c c' : α3} {d d' : α4} {e e' : α5} {f f' : α6} {g g' : α7} (h : (a, b, c, d, e, f, g) = (a', b', c', d', e', f', g')) : a = a' ∧ b = b' ∧ c = c' ∧ d = d' ∧ e = e' ∧ f = f' ∧ g = g' := ⟨(Prod.mk.inj h).1, pr6 (Prod.mk.inj h).2⟩
end
