/-- the words of the class's own throws -/
theorem tw_275a : ∀ x ∈ (vx_atS RX5 275 "java/lang/IndexOutOfBoundsException" ["java/lang/RuntimeException", "java/lang/Exception"]).filter goodWord, x ∈ wAll := by decide +kernel
theorem tw_275b : ∀ x ∈ (vx_atS RX5 275 "java/lang/IndexOutOfBoundsException" ["java/lang/RuntimeException", "java/lang/Exception"]).filter (fun x => !goodWord x), x ∈ wNest := by decide +kernel
theorem tw_275c : ∀ x ∈ Cond.classLink RX5 271 "java/lang/IndexOutOfBoundsException" :: Cond.initialized "java/lang/IndexOutOfBoundsException" :: vx_atS RX5 275 "java/lang/IndexOutOfBoundsException" ["java/lang/RuntimeException", "java/lang/Exception"], vx_ot x = true := by decide +kernel
theorem tw_282a : ∀ x ∈ (vx_atS RX5 282 "java/lang/IllegalArgumentException" ["java/lang/RuntimeException", "java/lang/Exception"]).filter goodWord, x ∈ wAll := by decide +kernel
theorem tw_282b : ∀ x ∈ (vx_atS RX5 282 "java/lang/IllegalArgumentException" ["java/lang/RuntimeException", "java/lang/Exception"]).filter (fun x => !goodWord x), x ∈ wNest := by decide +kernel
theorem tw_282c : ∀ x ∈ Cond.classLink RX5 278 "java/lang/IllegalArgumentException" :: Cond.initialized "java/lang/IllegalArgumentException" :: vx_atS RX5 282 "java/lang/IllegalArgumentException" ["java/lang/RuntimeException", "java/lang/Exception"], vx_ot x = true := by decide +kernel
theorem tw_227a : ∀ x ∈ (vx_atS RX5 227 "java/lang/IllegalStateException" ["java/lang/RuntimeException", "java/lang/Exception"]).filter goodWord, x ∈ wAll := by decide +kernel
theorem tw_227b : ∀ x ∈ (vx_atS RX5 227 "java/lang/IllegalStateException" ["java/lang/RuntimeException", "java/lang/Exception"]).filter (fun x => !goodWord x), x ∈ wNest := by decide +kernel
theorem tw_227c : ∀ x ∈ Cond.classLink RX5 223 "java/lang/IllegalStateException" :: Cond.initialized "java/lang/IllegalStateException" :: vx_atS RX5 227 "java/lang/IllegalStateException" ["java/lang/RuntimeException", "java/lang/Exception"], vx_ot x = true := by decide +kernel
/-- the shapes are in their bounds -/
def okr (r : Nat → Int32) : Prop := ∀ i : Nat, i < 15 → (1 ≤ r (2 * i) ∧ r (2 * i) ≤ 4) ∧ (1 ≤ r (2 * i + 1) ∧ r (2 * i + 1) ≤ 5)
theorem clampI {x t u M : Int32} (hM : 1 ≤ M) (h1 : t = if M < x then M else x) (h2 : u = if 1 < t then t else 1) : 1 ≤ u ∧ u ≤ M := by
  rw [i32_le] at hM
  rw [i32_le, i32_le]
  subst h2
  split
  · rename_i h3
    rw [i32_lt] at h3
    subst h1
    split at h3
    · rename_i h4
      rw [if_pos h4]
      omega
    · rename_i h4
      rw [if_neg h4]
      rw [i32_lt] at h4
      omega
  · exact ⟨Int.le_refl _, hM⟩
theorem okr_set {r : Nat → Int32} {i : Nat} {x y : Int32} (hx : 1 ≤ x ∧ x ≤ 4) (hy : 1 ≤ y ∧ y ≤ 5) (h : okr r) : okr (va_up (va_up r (2 * i) x) (2 * i + 1) y) := by
  intro k hk
  obtain ⟨h1, h2⟩ := h k hk
  constructor
  · simp only [va_up]
    rw [if_neg (by omega)]
    split
    · exact hx
    · exact h1
  · simp only [va_up]
    split
    · exact hy
    · rw [if_neg (by omega)]
      exact h2
theorem okr_like {r : Nat → Int32} {i j : Nat} (hj : j < 15) (h : okr r) : okr (va_up (va_up r (2 * i) (r (2 * j))) (2 * i + 1) (va_up r (2 * i) (r (2 * j)) (2 * j + 1))) := by
  refine okr_set (h j hj).1 ?_ h
  simp only [va_up]
  rw [if_neg (by omega)]
  exact (h j hj).2
theorem nn_step {x y : Int32} (h : 0 ≤ x) (c : ¬ y ≤ x) : 0 ≤ x + 1 := by
  rw [i32_le] at h ⊢
  rw [i32_succ (i32_not_le.mp c)]
  rw [show (0 : Int32).toInt = 0 from rfl] at h ⊢
  omega
theorem in_of {x : Int32} {n : Nat} {N : Int32} (hN : N.toInt = n) (h : 0 ≤ x) (c : ¬ N ≤ x) : vp_in x n := by
  rw [i32_le] at h c
  rw [show (0 : Int32).toInt = 0 from rfl] at h
  rw [vp_in_iff]
  omega
theorem in_of' {x : Int32} {n : Nat} {N : Int32} (hN : N.toInt = n) (h : ¬ x < 0) (c : ¬ N ≤ x) : vp_in x n := by
  rw [i32_lt] at h
  rw [i32_le] at c
  rw [show (0 : Int32).toInt = 0 from rfl] at h
  rw [vp_in_iff]
  omega
theorem clamp_lt {x : Int32} {n : Nat} (h : vp_in x n) : x.toNatClampNeg < n := Nat.not_le.mp (fun q => h (Or.inr q))
theorem lt15 {i : Nat} (h : i < 4) : i < 15 := by omega
theorem end_a {p : Program} {l : Launch} {e : Env} {R : Room} {s : State} {m : MethodId} {args : Array Value} {below : List Frame} {meth : Method} {c : Code} {H : Heap} {locs : List Loc} {cells slots : Nat} {κ : Kt} {cc : ByteArray} {nL : Nat} {own : String} {ret : Option FieldType} {A : Nat → Prop} {w : va_W} {pc : Nat} {ls : Array Slot} {w0 : va_W} {post : Option Value → va_W → Prop} {mc ms : Nat} {v : Value} {nm : String} (hX : Cx κ p m c cc nL s args own meth ret A) (hB : Bd κ A s w H locs) (hA3 : ∀ q, A q → Fw w0 q ∨ s.heap.size ≤ q) (hr : ret = some (.object nm)) (hv : v = .null ∨ ∃ a, v = .ref a) (hp : post (some v) w) (hc : cells ≤ mc) (hs : slots ≤ ms) (hdg : decode cc pc = .ok (.areturn, 1)) :
    W p l e R s m args below meth c H locs cells slots (Zm κ below w0 post args s mc ms) (F0 m pc ls [v]) := by
  refine W.widen hc hs (W.aret hX.1.1 hX.1.2.1 (hX.2.2.2.2.1.trans hr) (Or.inl ⟨_, rfl⟩) hv (fun t ht hW => ⟨⟨_, w, rfl, hp, by rw [ht]; exact hB.1, hB.2.1.weaken (fun _ q _ h => hA3 q.1 h)⟩, ?_⟩) (fun q hq => hA3 _ (hB.2.2.2.2 q hq)) hdg (hlocks := hX.2.2.2.2.2))
  exact ⟨by rw [ht]; exact hB.2.2.1, fun q h1 h2 => by rw [ht]; exact hB.2.2.2.1 q h1 (fun h => h2 (hA3 q h))⟩
