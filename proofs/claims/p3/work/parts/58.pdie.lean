/-- a pass, in whole numbers: the least comes to t, t; lines are taken off; a line may be added at its end -/
def Ps (R C t : Nat) (w w3 : Nat → Int64) : Prop := ∃ (m c0 : Nat) (s : Int) (Q K : Nat → Int) (B W1 W2 : Nat → Nat → Int), (t ≤ m ∧ m < R ∧ t ≤ c0 ∧ c0 < C) ∧ (s = 1 ∨ s = -1) ∧ ¬ w (m * 5 + c0) = 0 ∧ (∀ a b, t ≤ a → a < R → t ≤ b → b < C → ¬ w (a * 5 + b) = 0 → na (w (m * 5 + c0)) ≤ na (w (a * 5 + b))) ∧ Fi R C t w m c0 ∧
  (∀ a b, t ≤ a → a < R → t ≤ b → b < C → B a b = (if a = t then s else 1) * (w ((if a = t then m else if a = m then t else a) * 5 + (if b = t then c0 else if b = c0 then t else b))).toInt) ∧ 0 < B t t ∧
  (∀ b, t ≤ b → b < C → W1 t b = B t b) ∧ (∀ a b, t < a → a < R → t ≤ b → b < C → W1 a b = B a b - Q a * B t b) ∧ (∀ a, t < a → a < R → 0 ≤ W1 a t ∧ W1 a t < B t t) ∧
  (∀ a, t ≤ a → a < R → W2 a t = W1 a t) ∧ (∀ a b, t ≤ a → a < R → t < b → b < C → W2 a b = W1 a b - K b * W1 a t) ∧ (∀ b, t < b → b < C → 0 ≤ W2 t b ∧ W2 t b < B t t) ∧
  (((∀ a b, t ≤ a → a < R → t ≤ b → b < C → (w3 (a * 5 + b)).toInt = W2 a b) ∧ ((∃ a, t < a ∧ a < R ∧ W2 a t ≠ 0) ∨ ∃ b, t < b ∧ b < C ∧ W2 t b ≠ 0)) ∨
   ((∀ a, t < a → a < R → W2 a t = 0) ∧ (∀ b, t < b → b < C → W2 t b = 0) ∧ ∃ i j, t < i ∧ i < R ∧ t < j ∧ j < C ∧ W2 i j % W2 t t ≠ 0 ∧ ∀ a b, t ≤ a → a < R → t ≤ b → b < C → (w3 (a * 5 + b)).toInt = if a = t then W2 t b + W2 i b else W2 a b))
/-- both sides have ended: great both, or the same -/
def FdD (R C t : Nat) (w : Nat → Int64) (q : Nat → Int32) (f : Nat → Nat → Int64) (CL : Int32 × (Nat → Int32) × (Nat → Nat → Int64)) (RF : Int32 × (Nat → Int64) × (Nat → Int64) × (Nat → Int64) × Int32 × Int32 × Int32) : Prop :=
  ∃ (G xc xr j1 j2 : Int32) (w1 v1 u1 w2 v2 u2 : Nat → Int64), (G = 0 ∨ G = 1) ∧ CL = (xc, va_up q 1 G, ds f w1 v1 u1) ∧ RF = (xr, u2, v2, w2, j1, j2, G) ∧ (G = 1 → xr = 0) ∧ (G = 0 → xc = xr ∧ (xr = 0 ∨ xr = 1) ∧ w2 = w1 ∧ v2 = v1 ∧ u2 = u1 ∧ Sd R C w1 v1 u1 ∧ Fj t w w1 ∧ (xr = 1 → ¬ w1 (t * 5 + t) = 0) ∧ (xr = 0 → ∀ a b, t ≤ a → a < R → t ≤ b → b < C → w1 (a * 5 + b) = 0))
section PDE
variable {r q : Nat → Int32} {f : Nat → Nat → Int64} {w v u : Nat → Int64} {R C a b t m c0 : Nat} {x : Int64} {i1 i2 i3 : Int32}
theorem cc41 (hD : DH r R C) (hR : R ≤ 4) (hC : C ≤ 4) (ht : t < R ∧ t < C) : ∀ n1 n2 y : Nat, y ≤ C → C - y < n1 → C - y < n2 → ((∀ b, y ≤ b → b < C → w (t * 5 + b) = 0) ∧ D_X1_isCrossClear_41 r q (ds f w v u) (nI t) n1 (nI y) = 1 ∧ D_X9_isAlone_41 C w t n2 y = 1) ∨ ((∃ b, y ≤ b ∧ b < C ∧ ¬ w (t * 5 + b) = 0) ∧ D_X1_isCrossClear_41 r q (ds f w v u) (nI t) n1 (nI y) = 0 ∧ D_X9_isAlone_41 C w t n2 y = 0) := by
  intro n1
  induction n1 with
  | zero => intro n2 y _ h; omega
  | succ n1 ih =>
    intro n2 y hy h1 h2
    obtain ⟨n2, rfl⟩ : ∃ n, n2 = n + 1 := ⟨n2 - 1, by omega⟩
    rw [D_X1_isCrossClear_41_s, D_X9_isAlone_41_s, hD.1.2]
    by_cases e : C ≤ y
    · rw [if_pos (ile e (by omega)), if_pos e]
      exact Or.inl ⟨fun b h1 h2 => absurd h2 (by omega), rfl, rfl⟩
    · rw [if_neg (nile e (by omega)), if_neg e]
      simp only [bnd1]
      rw [cget (by omega) (by omega), ds8, cpl (by omega)]
      by_cases e0 : w (t * 5 + y) = 0
      · rw [if_pos (lgE.mpr e0), if_pos (lgE.mpr e0), s1]
        rcases ih n2 (y + 1) (by omega) (by omega) (by omega) with ⟨k1, k2⟩ | ⟨⟨b, k1, k2, k3⟩, k4⟩
        · refine Or.inl ⟨fun b h3 h4 => ?_, k2⟩
          by_cases e1 : b = y
          · rw [e1]; exact e0
          · exact k1 b (by omega) h4
        · exact Or.inr ⟨⟨b, by omega, k2, k3⟩, k4⟩
      · rw [if_neg (fun h => e0 (lgE.mp h)), if_neg (fun h => e0 (lgE.mp h))]
        exact Or.inr ⟨⟨y, Nat.le_refl _, by omega, e0⟩, rfl, rfl⟩
theorem cc4 (hD : DH r R C) (hR : R ≤ 4) (hC : C ≤ 4) (ht : t < R ∧ t < C) : ∀ n1 n2 y : Nat, y ≤ R → R - y < n1 → R - y < n2 → (((∀ a, y ≤ a → a < R → w (a * 5 + t) = 0) ∧ ∀ b, t + 1 ≤ b → b < C → w (t * 5 + b) = 0) ∧ D_X1_isCrossClear_4 r q (ds f w v u) (nI t) n1 (nI y) = 1 ∧ D_X9_isAlone_4 R C w t n2 y = 1) ∨ (((∃ a, y ≤ a ∧ a < R ∧ ¬ w (a * 5 + t) = 0) ∨ ∃ b, t + 1 ≤ b ∧ b < C ∧ ¬ w (t * 5 + b) = 0) ∧ D_X1_isCrossClear_4 r q (ds f w v u) (nI t) n1 (nI y) = 0 ∧ D_X9_isAlone_4 R C w t n2 y = 0) := by
  intro n1
  induction n1 with
  | zero => intro n2 y _ h; omega
  | succ n1 ih =>
    intro n2 y hy h1 h2
    obtain ⟨n2, rfl⟩ : ∃ n, n2 = n + 1 := ⟨n2 - 1, by omega⟩
    rw [D_X1_isCrossClear_4_s, D_X9_isAlone_4_s, hD.1.1]
    by_cases e : R ≤ y
    · rw [if_pos (ile e (by omega)), if_pos e, hD.1.2, s1, gapN (by omega) (by omega)]
      rcases cc41 (r := r) (q := q) (f := f) (w := w) (v := v) (u := u) hD hR hC ht (C - (t + 1) + 1) (C + 1 - (t + 1) + 1) (t + 1) (by omega) (by omega) (by omega) with ⟨k1, k2⟩ | ⟨k1, k2⟩
      · exact Or.inl ⟨⟨fun a h1 h2 => absurd h2 (by omega), k1⟩, k2⟩
      · exact Or.inr ⟨Or.inr k1, k2⟩
    · rw [if_neg (nile e (by omega)), if_neg e]
      simp only [bnd1]
      rw [cget (by omega) (by omega), ds8, cpl (by omega)]
      by_cases e0 : w (y * 5 + t) = 0
      · rw [if_pos (lgE.mpr e0), if_pos (lgE.mpr e0), s1]
        rcases ih n2 (y + 1) (by omega) (by omega) (by omega) with ⟨⟨k1, k2⟩, k3⟩ | ⟨k1, k4⟩
        · refine Or.inl ⟨⟨fun b h3 h4 => ?_, k2⟩, k3⟩
          by_cases e1 : b = y
          · rw [e1]; exact e0
          · exact k1 b (by omega) h4
        · refine Or.inr ⟨?_, k4⟩
          rcases k1 with ⟨b, k1, k2, k3⟩ | k1
          · exact Or.inl ⟨b, by omega, k2, k3⟩
          · exact Or.inr k1
      · rw [if_neg (fun h => e0 (lgE.mp h)), if_neg (fun h => e0 (lgE.mp h))]
        exact Or.inr ⟨Or.inl ⟨y, Nat.le_refl _, by omega, e0⟩, rfl, rfl⟩
/-- the cross: clear on both sides, or on none -/
theorem cc_eq (hD : DH r R C) (hR : R ≤ 4) (hC : C ≤ 4) (ht : t < R ∧ t < C) : (((∀ a, t + 1 ≤ a → a < R → w (a * 5 + t) = 0) ∧ ∀ b, t + 1 ≤ b → b < C → w (t * 5 + b) = 0) ∧ D_X1_isCrossClear r q (ds f w v u) (nI t) = 1 ∧ D_X9_isAlone R C u v w i1 i2 i3 0 t = 1) ∨ (((∃ a, t + 1 ≤ a ∧ a < R ∧ ¬ w (a * 5 + t) = 0) ∨ ∃ b, t + 1 ≤ b ∧ b < C ∧ ¬ w (t * 5 + b) = 0) ∧ D_X1_isCrossClear r q (ds f w v u) (nI t) = 0 ∧ D_X9_isAlone R C u v w i1 i2 i3 0 t = 0) := by
  unfold D_X1_isCrossClear D_X9_isAlone
  rw [hD.1.1, s1, gapN (by omega) (by omega)]
  exact cc4 hD hR hC ht _ _ (t + 1) (by omega) (by omega) (by omega)
theorem cdv {p y : Int64} (hp : p ≠ 0) : D_X5_divides p y = if lg_cmp (y - y / p * p) 0 = 0 then 1 else 0 := by
  unfold D_X5_divides
  rw [if_neg (fun h => hp (lgE.mp h))]
/-- the first row with one that is not divided -/
theorem dv19 (hD : DH r R C) (hR : R ≤ 4) (hC : C ≤ 4) (ht : t < R ∧ t < C) (hp : w (t * 5 + t) ≠ 0) {i : Nat} (hi : i < R) {lc : Int32 → Int32} {lr : Nat → Int32 × (Nat → Int64) × (Nat → Int64) × Int32} : ∀ n1 n2 y : Nat, y ≤ C → C - y < n1 → C - y < n2 → (D_X1_findUndividedRow_19 r q (ds f w v u) (nI t) lc (nI i) n1 (nI y) = lc (nI (i + 1)) ∧ D_X9_isDividing_19 R C u v w i1 i2 i3 0 t lr i n2 y = lr (i + 1)) ∨ ((∃ j, y ≤ j ∧ j < C ∧ ¬ w (i * 5 + j) - w (i * 5 + j) / w (t * 5 + t) * w (t * 5 + t) = 0) ∧ D_X1_findUndividedRow_19 r q (ds f w v u) (nI t) lc (nI i) n1 (nI y) = nI i ∧ D_X9_isDividing_19 R C u v w i1 i2 i3 0 t lr i n2 y = (0, ar R t i 1 v, ar C t i 1 w, D_X9_look R C u (ar R t i 1 v) (ar C t i 1 w) i1 i2 i3 0)) := by
  intro n1
  induction n1 with
  | zero => intro n2 y _ h; omega
  | succ n1 ih =>
    intro n2 y hy h1 h2
    obtain ⟨n2, rfl⟩ : ∃ n, n2 = n + 1 := ⟨n2 - 1, by omega⟩
    rw [D_X1_findUndividedRow_19_s, D_X9_isDividing_19_s, hD.1.2]
    by_cases e : C ≤ y
    · rw [if_pos (ile e (by omega)), if_pos e, s1]
      exact Or.inl ⟨rfl, rfl⟩
    · rw [if_neg (nile e (by omega)), if_neg e]
      simp only [bnd1]
      rw [cget (by omega) (by omega), cget (by omega) (by omega), ds8, cpl (by omega), cpl (by omega), cdv hp]
      by_cases e0 : lg_cmp (w (i * 5 + y) - w (i * 5 + y) / w (t * 5 + t) * w (t * 5 + t)) 0 = 0
      · rw [if_pos e0, if_pos e0, if_neg (show ¬ (1 : Int32) = 0 by decide), s1]
        rcases ih n2 (y + 1) (by omega) (by omega) (by omega) with h | ⟨⟨j, k1, k2, k3⟩, k4⟩
        · exact Or.inl h
        · exact Or.inr ⟨⟨j, by omega, k2, k3⟩, k4⟩
      · rw [if_neg e0, if_neg e0, if_pos (show (0 : Int32) = 0 from rfl)]
        exact Or.inr ⟨⟨y, Nat.le_refl _, by omega, fun h => e0 (lgE.mpr h)⟩, rfl, rfl⟩
theorem dv4 (hD : DH r R C) (hR : R ≤ 4) (hC : C ≤ 4) (ht : t < R ∧ t < C) (hp : w (t * 5 + t) ≠ 0) : ∀ n1 n2 y : Nat, t + 1 ≤ y → y ≤ R → R - y < n1 → R - y < n2 → (D_X1_findUndividedRow_4 r q (ds f w v u) (nI t) n1 (nI y) = -1 ∧ D_X9_isDividing_4 R C u v w i1 i2 i3 0 t n2 y = (1, v, w, 0)) ∨ (∃ i j, t < i ∧ i < R ∧ t < j ∧ j < C ∧ ¬ w (i * 5 + j) - w (i * 5 + j) / w (t * 5 + t) * w (t * 5 + t) = 0 ∧ D_X1_findUndividedRow_4 r q (ds f w v u) (nI t) n1 (nI y) = nI i ∧ D_X9_isDividing_4 R C u v w i1 i2 i3 0 t n2 y = (0, ar R t i 1 v, ar C t i 1 w, D_X9_look R C u (ar R t i 1 v) (ar C t i 1 w) i1 i2 i3 0)) := by
  intro n1
  induction n1 with
  | zero => intro n2 y _ _ h; omega
  | succ n1 ih =>
    intro n2 y hy0 hy h1 h2
    obtain ⟨n2, rfl⟩ : ∃ n, n2 = n + 1 := ⟨n2 - 1, by omega⟩
    rw [D_X1_findUndividedRow_4_s, D_X9_isDividing_4_s, hD.1.1]
    by_cases e : R ≤ y
    · rw [if_pos (ile e (by omega)), if_pos e]
      exact Or.inl ⟨rfl, rfl⟩
    · rw [if_neg (nile e (by omega)), if_neg e, hD.1.2, s1, gapN (by omega) (by omega)]
      rcases dv19 (r := r) (q := q) (f := f) (v := v) (u := u) (i1 := i1) (i2 := i2) (i3 := i3) hD hR hC ht hp (show y < R by omega) (lc := D_X1_findUndividedRow_4 r q (ds f w v u) (nI t) n1) (lr := D_X9_isDividing_4 R C u v w i1 i2 i3 0 t n2) (C - (t + 1) + 1) (C + 1 - (t + 1) + 1) (t + 1) (by omega) (by omega) (by omega) with ⟨k1, k2⟩ | ⟨⟨j, k1, k2, k3⟩, k4, k5⟩
      · rw [k1, k2]
        exact ih n2 (y + 1) (by omega) (by omega) (by omega) (by omega)
      · exact Or.inr ⟨y, j, by omega, by omega, by omega, k2, k3, k4, k5⟩
theorem dv_eq (hD : DH r R C) (hR : R ≤ 4) (hC : C ≤ 4) (ht : t < R ∧ t < C) (hp : w (t * 5 + t) ≠ 0) : (D_X1_findUndividedRow r q (ds f w v u) (nI t) = -1 ∧ D_X9_isDividing R C u v w i1 i2 i3 0 t = (1, v, w, 0)) ∨ (∃ i j, t < i ∧ i < R ∧ t < j ∧ j < C ∧ ¬ w (i * 5 + j) - w (i * 5 + j) / w (t * 5 + t) * w (t * 5 + t) = 0 ∧ D_X1_findUndividedRow r q (ds f w v u) (nI t) = nI i ∧ D_X9_isDividing R C u v w i1 i2 i3 0 t = (0, ar R t i 1 v, ar C t i 1 w, D_X9_look R C u (ar R t i 1 v) (ar C t i 1 w) i1 i2 i3 0)) := by
  unfold D_X1_findUndividedRow D_X9_isDividing
  rw [hD.1.1, s1, gapN (by omega) (by omega)]
  exact dv4 hD hR hC ht hp _ _ (t + 1) (Nat.le_refl _) (by omega) (by omega) (by omega)
end PDE
