section
-- 60.pbnd
/-- the two others of three -/
def pm (a a' : Nat) : Prop := (a = 1 ∧ a' = 2) ∨ (a = 2 ∧ a' = 1)
/-- all that is not 0 is above the half of P in size -/
def Bg (P : Int) (X : Nat → Nat → Int) : Prop := ∀ i j, X i j = 0 ∨ P < 2 * X i j ∨ 2 * X i j < -P
/-- the least, and the first of it -/
def Lst (X : Nat → Nat → Int) (m c : Nat) (p : Int) : Prop := 0 < p ∧ (∀ i j, X i j = 0 ∨ p ≤ X i j ∨ X i j ≤ -p) ∧ ∀ i j, (i < m ∨ (i = m ∧ j < c)) → X i j = 0 ∨ p < X i j ∨ X i j < -p
def Vp (X W : Nat → Nat → Int) (m m1 a a' c c1 b b' : Nat) (p s q1 q2 k1 k2 : Int) : Prop :=
  (s = 1 ∨ s = -1) ∧ s * X m c = p ∧ W 0 0 = p ∧
  W 0 b = s * X m c1 - k1 * p ∧ W 0 b' = s * X m b' - k2 * p ∧ W a 0 = X m1 c - q1 * p ∧ W a' 0 = X a' c - q2 * p ∧
  W a b = X m1 c1 - q1 * (s * X m c1) - k1 * W a 0 ∧ W a b' = X m1 b' - q1 * (s * X m b') - k2 * W a 0 ∧
  W a' b = X a' c1 - q2 * (s * X m c1) - k1 * W a' 0 ∧ W a' b' = X a' b' - q2 * (s * X m b') - k2 * W a' 0 ∧
  (0 ≤ W 0 b ∧ W 0 b < p) ∧ (0 ≤ W 0 b' ∧ W 0 b' < p) ∧ (0 ≤ W a 0 ∧ W a 0 < p) ∧ (0 ≤ W a' 0 ∧ W a' 0 < p)
def En (W Y : Nat → Nat → Int) (a a' b b' : Nat) (p : Int) : Prop :=
  ((∀ i j, Y i j = W i j) ∧ (W a 0 ≠ 0 ∨ W a' 0 ≠ 0 ∨ W 0 b ≠ 0 ∨ W 0 b' ≠ 0)) ∨
  ((W a 0 = 0 ∧ W a' 0 = 0 ∧ W 0 b = 0 ∧ W 0 b' = 0) ∧ ∃ i, (i = a ∨ i = a') ∧ (W i b % p ≠ 0 ∨ W i b' % p ≠ 0) ∧ Y 0 0 = p ∧ Y 0 b = W i b ∧ Y 0 b' = W i b' ∧ (∀ j, Y a j = W a j) ∧ ∀ j, Y a' j = W a' j)
def Pv (X Y : Nat → Nat → Int) : Prop := ∃ (m m1 a a' c c1 b b' : Nat) (p s q1 q2 k1 k2 : Int) (W : Nat → Nat → Int), pm a a' ∧ pm b b' ∧ ((m = 0 ∧ m1 = a) ∨ (m = a ∧ m1 = 0)) ∧ ((c = 0 ∧ c1 = b) ∨ (c = b ∧ c1 = 0)) ∧ Lst X m c p ∧ Vp X W m m1 a a' c c1 b b' p s q1 q2 k1 k2 ∧ En W Y a a' b b' p
/-- a state with something left in the cross -/
def SN (X : Nat → Nat → Int) (p P : Int) (a a' b b' : Nat) : Prop := X 0 0 = p ∧ 0 < p ∧ p ≤ P ∧ (0 ≤ X 0 b ∧ X 0 b < p) ∧ (0 ≤ X 0 b' ∧ X 0 b' < p) ∧ (0 ≤ X a 0 ∧ X a 0 < p) ∧ (0 ≤ X a' 0 ∧ X a' 0 < p) ∧ (X a 0 ≠ 0 ∨ X a' 0 ≠ 0 ∨ X 0 b ≠ 0 ∨ X 0 b' ≠ 0)
/-- a state with a row added -/
def SA (X : Nat → Nat → Int) (p P : Int) (i i' b b' : Nat) : Prop := X 0 0 = p ∧ 0 < p ∧ p ≤ P ∧ X i 0 = 0 ∧ X i' 0 = 0 ∧ X 0 b = X i b ∧ X 0 b' = X i b' ∧ (X i b % p ≠ 0 ∨ X i b' % p ≠ 0)
section PBN
variable {X Y W : Nat → Nat → Int} {p p1 P : Int} {a a' b b' : Nat}
theorem pm2 {c c' : Nat} (h : pm a a') (g : pm c c') : (c = a ∧ c' = a') ∨ (c = a' ∧ c' = a) := by unfold pm at h g; omega
theorem pmp (h : pm a a') : 0 < a ∧ 0 < a' ∧ a ≠ a' := by unfold pm at h; omega
theorem pmx (h : pm a a') : pm a' a := by unfold pm at h ⊢; omega
theorem fq {z q : Int} (k : Int) (hp : 0 < p) (h0 : 0 ≤ z - q * p) (h1 : z - q * p < p) (hk : k * p ≤ z) (hk2 : z < k * p + p) : q = k := by
  have a1 : q * p < (k + 1) * p := by rw [Int.add_mul]; omega
  have a2 : k * p < (q + 1) * p := by rw [Int.add_mul]; omega
  have b1 := Int.lt_of_mul_lt_mul_right a1 (Int.le_of_lt hp)
  have b2 := Int.lt_of_mul_lt_mul_right a2 (Int.le_of_lt hp)
  omega
theorem fq0 {z q : Int} (hp : 0 < p) (h0 : 0 ≤ z - q * p) (h1 : z - q * p < p) (hz : 0 ≤ z) (hz2 : z < p) : q = 0 := fq 0 hp h0 h1 (by omega) (by omega)
theorem fq1 {z q : Int} (hp : 0 < p) (h0 : 0 ≤ z - q * p) (h1 : z - q * p < p) (hz : p ≤ z) (hz2 : z < 2 * p) : q = 1 := fq 1 hp h0 h1 (by omega) (by omega)
theorem fqm {z q : Int} (hp : 0 < p) (h0 : 0 ≤ z - q * p) (h1 : z - q * p < p) (hz : z = -p) : q = -1 := fq (-1) hp h0 h1 (by omega) (by omega)
theorem fqn {z q : Int} (hp : 0 < p) (h0 : 0 ≤ z - q * p) (h1 : z - q * p < p) (hz : z < -p) (hz2 : -(2 * p) ≤ z) : q = -2 := fq (-2) hp h0 h1 (by omega) (by omega)
/-- what is small and not 0 in the cross cannot be -/
theorem En_c (hE : En W Y a a' b b' p1) (hB : Bg P Y) : (W a 0 = 0 ∨ P < 2 * W a 0 ∨ 2 * W a 0 < -P) ∧ (W a' 0 = 0 ∨ P < 2 * W a' 0 ∨ 2 * W a' 0 < -P) ∧ (W 0 b = 0 ∨ P < 2 * W 0 b ∨ 2 * W 0 b < -P) ∧ (W 0 b' = 0 ∨ P < 2 * W 0 b' ∨ 2 * W 0 b' < -P) := by
  rcases hE with ⟨h1, _⟩ | ⟨⟨h1, h2, h3, h4⟩, _⟩
  · have e1 := hB a 0
    have e2 := hB a' 0
    have e3 := hB 0 b
    have e4 := hB 0 b'
    rw [h1] at e1 e2 e3 e4
    exact ⟨e1, e2, e3, e4⟩
  · exact ⟨Or.inl h1, Or.inl h2, Or.inl h3, Or.inl h4⟩
theorem SN_x {i i' j j' : Nat} (h : SN X p P i i' j j') (h1 : pm i i') (h2 : pm j j') (g1 : pm a a') (g2 : pm b b') : SN X p P a a' b b' := by
  unfold SN at h ⊢
  rcases pm2 h1 g1 with ⟨rfl, rfl⟩ | ⟨rfl, rfl⟩ <;> rcases pm2 h2 g2 with ⟨rfl, rfl⟩ | ⟨rfl, rfl⟩
  · exact h
  · refine ⟨h.1, h.2.1, h.2.2.1, h.2.2.2.2.1, h.2.2.2.1, h.2.2.2.2.2.1, h.2.2.2.2.2.2.1, ?_⟩
    have := h.2.2.2.2.2.2.2
    omega
  · refine ⟨h.1, h.2.1, h.2.2.1, h.2.2.2.1, h.2.2.2.2.1, h.2.2.2.2.2.2.1, h.2.2.2.2.2.1, ?_⟩
    have := h.2.2.2.2.2.2.2
    omega
  · refine ⟨h.1, h.2.1, h.2.2.1, h.2.2.2.2.1, h.2.2.2.1, h.2.2.2.2.2.2.1, h.2.2.2.2.2.1, ?_⟩
    have := h.2.2.2.2.2.2.2
    omega
/-- a slow pass from a state with something in the cross -/
def N1o (X Y W : Nat → Nat → Int) (p p1 P : Int) (a a' b b' : Nat) : Prop :=
  pm a a' ∧ pm b b' ∧ (0 < p1 ∧ p1 < p ∧ P < 2 * p1) ∧ (∀ i j, X i j = 0 ∨ p1 ≤ X i j ∨ X i j ≤ -p1) ∧ X 0 b = 0 ∧
  ((X a b = p1 ∧ X a 0 = 0) ∨ X a b = -p1) ∧ (X a 0 = 0 → W 0 b = 0) ∧ (W 0 0 = p1 ∧ W a 0 = 0 ∧ W a b = p ∧ W a b' = X 0 b') ∧
  ((0 ≤ W 0 b ∧ W 0 b < p1) ∧ (0 ≤ W 0 b' ∧ W 0 b' < p1) ∧ 0 ≤ W a' 0 ∧ W a' 0 < p1) ∧
  (X a' b = 0 → W a' 0 = 0 ∧ W a' b = X a' 0 ∧ W a' b' = X a' b') ∧ (p1 < X a' b → P < X a' b) ∧
  (X a b = -p1 → X a' b = -p1 → W a' 0 = 0 ∧ W a' b = X a' 0 - X a 0 ∧ W a' b' = X a' b' - X a b') ∧
  (X a 0 = 0 → X a' 0 = 0 → W a' b = 0) ∧ En W Y a a' b b' p1
theorem N1 {i i' j j' : Nat} (hi : pm i i') (hj : pm j j') (hN : SN X p P i i' j j') (hX : Bg P X) (hP : Pv X Y) (hY : Bg P Y) :
    ∃ (W : Nat → Nat → Int) (p1 : Int) (a a' b b' : Nat), N1o X Y W p p1 P a a' b b' := by
  obtain ⟨m, m1, a, a', c, c1, b, b', p1, s, q1, q2, k1, k2, W, ha, hb, hm, hc, hL, hV, hE⟩ := hP
  obtain ⟨n0, n1, n2, n3, n4, n5, n6, n7⟩ := SN_x hN hi hj ha hb
  obtain ⟨l0, l1, l2⟩ := hL
  obtain ⟨v1, v2, v3, v4, v5, v6, v7, v8, v9, v10, v11, v12, v13, v14, v15⟩ := hV
  have hcr0 := fun (_ : Unit) => En_c hE hY
  have pa := pmp ha
  have pb := pmp hb
  have y1 := l1 a 0
  have y2 := l1 a' 0
  have y3 := l1 0 b
  have y4 := l1 0 b'
  have lt : p1 < p := by
    clear v1 v4 v5 v6 v7 v8 v9 v10 v11 pa pb
    have hcr := hcr0 ()
    omega
  rcases hm with ⟨rfl, rfl⟩ | ⟨rfl, rfl⟩ <;> rcases hc with ⟨rfl, rfl⟩ | ⟨rfl, rfl⟩
  · exfalso
    have hcr := hcr0 ()
    rcases v1 with rfl | rfl <;> omega
  · exfalso
    have hcr := hcr0 ()
    have hx := hX 0 c
    have e1 : X 0 c = p1 := by rcases v1 with rfl | rfl <;> omega
    have e2 : s = 1 := by rcases v1 with rfl | rfl <;> omega
    subst e2
    rw [Int.one_mul] at v4
    have e3 := fq1 l0 (z := X 0 0) (q := k1) (by omega) (by omega) (by omega) (by omega)
    subst e3
    omega
  · exfalso
    have hcr := hcr0 ()
    have hx := hX m 0
    have e1 : X m 0 = p1 := by rcases v1 with rfl | rfl <;> omega
    have e3 := fq1 l0 (z := X 0 0) (q := q1) (by omega) (by omega) (by omega) (by omega)
    subst e3
    omega
  · have hx := hX m c
    have hp2 : P < 2 * p1 := by rcases v1 with rfl | rfl <;> omega
    have f1 := l2 0 c (Or.inl pa.1)
    have f2 := l2 m 0 (Or.inr ⟨rfl, pb.1⟩)
    have z1 : X 0 c = 0 := by
      rcases f1 with h | h | h
      · exact h
      · exfalso
        have e3 := fq1 l0 (z := X 0 c) (q := q1) (by omega) (by omega) (by omega) (by omega)
        subst e3
        have hcr := hcr0 ()
        omega
      · omega
    have z2 := fq0 l0 (z := X 0 c) (q := q1) (by omega) (by omega) (by omega) (by omega)
    subst z2
    have z3 : W m 0 = 0 := by omega
    rw [z3] at v8 v9
    have z4 : s = 1 → X m 0 = 0 := by
      intro hs
      subst hs
      rw [Int.one_mul] at v4
      rcases f2 with h | h | h
      · exact h
      · exfalso
        have e3 := fq1 l0 (z := X m 0) (q := k1) (by omega) (by omega) (by omega) (by omega)
        subst e3
        have hcr := hcr0 ()
        omega
      · omega
    have z5 : X m 0 = 0 → k1 = 0 := by
      intro h
      rw [h, Int.mul_zero] at v4
      exact fq0 l0 (z := 0) (q := k1) (by omega) (by omega) (by omega) (by omega)
    refine ⟨W, p1, m, a', c, b', ha, hb, ⟨l0, lt, hp2⟩, l1, z1, ?_, ?_, ⟨v3, z3, by omega, by omega⟩, ⟨v12, v13, v15⟩, ?_, ?_, ?_, ?_, hE⟩
    · rcases v1 with rfl | rfl
      · exact Or.inl ⟨by omega, z4 rfl⟩
      · exact Or.inr (by omega)
    · intro h
      have := z5 h
      subst this
      rw [h, Int.mul_zero] at v4
      omega
    · intro h
      have e := fq0 l0 (z := X a' c) (q := q2) (by omega) (by omega) (by omega) (by omega)
      subst e
      have e0 : W a' 0 = 0 := by omega
      rw [e0] at v10 v11
      exact ⟨e0, by omega, by omega⟩
    · intro h
      rcases Int.lt_or_le P (X a' c) with g | g
      · exact g
      · exfalso
        have e := fq1 l0 (z := X a' c) (q := q2) (by omega) (by omega) (by omega) (by omega)
        subst e
        have hcr := hcr0 ()
        omega
    · intro h1 h2
      have e := fqm l0 (z := X a' c) (q := q2) (by omega) (by omega) h2
      have es : s = -1 := by rcases v1 with rfl | rfl <;> omega
      subst e
      subst es
      have e0 : W a' 0 = 0 := by omega
      rw [e0] at v10 v11
      exact ⟨e0, by omega, by omega⟩
    · intro h1 h2
      have e := z5 h1
      subst e
      rw [h1, h2, Int.mul_zero, Int.mul_zero, Int.zero_mul] at v10
      omega
end PBN
end
section
-- 61.pbne
def T2 (W : Nat → Nat → Int) (p1 p P g : Int) (a a' b b' : Nat) : Prop := (0 < p1 ∧ p1 < p ∧ p ≤ P ∧ P < 2 * p1) ∧ W 0 0 = p1 ∧ W a 0 = 0 ∧ W a b = g ∧ (W a b' = 0 ∨ p1 ≤ W a b') ∧ W a b' < p ∧ (g = p ∨ (g = -p ∧ W 0 b ≠ 0)) ∧ ((0 ≤ W 0 b ∧ W 0 b < p1) ∧ (0 ≤ W 0 b' ∧ W 0 b' < p1) ∧ 0 ≤ W a' 0 ∧ W a' 0 < p1)
def T3 (W : Nat → Nat → Int) (p2 p1 p P g : Int) (a a' b b' : Nat) : Prop := (0 < p2 ∧ p2 < p1 ∧ p1 < p ∧ p ≤ P ∧ P < 2 * p2) ∧ W 0 0 = p2 ∧ W a 0 = 0 ∧ W a b = p1 ∧ (W a b' = 0 ∨ p2 ≤ W a b') ∧ W a' 0 = 0 ∧ W a' b = 0 ∧ W a' b' = g ∧ (g = p ∨ g = -p) ∧ (0 ≤ W 0 b ∧ W 0 b < p2) ∧ (0 ≤ W 0 b' ∧ W 0 b' < p2)
def T5 (W : Nat → Nat → Int) (p1 p P : Int) (i i' b b' : Nat) : Prop := (0 < p1 ∧ p1 < p ∧ p ≤ P ∧ P < 2 * p1) ∧ W 0 0 = p1 ∧ W 0 b = 0 ∧ (0 ≤ W 0 b' ∧ W 0 b' < p1) ∧ (0 ≤ W i 0 ∧ W i 0 < p1) ∧ W i' 0 = W i 0 ∧ W i b = 0 ∧ W i' b = p ∧ W i' b' = W i b'
/-- a chain of passes in which all stays above the half of P -/
def Sl : Nat → Int → (Nat → Nat → Int) → Prop
  | 0, _, _ => True
  | n + 1, P, X => ∃ Y, Pv X Y ∧ Bg P Y ∧ Sl n P Y
section PBO
variable {X Y W : Nat → Nat → Int} {p p1 p2 P g : Int} {a a' b b' i i' j j' : Nat}
theorem En_k (hE : En W Y a a' b b' p) (ha : pm a a') (h0 : W 0 0 = p) (h1 : 0 < p) (h2 : p ≤ P) (r1 : 0 ≤ W 0 b ∧ W 0 b < p) (r2 : 0 ≤ W 0 b' ∧ W 0 b' < p) (r3 : 0 ≤ W a 0 ∧ W a 0 < p) (r4 : 0 ≤ W a' 0 ∧ W a' 0 < p) :
    ((∀ i j, Y i j = W i j) ∧ SN Y p P a a' b b') ∨
    ((W a 0 = 0 ∧ W a' 0 = 0 ∧ W 0 b = 0 ∧ W 0 b' = 0) ∧ ∃ i i', ((i = a ∧ i' = a') ∨ (i = a' ∧ i' = a)) ∧ SA Y p P i i' b b' ∧ (∀ j, Y a j = W a j) ∧ ∀ j, Y a' j = W a' j) := by
  rcases hE with ⟨e1, e2⟩ | ⟨e1, i, e2, e3, e4, e5, e6, e7, e8⟩
  · refine Or.inl ⟨e1, ?_⟩
    unfold SN
    simp only [e1]
    exact ⟨h0, h1, h2, r1, r2, r3, r4, e2⟩
  · refine Or.inr ⟨e1, i, ?_⟩
    rcases e2 with rfl | rfl
    · exact ⟨a', Or.inl ⟨rfl, rfl⟩, ⟨e4, h1, h2, by rw [e7]; exact e1.1, by rw [e8]; exact e1.2.1, by rw [e7, e5], by rw [e7, e6], by rw [e7, e7]; exact e3⟩, e7, e8⟩
    · exact ⟨a, Or.inr ⟨rfl, rfl⟩, ⟨e4, h1, h2, by rw [e8]; exact e1.2.1, by rw [e7]; exact e1.1, by rw [e8, e5], by rw [e8, e6], by rw [e8, e8]; exact e3⟩, e7, e8⟩
theorem SA_x (h : SA X p P i i' j j') (h2 : pm j j') (g2 : pm b b') : SA X p P i i' b b' := by
  rcases pm2 h2 g2 with ⟨rfl, rfl⟩ | ⟨rfl, rfl⟩
  · exact h
  · obtain ⟨h1, h2, h3, h4, h5, h6, h7, h8⟩ := h
    exact ⟨h1, h2, h3, h4, h5, h7, h6, h8.symm⟩
theorem no_rem {z k : Int} (h : z - k * p = 0) : z % p = 0 := by
  have e : z = k * p := by omega
  rw [e]
  exact Int.emod_eq_zero_of_dvd (Int.dvd_mul_left k p)
def K1o (X Y : Nat → Nat → Int) (p P : Int) (i i' b b' : Nat) : Prop := pm b b' ∧ (∀ i j, X i j = 0 ∨ p ≤ X i j ∨ X i j ≤ -p) ∧ SN Y p P i i' b b' ∧ (Y i 0 = 0 ∧ Y i' 0 = 0) ∧ (Y i b = X i b ∧ Y i b' = X i b' ∧ Y i' b = X i' b ∧ Y i' b' = X i' b') ∧ ((X 0 b = 0 → Y 0 b = 0) ∧ (X 0 b' = 0 → Y 0 b' = 0)) ∧ ((p < X 0 b → P < X 0 b) ∧ (p < X 0 b' → P < X 0 b'))
def K2o (X Y : Nat → Nat → Int) (p p1 P : Int) (i i' b b' : Nat) : Prop := pm b b' ∧ (0 < p1 ∧ p1 < p ∧ P < 2 * p1) ∧ X 0 b = -p1 ∧ (p1 < X i' b → P < X i' b) ∧ T2 Y p1 p P (-p) i i' b b' ∧ Y i b' = 0 ∧ SN Y p1 P i i' b b'
def K3o (X Y W : Nat → Nat → Int) (p p1 P : Int) (i i' b b' : Nat) : Prop := pm b b' ∧ (0 < p1 ∧ p1 < p ∧ P < 2 * p1) ∧ (X i' b = p1 ∨ X i' b = -p1) ∧ (∀ j, X 0 j = 0 ∨ p1 < X 0 j ∨ X 0 j < -p1) ∧ (p1 < X 0 b → P < X 0 b) ∧ T5 W p1 p P i i' b b' ∧ (En W Y i i' b b' p1 ∨ En W Y i' i b b' p1)
theorem A1 (hi : pm i i') (hj : pm j j') (hA : SA X p P i i' j j') (hX : Bg P X) (hP : Pv X Y) (hY : Bg P Y) :
    (∃ b b', K1o X Y p P i i' b b') ∨ (∃ p1 b b', K2o X Y p p1 P i i' b b') ∨ ∃ W p1 b b', K3o X Y W p p1 P i i' b b' := by
  obtain ⟨m, m1, a, a', c, c1, b, b', p1, s, q1, q2, k1, k2, W, ha, hb, hm, hc, hL, hV, hE⟩ := hP
  obtain ⟨n0, n1, n2, n3, n4, n5, n6, n7⟩ := SA_x hA hj hb
  obtain ⟨l0, l1, l2⟩ := hL
  obtain ⟨v1, v2, v3, v4, v5, v6, v7, v8, v9, v10, v11, v12, v13, v14, v15⟩ := hV
  have hcr0 := fun (_ : Unit) => En_c hE hY
  have pa := pmp ha
  have pb := pmp hb
  rcases hm with ⟨rfl, rfl⟩ | ⟨rfl, rfl⟩ <;> rcases hc with ⟨rfl, rfl⟩ | ⟨rfl, rfl⟩
  · -- t, t
    refine Or.inl ⟨c1, b', ?_⟩
    have es : s = 1 := by rcases v1 with rfl | rfl <;> omega
    subst es
    have ep : p1 = p := by omega
    subst ep
    have a0 : X m1 0 = 0 ∧ X a' 0 = 0 := by rcases pm2 hi ha with ⟨rfl, rfl⟩ | ⟨rfl, rfl⟩ <;> exact ⟨by assumption, by assumption⟩
    have e1 := fq0 l0 (z := X m1 0) (q := q1) (by omega) (by omega) (by omega) (by omega)
    have e2 := fq0 l0 (z := X a' 0) (q := q2) (by omega) (by omega) (by omega) (by omega)
    subst e1
    subst e2
    have w1 : W m1 0 = 0 := by omega
    have w2 : W a' 0 = 0 := by omega
    rw [w1] at v8 v9
    rw [w2] at v10 v11
    rw [Int.one_mul] at v4 v5
    have hnz : W 0 c1 ≠ 0 ∨ W 0 b' ≠ 0 := by
      rcases n7 with h | h
      · exact Or.inl (fun e => h (by rw [← n5]; exact no_rem (by rw [← v4]; exact e)))
      · exact Or.inr (fun e => h (by rw [← n6]; exact no_rem (by rw [← v5]; exact e)))
    rcases hE with ⟨e1, e2⟩ | ⟨e1, _⟩
    · have k : ∀ {z k : Int}, z - k * p1 < p1 → 0 ≤ z - k * p1 → z = 0 → z - k * p1 = 0 := by
        intro z k h1 h2 h3
        have := fq0 l0 (z := z) (q := k) h2 h1 (by omega) (by omega)
        subst this
        omega
      have kk : ∀ {z k : Int}, z - k * p1 < p1 → 0 ≤ z - k * p1 → p1 < z → z < 2 * p1 → z - k * p1 = z - p1 := by
        intro z k h1 h2 h3 h4
        have := fq1 l0 (z := z) (q := k) h2 h1 (by omega) (by omega)
        subst this
        omega
      have i1 : (X 0 c1 = 0 → Y 0 c1 = 0) ∧ (X 0 b' = 0 → Y 0 b' = 0) := by
        rw [e1, e1, v4, v5]
        exact ⟨fun h => k (by omega) (by omega) h, fun h => k (by omega) (by omega) h⟩
      have i2 : (p1 < X 0 c1 → P < X 0 c1) ∧ (p1 < X 0 b' → P < X 0 b') := by
        constructor
        · intro h
          rcases Int.lt_or_le P (X 0 c1) with g | g
          · exact g
          · exfalso
            have hx := hX 0 0
            have e := kk (z := X 0 c1) (k := k1) (by omega) (by omega) h (by omega)
            have hcr := hcr0 ()
            omega
        · intro h
          rcases Int.lt_or_le P (X 0 b') with g | g
          · exact g
          · exfalso
            have hx := hX 0 0
            have e := kk (z := X 0 b') (k := k2) (by omega) (by omega) h (by omega)
            have hcr := hcr0 ()
            omega
      refine ⟨hb, l1, ?_, ?_, ?_, i1, i2⟩
      · refine SN_x (i := m1) (i' := a') (j := c1) (j' := b') ?_ ha hb hi hb
        unfold SN
        simp only [e1]
        exact ⟨v3, l0, n2, v12, v13, v14, v15, Or.inr (Or.inr hnz)⟩
      · rw [e1, e1]
        rcases pm2 hi ha with ⟨rfl, rfl⟩ | ⟨rfl, rfl⟩
        · exact ⟨w1, w2⟩
        · exact ⟨w2, w1⟩
      · rw [e1, e1, e1, e1]
        rcases pm2 hi ha with ⟨rfl, rfl⟩ | ⟨rfl, rfl⟩
        · exact ⟨by omega, by omega, by omega, by omega⟩
        · exact ⟨by omega, by omega, by omega, by omega⟩
    · exfalso
      omega
  · -- row t
    have f0 := l2 0 0 (Or.inr ⟨rfl, pb.1⟩)
    have lt : p1 < p := by omega
    have hx := hX 0 c
    have es : s = -1 := by
      rcases v1 with rfl | rfl
      · exfalso
        rw [Int.one_mul] at v4
        have e3 := fq1 l0 (z := X 0 0) (q := k1) (by omega) (by omega) (by omega) (by omega)
        subst e3
        have hcr := hcr0 ()
        omega
      · rfl
    subst es
    have ex : X 0 c = -p1 := by omega
    have hp2 : P < 2 * p1 := by omega
    have e3 := fqn l0 (z := -1 * X 0 0) (q := k1) (by omega) (by omega) (by omega) (by omega)
    subst e3
    have w0 : W 0 c = 2 * p1 - p := by omega
    rcases hE with ⟨e1, e2⟩ | ⟨e1, _⟩
    · refine Or.inr (Or.inl ⟨p1, c, b', hb, ⟨l0, lt, hp2⟩, ex, ?_⟩)
      have hsn : SN Y p1 P i i' c b' := by
        refine SN_x (i := m1) (i' := a') (j := c) (j' := b') ?_ ha hb hi hb
        unfold SN
        simp only [e1]
        exact ⟨v3, l0, by omega, v12, v13, v14, v15, e2⟩
      unfold T2
      rw [e1, e1, e1, e1, e1, e1, e1]
      rcases pm2 hi ha with ⟨rfl, rfl⟩ | ⟨rfl, rfl⟩
      · have e := fqm l0 (z := X m1 c) (q := q1) (by omega) (by omega) (by omega)
        subst e
        have ez : W m1 0 = 0 := by omega
        rw [ez] at v8 v9
        refine ⟨?_, ⟨⟨l0, lt, n2, hp2⟩, v3, ez, by omega, Or.inl (by omega), by omega, Or.inr ⟨rfl, by omega⟩, v12, v13, v15⟩, by omega, hsn⟩
        intro h
        rcases Int.lt_or_le P (X a' c) with g | g
        · exact g
        · exfalso
          have e := fq1 l0 (z := X a' c) (q := q2) (by omega) (by omega) (by omega) (by omega)
          subst e
          have := hX a' c
          have hcr := hcr0 ()
          omega
      · have e := fqm l0 (z := X a' c) (q := q2) (by omega) (by omega) (by omega)
        subst e
        have ez : W a' 0 = 0 := by omega
        rw [ez] at v10 v11
        refine ⟨?_, ⟨⟨l0, lt, n2, hp2⟩, v3, ez, by omega, Or.inl (by omega), by omega, Or.inr ⟨rfl, by omega⟩, v12, v13, v14⟩, by omega, hsn⟩
        intro h
        rcases Int.lt_or_le P (X m1 c) with g | g
        · exact g
        · exfalso
          have e := fq1 l0 (z := X m1 c) (q := q1) (by omega) (by omega) (by omega) (by omega)
          subst e
          have := hX m1 c
          have hcr := hcr0 ()
          omega
    · exfalso
      omega
  · exfalso
    have hcr := hcr0 ()
    have : X m 0 = 0 := by rcases pm2 hi ha with ⟨rfl, rfl⟩ | ⟨rfl, rfl⟩ <;> assumption
    rcases v1 with rfl | rfl <;> omega
  · -- behind
    have hcr := hcr0 ()
    have f0 := l2 0 0 (Or.inl pa.1)
    have lt : p1 < p := by omega
    have f1 := l2 0 c (Or.inl pa.1)
    have ex : X m c = p1 ∨ X m c = -p1 := by rcases v1 with rfl | rfl <;> omega
    have hx := hX m c
    have hp2 : P < 2 * p1 := by omega
    rcases pm2 hi ha with ⟨rfl, rfl⟩ | ⟨rfl, rfl⟩
    · exfalso
      omega
    · have eq : q1 = q2 := fq q2 l0 (z := X 0 c) (q := q1) (by omega) (by omega) (by omega) (by omega)
      subst eq
      have ez : s * X m 0 = 0 := by
        have : X m 0 = 0 := by assumption
        rw [this, Int.mul_zero]
      rw [ez] at v4 v8 v10
      have ek := fq0 l0 (z := 0) (q := k1) (by omega) (by omega) (by omega) (by omega)
      subst ek
      have ew : W m 0 = W a' 0 := by omega
      rw [ew] at v9
      refine Or.inr (Or.inr ⟨W, p1, c, b', hb, ⟨l0, lt, hp2⟩, ex, fun j => l2 0 j (Or.inl pa.1), ?_, ⟨⟨l0, lt, n2, hp2⟩, v3, by omega, v13, v15, ew, ?_, ?_, ?_⟩, Or.inr hE⟩)
      · intro h
        rcases Int.lt_or_le P (X 0 c) with g | g
        · exact g
        · exfalso
          have e := fq1 l0 (z := X 0 c) (q := q1) (by omega) (by omega) (by omega) (by omega)
          subst e
          omega
      · rw [v10, Int.mul_zero]
        omega
      · rw [v8, Int.mul_zero]
        omega
      · rw [v9, v11, n6]
end PBO
end
section
-- 62.pbna
section PBP
variable {X Y W : Nat → Nat → Int} {p p1 p2 P g : Int} {a a' b b' i i' j j' : Nat}
theorem T3_A1 (ha : pm a a') (hb : pm b b') (hA : SA X p2 P a a' b b') (hn : p2 < p1 ∧ p1 < p ∧ p ≤ P ∧ P < 2 * p2) (g1 : X a b = p1) (g2 : X a b' = 0 ∨ p2 ≤ X a b') (g3 : X a' b = 0) (g4 : X a' b' = g) (hg : g = p ∨ g = -p) (hX : Bg P X) (hS : Sl 2 P X) : False := by
  obtain ⟨Y, s1, s2, Z, s3, s4, _⟩ := hS
  have hA' := hA
  obtain ⟨n0, n1, n2, n3, n4, n5, n6, n7⟩ := hA'
  rcases A1 ha hb hA hX s1 s2 with ⟨c, c', k0, k1, k2, k3, k4, k5, k6⟩ | ⟨q, c, c', k0, k1, k2, k3, k4⟩ | ⟨W, q, c, c', k0, k1, k2, k3, k4⟩
  · obtain ⟨W, q, d, d', e, e', m1, m2, m3, m4, m5, m6, _⟩ := N1 ha k0 k2 s2 s3 s4
    rcases pm2 hb k0 with ⟨rfl, rfl⟩ | ⟨rfl, rfl⟩ <;> rcases pm2 hb m2 with ⟨rfl, rfl⟩ | ⟨rfl, rfl⟩ <;> rcases pm2 ha m1 with ⟨rfl, rfl⟩ | ⟨rfl, rfl⟩ <;> omega
  · rcases pm2 hb k0 with ⟨rfl, rfl⟩ | ⟨rfl, rfl⟩ <;> omega
  · rcases pm2 hb k0 with ⟨rfl, rfl⟩ | ⟨rfl, rfl⟩ <;> omega
end PBP
end
section
-- 62.pbnaa
section PBP
variable {X Y W : Nat → Nat → Int} {p p1 p2 P g : Int} {a a' b b' i i' j j' : Nat}
theorem T3_A2 (ha : pm a a') (hb : pm b b') (hA : SA X p2 P a' a b b') (hn : p2 < p1 ∧ p1 < p ∧ p ≤ P ∧ P < 2 * p2) (g1 : X a b = p1) (g2 : X a b' = 0 ∨ p2 ≤ X a b') (g3 : X a' b = 0) (g4 : X a' b' = g) (hg : g = p ∨ g = -p) (hX : Bg P X) (hS : Sl 2 P X) : False := by
  obtain ⟨Y, s1, s2, Z, s3, s4, _⟩ := hS
  have hA' := hA
  obtain ⟨n0, n1, n2, n3, n4, n5, n6, n7⟩ := hA'
  rcases A1 (pmx ha) hb hA hX s1 s2 with ⟨c, c', k0, k1, k2, k3, k4, k5, k6⟩ | ⟨q, c, c', k0, k1, k2, k3, k4⟩ | ⟨W, q, c, c', k0, k1, k2, k3, k4⟩
  · obtain ⟨W, q, d, d', e, e', m1, m2, m3, m4, m5, m6, m7⟩ := N1 (pmx ha) k0 k2 s2 s3 s4
    clear m7 n7 k5 k6 m4 k1 hA k2
    rcases pm2 hb k0 with ⟨rfl, rfl⟩ | ⟨rfl, rfl⟩ <;> rcases pm2 hb m2 with ⟨rfl, rfl⟩ | ⟨rfl, rfl⟩ <;> rcases pm2 (pmx ha) m1 with ⟨rfl, rfl⟩ | ⟨rfl, rfl⟩ <;> omega
  · rcases pm2 hb k0 with ⟨rfl, rfl⟩ | ⟨rfl, rfl⟩ <;> omega
  · rcases pm2 hb k0 with ⟨rfl, rfl⟩ | ⟨rfl, rfl⟩ <;> omega
theorem T3_A (ha : pm a a') (hb : pm b b') (hA : SA X p2 P i i' b b') (hi : (i = a ∧ i' = a') ∨ (i = a' ∧ i' = a)) (hn : p2 < p1 ∧ p1 < p ∧ p ≤ P ∧ P < 2 * p2) (g1 : X a b = p1) (g2 : X a b' = 0 ∨ p2 ≤ X a b') (g3 : X a' b = 0) (g4 : X a' b' = g) (hg : g = p ∨ g = -p) (hX : Bg P X) (hS : Sl 2 P X) : False := by
  rcases hi with ⟨rfl, rfl⟩ | ⟨rfl, rfl⟩
  · exact T3_A1 ha hb hA hn g1 g2 g3 g4 hg hX hS
  · exact T3_A2 ha hb hA hn g1 g2 g3 g4 hg hX hS
theorem T3x (ha : pm a a') (hb : pm b b') (hT : T3 W p2 p1 p P g a a' b b') (hE : En W X a a' b b' p2) (hX : Bg P X) (hS : Sl 2 P X) : False := by
  obtain ⟨t1, t2, t3, t4, t5, t6, t7, t8, t9, t10, t11⟩ := hT
  rcases En_k (P := P) hE ha t2 t1.1 (by omega) t10 t11 (by omega) (by omega) with ⟨e1, e2⟩ | ⟨e0, i, i', e1, e2, e3, e4⟩
  · obtain ⟨Y, s1, s2, -⟩ := hS
    obtain ⟨W', q, d, d', e, e', m1, m2, m3, -, -, m6, -⟩ := N1 ha hb e2 hX s1 s2
    clear t2 t3 t6 t10 t11 s1 s2 e2 hX hE
    rw [e1, e1] at m6
    rcases pm2 hb m2 with ⟨rfl, rfl⟩ | ⟨rfl, rfl⟩ <;> rcases pm2 ha m1 with ⟨rfl, rfl⟩ | ⟨rfl, rfl⟩ <;> omega
  · exact T3_A ha hb e2 e1 t1.2 (by rw [e3]; exact t4) (by rw [e3]; exact t5) (by rw [e4]; exact t7) (by rw [e4]; exact t8) t9 hX hS
end PBP
end
