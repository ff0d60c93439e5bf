/-- the two others of three -/
def pm (a a' : Nat) : Prop := (a = 1 ∧ a' = 2) ∨ (a = 2 ∧ a' = 1)
/-- all that is not 0 is above the half of P in size -/
def Bg (P : Int) (X : Nat → Nat → Int) : Prop := ∀ i j, X i j = 0 ∨ P < 2 * X i j ∨ 2 * X i j < -P
/-- the least, and the first of it -/
def Lst (X : Nat → Nat → Int) (m c : Nat) (p : Int) : Prop := 0 < p ∧ (∀ i j, X i j = 0 ∨ p ≤ X i j ∨ X i j ≤ -p) ∧ ∀ i j, (i < m ∨ (i = m ∧ j < c)) → X i j = 0 ∨ p < X i j ∨ X i j < -p
def Vp (X W : Nat → Nat → Int) (m m1 a a' c c1 b b' : Nat) (p s q1 q2 k1 k2 : Int) : Prop :=
  (s = 1 ∨ s = -1) ∧ s * X m c = p ∧ W 0 0 = p ∧
  W 0 b = s * X m c1 - k1 * p ∧ W 0 b' = s * X m b' - k2 * p ∧ W a 0 = X m1 c - q1 * p ∧ W a' 0 = X a' c - q2 * p ∧
  W a b = X m1 c1 - q1 * (s * X m c1) - k1 * W a 0 ∧ W a b' = X m1 b' - q1 * (s * X m b') - k2 * W a 0 ∧
  W a' b = X a' c1 - q2 * (s * X m c1) - k1 * W a' 0 ∧ W a' b' = X a' b' - q2 * (s * X m b') - k2 * W a' 0 ∧
  (0 ≤ W 0 b ∧ W 0 b < p) ∧ (0 ≤ W 0 b' ∧ W 0 b' < p) ∧ (0 ≤ W a 0 ∧ W a 0 < p) ∧ (0 ≤ W a' 0 ∧ W a' 0 < p)
def En (W Y : Nat → Nat → Int) (a a' b b' : Nat) (p : Int) : Prop :=
  ((∀ i j, Y i j = W i j) ∧ (W a 0 ≠ 0 ∨ W a' 0 ≠ 0 ∨ W 0 b ≠ 0 ∨ W 0 b' ≠ 0)) ∨
  ((W a 0 = 0 ∧ W a' 0 = 0 ∧ W 0 b = 0 ∧ W 0 b' = 0) ∧ ∃ i, (i = a ∨ i = a') ∧ (W i b % p ≠ 0 ∨ W i b' % p ≠ 0) ∧ Y 0 0 = p ∧ Y 0 b = W i b ∧ Y 0 b' = W i b' ∧ (∀ j, Y a j = W a j) ∧ ∀ j, Y a' j = W a' j)
def Pv (X Y : Nat → Nat → Int) : Prop := ∃ (m m1 a a' c c1 b b' : Nat) (p s q1 q2 k1 k2 : Int) (W : Nat → Nat → Int), pm a a' ∧ pm b b' ∧ ((m = 0 ∧ m1 = a) ∨ (m = a ∧ m1 = 0)) ∧ ((c = 0 ∧ c1 = b) ∨ (c = b ∧ c1 = 0)) ∧ Lst X m c p ∧ Vp X W m m1 a a' c c1 b b' p s q1 q2 k1 k2 ∧ En W Y a a' b b' p
/-- a state with something left in the cross -/
def SN (X : Nat → Nat → Int) (p P : Int) (a a' b b' : Nat) : Prop := X 0 0 = p ∧ 0 < p ∧ p ≤ P ∧ (0 ≤ X 0 b ∧ X 0 b < p) ∧ (0 ≤ X 0 b' ∧ X 0 b' < p) ∧ (0 ≤ X a 0 ∧ X a 0 < p) ∧ (0 ≤ X a' 0 ∧ X a' 0 < p) ∧ (X a 0 ≠ 0 ∨ X a' 0 ≠ 0 ∨ X 0 b ≠ 0 ∨ X 0 b' ≠ 0)
/-- a state with a row added -/
def SA (X : Nat → Nat → Int) (p P : Int) (i i' b b' : Nat) : Prop := X 0 0 = p ∧ 0 < p ∧ p ≤ P ∧ X i 0 = 0 ∧ X i' 0 = 0 ∧ X 0 b = X i b ∧ X 0 b' = X i b' ∧ (X i b % p ≠ 0 ∨ X i b' % p ≠ 0)
section PBN
variable {X Y W : Nat → Nat → Int} {p p1 P : Int} {a a' b b' : Nat}
theorem pm2 {c c' : Nat} (h : pm a a') (g : pm c c') : (c = a ∧ c' = a') ∨ (c = a' ∧ c' = a) := by unfold pm at h g; omega
theorem pmp (h : pm a a') : 0 < a ∧ 0 < a' ∧ a ≠ a' := by unfold pm at h; omega
theorem pmx (h : pm a a') : pm a' a := by unfold pm at h ⊢; omega
theorem fq {z q : Int} (k : Int) (hp : 0 < p) (h0 : 0 ≤ z - q * p) (h1 : z - q * p < p) (hk : k * p ≤ z) (hk2 : z < k * p + p) : q = k := by
  have a1 : q * p < (k + 1) * p := by rw [Int.add_mul]; omega
  have a2 : k * p < (q + 1) * p := by rw [Int.add_mul]; omega
  have b1 := Int.lt_of_mul_lt_mul_right a1 (Int.le_of_lt hp)
  have b2 := Int.lt_of_mul_lt_mul_right a2 (Int.le_of_lt hp)
  omega
theorem fq0 {z q : Int} (hp : 0 < p) (h0 : 0 ≤ z - q * p) (h1 : z - q * p < p) (hz : 0 ≤ z) (hz2 : z < p) : q = 0 := fq 0 hp h0 h1 (by omega) (by omega)
theorem fq1 {z q : Int} (hp : 0 < p) (h0 : 0 ≤ z - q * p) (h1 : z - q * p < p) (hz : p ≤ z) (hz2 : z < 2 * p) : q = 1 := fq 1 hp h0 h1 (by omega) (by omega)
theorem fqm {z q : Int} (hp : 0 < p) (h0 : 0 ≤ z - q * p) (h1 : z - q * p < p) (hz : z = -p) : q = -1 := fq (-1) hp h0 h1 (by omega) (by omega)
theorem fqn {z q : Int} (hp : 0 < p) (h0 : 0 ≤ z - q * p) (h1 : z - q * p < p) (hz : z < -p) (hz2 : -(2 * p) ≤ z) : q = -2 := fq (-2) hp h0 h1 (by omega) (by omega)
/-- what is small and not 0 in the cross cannot be -/
theorem En_c (hE : En W Y a a' b b' p1) (hB : Bg P Y) : (W a 0 = 0 ∨ P < 2 * W a 0 ∨ 2 * W a 0 < -P) ∧ (W a' 0 = 0 ∨ P < 2 * W a' 0 ∨ 2 * W a' 0 < -P) ∧ (W 0 b = 0 ∨ P < 2 * W 0 b ∨ 2 * W 0 b < -P) ∧ (W 0 b' = 0 ∨ P < 2 * W 0 b' ∨ 2 * W 0 b' < -P) := by
  rcases hE with ⟨h1, _⟩ | ⟨⟨h1, h2, h3, h4⟩, _⟩
  · have e1 := hB a 0
    have e2 := hB a' 0
    have e3 := hB 0 b
    have e4 := hB 0 b'
    rw [h1] at e1 e2 e3 e4
    exact ⟨e1, e2, e3, e4⟩
  · exact ⟨Or.inl h1, Or.inl h2, Or.inl h3, Or.inl h4⟩
theorem SN_x {i i' j j' : Nat} (h : SN X p P i i' j j') (h1 : pm i i') (h2 : pm j j') (g1 : pm a a') (g2 : pm b b') : SN X p P a a' b b' := by
  unfold SN at h ⊢
  rcases pm2 h1 g1 with ⟨rfl, rfl⟩ | ⟨rfl, rfl⟩ <;> rcases pm2 h2 g2 with ⟨rfl, rfl⟩ | ⟨rfl, rfl⟩
  · exact h
  · refine ⟨h.1, h.2.1, h.2.2.1, h.2.2.2.2.1, h.2.2.2.1, h.2.2.2.2.2.1, h.2.2.2.2.2.2.1, ?_⟩
    have := h.2.2.2.2.2.2.2
    omega
  · refine ⟨h.1, h.2.1, h.2.2.1, h.2.2.2.1, h.2.2.2.2.1, h.2.2.2.2.2.2.1, h.2.2.2.2.2.1, ?_⟩
    have := h.2.2.2.2.2.2.2
    omega
  · refine ⟨h.1, h.2.1, h.2.2.1, h.2.2.2.2.1, h.2.2.2.1, h.2.2.2.2.2.2.1, h.2.2.2.2.2.1, ?_⟩
    have := h.2.2.2.2.2.2.2
    omega
/-- a slow pass from a state with something in the cross -/
def N1o (X Y W : Nat → Nat → Int) (p p1 P : Int) (a a' b b' : Nat) : Prop :=
  pm a a' ∧ pm b b' ∧ (0 < p1 ∧ p1 < p ∧ P < 2 * p1) ∧ (∀ i j, X i j = 0 ∨ p1 ≤ X i j ∨ X i j ≤ -p1) ∧ X 0 b = 0 ∧
  ((X a b = p1 ∧ X a 0 = 0) ∨ X a b = -p1) ∧ (X a 0 = 0 → W 0 b = 0) ∧ (W 0 0 = p1 ∧ W a 0 = 0 ∧ W a b = p ∧ W a b' = X 0 b') ∧
  ((0 ≤ W 0 b ∧ W 0 b < p1) ∧ (0 ≤ W 0 b' ∧ W 0 b' < p1) ∧ 0 ≤ W a' 0 ∧ W a' 0 < p1) ∧
  (X a' b = 0 → W a' 0 = 0 ∧ W a' b = X a' 0 ∧ W a' b' = X a' b') ∧ (p1 < X a' b → P < X a' b) ∧
  (X a b = -p1 → X a' b = -p1 → W a' 0 = 0 ∧ W a' b = X a' 0 - X a 0 ∧ W a' b' = X a' b' - X a b') ∧
  (X a 0 = 0 → X a' 0 = 0 → W a' b = 0) ∧ En W Y a a' b b' p1
theorem N1 {i i' j j' : Nat} (hi : pm i i') (hj : pm j j') (hN : SN X p P i i' j j') (hX : Bg P X) (hP : Pv X Y) (hY : Bg P Y) :
    ∃ (W : Nat → Nat → Int) (p1 : Int) (a a' b b' : Nat), N1o X Y W p p1 P a a' b b' := by
  obtain ⟨m, m1, a, a', c, c1, b, b', p1, s, q1, q2, k1, k2, W, ha, hb, hm, hc, hL, hV, hE⟩ := hP
  obtain ⟨n0, n1, n2, n3, n4, n5, n6, n7⟩ := SN_x hN hi hj ha hb
  obtain ⟨l0, l1, l2⟩ := hL
  obtain ⟨v1, v2, v3, v4, v5, v6, v7, v8, v9, v10, v11, v12, v13, v14, v15⟩ := hV
  have hcr := En_c hE hY
  have pa := pmp ha
  have pb := pmp hb
  have y1 := l1 a 0
  have y2 := l1 a' 0
  have y3 := l1 0 b
  have y4 := l1 0 b'
  have lt : p1 < p := by omega
  rcases hm with ⟨rfl, rfl⟩ | ⟨rfl, rfl⟩ <;> rcases hc with ⟨rfl, rfl⟩ | ⟨rfl, rfl⟩
  · exfalso
    rcases v1 with rfl | rfl <;> omega
  · exfalso
    have hx := hX 0 c
    have e1 : X 0 c = p1 := by rcases v1 with rfl | rfl <;> omega
    have e2 : s = 1 := by rcases v1 with rfl | rfl <;> omega
    subst e2
    rw [Int.one_mul] at v4
    have e3 := fq1 l0 (z := X 0 0) (q := k1) (by omega) (by omega) (by omega) (by omega)
    subst e3
    omega
  · exfalso
    have hx := hX m 0
    have e1 : X m 0 = p1 := by rcases v1 with rfl | rfl <;> omega
    have e3 := fq1 l0 (z := X 0 0) (q := q1) (by omega) (by omega) (by omega) (by omega)
    subst e3
    omega
  · have hx := hX m c
    have hp2 : P < 2 * p1 := by rcases v1 with rfl | rfl <;> omega
    have f1 := l2 0 c (Or.inl pa.1)
    have f2 := l2 m 0 (Or.inr ⟨rfl, pb.1⟩)
    have z1 : X 0 c = 0 := by
      rcases f1 with h | h | h
      · exact h
      · exfalso
        have e3 := fq1 l0 (z := X 0 c) (q := q1) (by omega) (by omega) (by omega) (by omega)
        subst e3
        omega
      · omega
    have z2 := fq0 l0 (z := X 0 c) (q := q1) (by omega) (by omega) (by omega) (by omega)
    subst z2
    have z3 : W m 0 = 0 := by omega
    rw [z3] at v8 v9
    have z4 : s = 1 → X m 0 = 0 := by
      intro hs
      subst hs
      rw [Int.one_mul] at v4
      rcases f2 with h | h | h
      · exact h
      · exfalso
        have e3 := fq1 l0 (z := X m 0) (q := k1) (by omega) (by omega) (by omega) (by omega)
        subst e3
        omega
      · omega
    have z5 : X m 0 = 0 → k1 = 0 := by
      intro h
      rw [h, Int.mul_zero] at v4
      exact fq0 l0 (z := 0) (q := k1) (by omega) (by omega) (by omega) (by omega)
    refine ⟨W, p1, m, a', c, b', ha, hb, ⟨l0, lt, hp2⟩, l1, z1, ?_, ?_, ⟨v3, z3, by omega, by omega⟩, ⟨v12, v13, v15⟩, ?_, ?_, ?_, ?_, hE⟩
    · rcases v1 with rfl | rfl
      · exact Or.inl ⟨by omega, z4 rfl⟩
      · exact Or.inr (by omega)
    · intro h
      have := z5 h
      subst this
      rw [h, Int.mul_zero] at v4
      omega
    · intro h
      have e := fq0 l0 (z := X a' c) (q := q2) (by omega) (by omega) (by omega) (by omega)
      subst e
      have e0 : W a' 0 = 0 := by omega
      rw [e0] at v10 v11
      exact ⟨e0, by omega, by omega⟩
    · intro h
      rcases Int.lt_or_le P (X a' c) with g | g
      · exact g
      · exfalso
        have e := fq1 l0 (z := X a' c) (q := q2) (by omega) (by omega) (by omega) (by omega)
        subst e
        omega
    · intro h1 h2
      have e := fqm l0 (z := X a' c) (q := q2) (by omega) (by omega) h2
      have es : s = -1 := by rcases v1 with rfl | rfl <;> omega
      subst e
      subst es
      have e0 : W a' 0 = 0 := by omega
      rw [e0] at v10 v11
      exact ⟨e0, by omega, by omega⟩
    · intro h1 h2
      have e := z5 h1
      subst e
      rw [h1, h2, Int.mul_zero, Int.mul_zero, Int.zero_mul] at v10
      omega
end PBN
