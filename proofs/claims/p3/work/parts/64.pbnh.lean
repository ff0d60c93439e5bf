/-- a chain of passes -/
def Chn (R C t : Nat) : Nat → (Nat → Int64) → Prop
  | 0, _ => True
  | n + 1, w => ∃ w3, Ps R C t w w3 ∧ Chn R C t n w3
/-- a state to which a row was added -/
def Aw (R C t : Nat) (w : Nat → Int64) (p : Int) : Prop := (w (t * 5 + t)).toInt = p ∧ 0 < p ∧ (∀ a, t < a → a < R → (w (a * 5 + t)).toInt = 0) ∧ ∃ b, t < b ∧ b < C ∧ (w (t * 5 + b)).toInt % p ≠ 0
/-- some number of the block is not 0, of at most this size -/
def Hs (R C t : Nat) (w : Nat → Int64) (k : Int) : Prop := ∃ a b, t ≤ a ∧ a < R ∧ t ≤ b ∧ b < C ∧ (w (a * 5 + b)).toInt ≠ 0 ∧ (w (a * 5 + b)).toInt ≤ k ∧ -k ≤ (w (a * 5 + b)).toInt
section PBH
variable {w w3 : Nat → Int64} {R C t : Nat}
theorem Chn_le : ∀ {m n : Nat} {w : Nat → Int64}, m ≤ n → Chn R C t n w → Chn R C t m w
  | 0, _, _, _, _ => trivial
  | m + 1, 0, _, h, _ => absurd h (by omega)
  | m + 1, n + 1, _, h, ⟨w3, h1, h2⟩ => ⟨w3, h1, Chn_le (by omega) h2⟩
theorem no_bg {P : Int} (h : ¬ Bg P (Xo R C t w)) : Hs R C t w (P / 2) := by
  obtain ⟨i, hi⟩ := Classical.not_forall.mp h
  obtain ⟨j, hj⟩ := Classical.not_forall.mp hi
  by_cases g : t + i < R ∧ t + j < C
  · rw [xo_in g] at hj
    exact ⟨t + i, t + j, by omega, g.1, by omega, g.2, by omega, by omega, by omega⟩
  · exact absurd (Or.inl (xo_out g)) hj
theorem ch_sl {P : Int} {m : Nat} (hR : R ≤ t + 3) (hC : C ≤ t + 3) (ht : t < R ∧ t < C) : ∀ (n : Nat) (w : Nat → Int64), Chn R C t (n + m) w → Sl n P (Xo R C t w) ∨ ∃ w', Chn R C t m w' ∧ Hs R C t w' (P / 2) := by
  intro n
  induction n with
  | zero => intro w h; exact Or.inl trivial
  | succ n ih =>
    intro w h
    rw [show n + 1 + m = (n + m) + 1 by omega] at h
    obtain ⟨w3, h1, h2⟩ := h
    rcases Classical.em (Bg P (Xo R C t w3)) with hb | hb
    · rcases ih w3 h2 with h3 | h3
      · exact Or.inl ⟨_, Ps_Pv h1 hR hC ht, hb, h3⟩
      · exact Or.inr h3
    · exact Or.inr ⟨w3, Chn_le (by omega) h2, no_bg hb⟩
/-- a block of at most three rows and columns: seven passes a halving -/
theorem ch_half (hR : R ≤ t + 3) (hC : C ≤ t + 3) (ht : t < R ∧ t < C) : ∀ (k : Nat) (w : Nat → Int64) (P : Int), P < 2 ^ k → Hs R C t w P → ¬ Chn R C t (7 * k + 1) w := by
  intro k
  induction k with
  | zero =>
    intro w P hP hH _
    obtain ⟨a, b, _, _, _, _, h1, h2, h3⟩ := hH
    have : (2 : Int) ^ 0 = 1 := rfl
    omega
  | succ k ih =>
    intro w P hP hH hc
    rw [show 7 * (k + 1) + 1 = (6 + (7 * k + 1)) + 1 by omega] at hc
    obtain ⟨w1, h1, h2⟩ := hc
    have hv := Ps_Pv h1 hR hC ht
    have hP2 : P / 2 < 2 ^ k := by
      have : (2 : Int) ^ (k + 1) = 2 ^ k * 2 := Int.pow_succ 2 k
      omega
    rcases Classical.em (Bg P (Xo R C t w1)) with hb | hb
    · rcases ch_sl hR hC ht (P := P) (m := 7 * k + 1) 6 w1 h2 with h3 | ⟨w', h3, h4⟩
      · obtain ⟨a, b, g1, g2, g3, g4, g5, g6, g7⟩ := hH
        refine Pv_half hv ⟨a - t, b - t, ?_⟩ hb h3
        rw [xo_in (by omega), show t + (a - t) = a by omega, show t + (b - t) = b by omega]
        exact ⟨g5, g6, g7⟩
      · exact ih w' (P / 2) hP2 h4 h3
    · exact ih w1 (P / 2) hP2 (no_bg hb) (Chn_le (by omega) h2)
/-- a pass: what is least falls, or a row is added; behind that it falls -/
theorem Ps_dec (hP : Ps R C t w w3) (ht : t < R ∧ t < C) : ∃ p : Int, 0 < p ∧ Hs R C t w p ∧ (∀ k, Hs R C t w k → p ≤ k) ∧ (Hs R C t w3 (p - 1) ∨ Aw R C t w3 p) ∧ (Aw R C t w p → Hs R C t w3 (p - 1)) := by
  obtain ⟨m, c0, s, Q, K, B, W1, W2, hm, hs, hn, hl, hf, hB, hp, a1, a2, a3, a4, a5, a6, hE⟩ := hP
  have hp0 : B t t = s * (w (m * 5 + c0)).toInt := by
    have := hB t t (Nat.le_refl _) ht.1 (Nat.le_refl _) ht.2
    rwa [if_pos rfl, if_pos rfl, if_pos rfl] at this
  have e1 := na_i (x := w (m * 5 + c0))
  have e2 := na_p (x := w (m * 5 + c0))
  have hpn : (na (w (m * 5 + c0)) : Int) = B t t ∧ ((w (m * 5 + c0)).toInt = B t t ∨ (w (m * 5 + c0)).toInt = -B t t) := by rcases hs with rfl | rfl <;> omega
  have w2tt : W2 t t = B t t := by rw [a4 t (Nat.le_refl _) ht.1, a1 t (Nat.le_refl _) ht.2]
  have hnn : ((∀ a b, t ≤ a → a < R → t ≤ b → b < C → (w3 (a * 5 + b)).toInt = W2 a b) ∧ ((∃ a, t < a ∧ a < R ∧ W2 a t ≠ 0) ∨ ∃ b, t < b ∧ b < C ∧ W2 t b ≠ 0)) → Hs R C t w3 (B t t - 1) := by
    intro ⟨g1, g2⟩
    rcases g2 with ⟨a, h1, h2, h3⟩ | ⟨b, h1, h2, h3⟩
    · have r := a3 a h1 h2
      rw [← a4 a (by omega) h2] at r
      have e := g1 a t (by omega) h2 (Nat.le_refl _) ht.2
      exact ⟨a, t, by omega, h2, Nat.le_refl _, ht.2, by omega, by omega, by omega⟩
    · have r := a6 b h1 h2
      have e := g1 t b (Nat.le_refl _) ht.1 (by omega) h2
      exact ⟨t, b, Nat.le_refl _, ht.1, by omega, h2, by omega, by omega, by omega⟩
  refine ⟨B t t, hp, ⟨m, c0, hm.1, hm.2.1, hm.2.2.1, hm.2.2.2, nz_i hn, by omega, by omega⟩, ?_, ?_, ?_⟩
  · intro k ⟨a, b, h1, h2, h3, h4, h5, h6, h7⟩
    have g1 := hl a b h1 h2 h3 h4 (fun e => h5 (by rw [e]; rfl))
    have g2 := na_i (x := w (a * 5 + b))
    omega
  · rcases hE with h | ⟨h1, h2, i, j, h3, h4, h5, h6, h7, h8⟩
    · exact Or.inl (hnn h)
    · refine Or.inr ⟨?_, hp, fun a ha ha2 => ?_, j, h5, h6, ?_⟩
      · have := h8 t t (Nat.le_refl _) ht.1 (Nat.le_refl _) ht.2
        rw [if_pos rfl, h1 i h3 h4, w2tt] at this
        omega
      · have := h8 a t (by omega) ha2 (Nat.le_refl _) ht.2
        rw [if_neg (by omega), h1 a ha ha2] at this
        exact this
      · have := h8 t j (Nat.le_refl _) ht.1 (by omega) h6
        rw [if_pos rfl, h2 j h5 h6, Int.zero_add] at this
        rw [this, ← w2tt]
        exact h7
  · intro ⟨g1, g2, g3, b, g4, g5, g6⟩
    have hpl : m = t ∧ c0 = t := by
      rcases Classical.em (t < m ∨ t = m ∧ t < c0) with h | h
      · exfalso
        rcases hf t t (Nat.le_refl _) ht.1 (Nat.le_refl _) ht.2 h with h2 | h2
        · rw [h2] at g1
          have : (0 : Int64).toInt = 0 := rfl
          omega
        · have := na_i (x := w (t * 5 + t))
          omega
      · omega
    obtain ⟨rfl, rfl⟩ := hpl
    have hb := hB c0 b (Nat.le_refl _) ht.1 (by omega) g5
    have hs1 : s = 1 := by rcases hs with rfl | rfl <;> omega
    subst hs1
    rw [if_pos rfl, if_pos rfl, if_neg (by omega), if_neg (by omega), Int.one_mul] at hb
    have w2 := a5 c0 b (Nat.le_refl _) ht.1 (by omega) g5
    rw [a1 b (by omega) g5, a1 c0 (Nat.le_refl _) ht.2, hb] at w2
    have hne : W2 c0 b ≠ 0 := by
      intro e
      rw [w2] at e
      exact g6 (no_rem e)
    rcases hE with h | ⟨h1, h2, _⟩
    · exact hnn h
    · exact absurd (h2 b g4 g5) hne
/-- the steps of one t end -/
theorem ch_two (ht : t < R ∧ t < C) : ∀ (k : Nat) (w : Nat → Int64), Hs R C t w k → ¬ Chn R C t (2 * k + 1) w := by
  intro k
  induction k with
  | zero =>
    intro w hH _
    obtain ⟨a, b, _, _, _, _, h1, h2, h3⟩ := hH
    omega
  | succ k ih =>
    intro w hH hc
    rw [show 2 * (k + 1) + 1 = (2 * k + 2) + 1 by omega] at hc
    obtain ⟨w3, h1, h2⟩ := hc
    have up : ∀ {v : Nat → Int64} {p q : Int}, p ≤ q → Hs R C t v p → Hs R C t v q := by
      intro v p q h ⟨a, b, g1, g2, g3, g4, g5, g6, g7⟩
      exact ⟨a, b, g1, g2, g3, g4, g5, by omega, by omega⟩
    obtain ⟨p, p1, p2, p3, p4, p5⟩ := Ps_dec h1 ht
    have hpk := p3 _ hH
    rcases p4 with p4 | p4
    · exact ih w3 (up (by omega) p4) (Chn_le (by omega) h2)
    · obtain ⟨w4, h3, h4⟩ := h2
      obtain ⟨q, q1, q2, q3, q4, q5⟩ := Ps_dec h3 ht
      have hq : q ≤ p := q3 p ⟨t, t, Nat.le_refl _, ht.1, Nat.le_refl _, ht.2, by have := p4.1; omega, by have := p4.1; omega, by have := p4.1; omega⟩
      rcases Classical.em (q = p) with e | e
      · subst e
        exact ih w4 (up (by omega) (q5 p4)) h4
      · exact ih w3 (up (by omega) q2) (Chn_le (n := (2 * k + 1) + 1) (by omega) ⟨w4, h3, h4⟩)
end PBH
