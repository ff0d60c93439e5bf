/-! ===== Both sides are sound ===== -/
section PF1
variable {R C x y K : Nat} {G g w v u F33 : Nat → Int64}
theorem rko_l (h : ∀ k, 1 ≤ k → k ≤ min R C → (D_X7_divisor R C G (nI k) = 0 ↔ x < k)) (hx : x ≤ min R C) : ∀ n k s : Nat, s = min x (k - 1) → 1 ≤ k → k ≤ min R C + 1 → min R C + 1 - k < n → D_X7_rank_4 R C G n k s = nI x := by
  intro n
  induction n with
  | zero => intro k s _ _ _ h; omega
  | succ n ih =>
    intro k s hs hk1 hk hn
    rw [D_X7_rank_4_s]
    show (if min R C < k then nI s else bnd1 (D_X7_divisor R C G (nI k)) (fun x14 => if lg_cmp x14 0 = 0 then D_X7_rank_4 R C G n (k + 1) s else D_X7_rank_4 R C G n (k + 1) k)) = nI x
    by_cases e : min R C < k
    · rw [if_pos e]
      congr 1
      omega
    · rw [if_neg e, bnd1_e]
      have h1 := h k hk1 (by omega)
      by_cases z : D_X7_divisor R C G (nI k) = 0
      · rw [if_pos (lgE.mpr z)]
        have := h1.mp z
        exact ih (k + 1) s (by omega) (by omega) (by omega) (by omega)
      · rw [if_neg (fun h => z (lgE.mp h))]
        have : ¬ x < k := fun h => z (h1.mpr h)
        exact ih (k + 1) k (by omega) (by omega) (by omega) (by omega)
/-- RANK, by the DIVISORS that are 0 -/
theorem rko (h : ∀ k, 1 ≤ k → k ≤ min R C → (D_X7_divisor R C G (nI k) = 0 ↔ x < k)) (hx : x ≤ min R C) : D_X7_rank R C G = nI x := rko_l h hx _ 1 0 (by omega) (by omega) (by omega) (by omega)
theorem r8_1 {lb : Nat → Nat → Int32} {a s : Nat} : ∀ n k : Nat, k ≤ C → C - k < n → D_X8_rank_20 C w lb a s n k 1 = lb (a + 1) (s + 1) := by
  intro n
  induction n with
  | zero => intro k _ h; omega
  | succ n ih =>
    intro k hk hn
    rw [D_X8_rank_20_s]
    by_cases e : C ≤ k
    · rw [if_pos e, if_neg one0]
    · rw [if_neg e]
      by_cases z : lg_cmp (w (a * 5 + k)) 0 = 0
      · rw [if_pos z]; exact ih (k + 1) (by omega) (by omega)
      · rw [if_neg z]; exact ih (k + 1) (by omega) (by omega)
theorem r8_0 {lb : Nat → Nat → Int32} {a s : Nat} : ∀ n k : Nat, k ≤ C → C - k < n → (∀ b, k ≤ b → b < C → w (a * 5 + b) = 0) → D_X8_rank_20 C w lb a s n k 0 = lb (a + 1) s := by
  intro n
  induction n with
  | zero => intro k _ h; omega
  | succ n ih =>
    intro k hk hn h
    rw [D_X8_rank_20_s]
    by_cases e : C ≤ k
    · rw [if_pos e, if_pos rfl]; rfl
    · rw [if_neg e, if_pos (lgE.mpr (h k (Nat.le_refl _) (by omega)))]
      exact ih (k + 1) (by omega) (by omega) (fun b h1 h2 => h b (by omega) h2)
theorem r8_n {lb : Nat → Nat → Int32} {a s : Nat} : ∀ n k : Nat, k ≤ C → C - k < n → (∃ b, k ≤ b ∧ b < C ∧ ¬ w (a * 5 + b) = 0) → D_X8_rank_20 C w lb a s n k 0 = lb (a + 1) (s + 1) := by
  intro n
  induction n with
  | zero => intro k _ h; omega
  | succ n ih =>
    intro k hk hn h
    obtain ⟨b, h1, h2, h3⟩ := h
    rw [D_X8_rank_20_s, if_neg (by omega)]
    by_cases z : w (a * 5 + k) = 0
    · rw [if_pos (lgE.mpr z)]
      refine ih (k + 1) (by omega) (by omega) ⟨b, ?_, h2, h3⟩
      by_cases e : b = k
      · rw [e] at h3; exact absurd z h3
      · omega
    · rw [if_neg (fun h => z (lgE.mp h))]
      exact r8_1 _ _ (by omega) (by omega)
/-- rows that are not 0, counted -/
theorem r8_l (hx : x ≤ R) (h1 : ∀ a, a < x → ∃ b, b < C ∧ ¬ w (a * 5 + b) = 0) (h2 : ∀ a b, x ≤ a → a < R → b < C → w (a * 5 + b) = 0) : ∀ n k s : Nat, s = min x k → k ≤ R → R - k < n → D_X8_rank_4 R C w n k s = nI x := by
  intro n
  induction n with
  | zero => intro k s _ _ h; omega
  | succ n ih =>
    intro k s hs hk hn
    rw [D_X8_rank_4_s]
    by_cases e : R ≤ k
    · rw [if_pos e]
      congr 1
      omega
    · rw [if_neg e]
      by_cases c : k < x
      · obtain ⟨b, b1, b2⟩ := h1 k c
        rw [r8_n _ _ (by omega) (by omega) ⟨b, by omega, b1, b2⟩]
        exact ih (k + 1) (s + 1) (by omega) (by omega) (by omega)
      · rw [r8_0 _ _ (by omega) (by omega) (fun b _ hb => h2 k b (by omega) (by omega) hb)]
        exact ih (k + 1) s (by omega) (by omega) (by omega)
theorem r8 {v0 : Nat → Int64} {s t : Int32} (hx : x ≤ R) (h1 : ∀ a, a < x → ∃ b, b < C ∧ ¬ w (a * 5 + b) = 0) (h2 : ∀ a b, x ≤ a → a < R → b < C → w (a * 5 + b) = 0) : D_X8_rank R C v0 w s t = nI x := r8_l hx h1 h2 _ 0 0 (by omega) (by omega) (by omega)
/-- the rows of a stepped form -/
theorem ech_rows (h : Ech R x y w) (he : C ≤ y ∨ R ≤ x) (hx : x ≤ R) (hy : y ≤ C) : x ≤ C ∧ (∀ a, a < x → ∃ b, b < C ∧ ¬ w (a * 5 + b) = 0) ∧ (∀ a b, x ≤ a → a < R → b < C → w (a * 5 + b) = 0) ∧ ∀ a b, b < a → a < R → b < C → w (a * 5 + b) = 0 := by
  obtain ⟨h1, h2, p, h3⟩ := h
  have hz : ∀ a b, x ≤ a → a < R → b < C → w (a * 5 + b) = 0 := fun a b ha1 ha2 hb => by
    rcases he with e | e
    · exact h2 a b ha1 ha2 (by omega)
    · omega
  refine ⟨by omega, fun a ha => ⟨p a, ?_, (h3 a ha).2.2.1⟩, hz, fun a b hab ha hb => ?_⟩
  · have := (h3 a ha).1; omega
  · by_cases e : a < x
    · obtain ⟨k1, k2, k3, k4, k5, k6⟩ := h3 a e
      exact k5 b (by omega)
    · exact hz a b (by omega) ha hb
theorem nz_i' {x : Int64} (h : ¬ x = 0) : x.toInt ≠ 0 := fun e => h (Int64.toInt_inj.mp e)
theorem d0_iff {D : Int64} : D = 0 ↔ (0 : Int) ∣ D.toInt := by
  rw [Int.zero_dvd]
  exact ⟨fun h => by rw [h]; rfl, fun h => Int64.toInt_inj.mp h⟩
/-- the DIVISORS that are 0, by the rows that are not 0 -/
theorem ech_div (hR1 : 1 ≤ R) (hR : R ≤ 3) (hC : C ≤ 3) (hG : ∀ j, j < R * 5 → Bq 20 (G j)) (hZ : Zq (mxi R C G) (mxi R C w)) (h : Ech R x y w) (he : C ≤ y ∨ R ≤ x) (hx : x ≤ R) (hy : y ≤ C) : ∀ k, 1 ≤ k → k ≤ min R C → (D_X7_divisor R C G (nI k) = 0 ↔ x < k) := by
  obtain ⟨q1, q2, q3, q4⟩ := ech_rows h he hx hy
  obtain ⟨h1, h2, p, h3⟩ := h
  have hW0 : ∀ a b, x ≤ a → mxi R C w a b = 0 := fun a b ha => by
    by_cases e : a < R ∧ b < C
    · rw [mxi_p e, q3 a b ha e.1 e.2]; rfl
    · exact mxi_n e
  have hWp : ∀ a, a < x → mxi R C w a (p a) ≠ 0 := fun a ha => by
    obtain ⟨k1, k2, k3, _⟩ := h3 a ha
    rw [mxi_p ⟨by omega, by omega⟩]
    exact nz_i' k3
  have hWb : ∀ a b, a < x → a < b → mxi R C w b (p a) = 0 := fun a b ha hb => by
    obtain ⟨k1, k2, k3, k4, _⟩ := h3 a ha
    by_cases e : b < R ∧ p a < C
    · rw [mxi_p e, k4 b hb e.1]; rfl
    · exact mxi_n e
  intro k hk1 hk
  rw [d0_iff]
  rcases (show k = 1 ∨ k = 2 ∨ k = 3 by omega) with rfl | rfl | rfl
  · rw [(dz1 hR1 hR hC hG).2, ← hZ.1]
    constructor
    · intro g
      by_cases e : x < 1
      · exact e
      · exact absurd (Int.zero_dvd.mp (g 0 (p 0))) (hWp 0 (by omega))
    · intro e a b
      rw [hW0 a b (by omega)]
      exact Int.dvd_zero _
  · rw [(dz2 hR1 hR hC hG).2, ← hZ.2.1]
    constructor
    · intro g
      by_cases e : x < 2
      · exact e
      · have g1 := Int.zero_dvd.mp (g 0 1 (p 0) (p 1))
        unfold mnr2 at g1
        rw [hWb 0 1 (by omega) (by omega), Int.mul_zero, Int.sub_zero] at g1
        rcases Int.mul_eq_zero.mp g1 with g2 | g2
        · exact absurd g2 (hWp 0 (by omega))
        · exact absurd g2 (hWp 1 (by omega))
    · intro e
      refine zd2_of (R := R) (C := C) (fun a b => mxi_n) (fun a b c d g1 g2 g3 g4 => ?_)
      unfold mnr2
      rw [hW0 b c (by omega), hW0 b d (by omega)]
      exact ⟨0, by omega⟩
  · obtain rfl : R = 3 := by omega
    obtain rfl : C = 3 := by omega
    rw [(dz3 hG).2.1, Int.zero_dvd]
    have hm : mnr3 (mxi 3 3 w) = 0 ↔ x < 3 := by
      constructor
      · intro g
        by_cases e : x < 3
        · exact e
        · have a0 := h3 0 (by omega)
          have a1 := h3 1 (by omega)
          have a2 := h3 2 (by omega)
          have b1 := a1.2.2.2.2.2 0 (by omega)
          have b2 := a2.2.2.2.2.2 1 (by omega)
          have p0 : p 0 = 0 := by omega
          have p1 : p 1 = 1 := by omega
          have p2 : p 2 = 2 := by omega
          have u1 := hWb 0 1 (by omega) (by omega)
          have u2 := hWb 0 2 (by omega) (by omega)
          have u3 := hWb 1 2 (by omega) (by omega)
          have n0 := hWp 0 (by omega)
          have n1 := hWp 1 (by omega)
          have n2 := hWp 2 (by omega)
          rw [p0] at u1 u2 n0
          rw [p1] at u3 n1
          rw [p2] at n2
          have e2 : mnr3 (mxi 3 3 w) = mxi 3 3 w 0 0 * (mxi 3 3 w 1 1 * mxi 3 3 w 2 2) := by
            unfold mnr3
            rw [u1, u2, u3]
            grind
          rw [e2] at g
          rcases Int.mul_eq_zero.mp g with g2 | g2
          · exact absurd g2 n0
          · rcases Int.mul_eq_zero.mp g2 with g3 | g3
            · exact absurd g3 n1
            · exact absurd g3 n2
      · intro e
        unfold mnr3
        rw [hW0 2 0 (by omega), hW0 2 1 (by omega), hW0 2 2 (by omega)]
        grind
    rw [← hm]
    rcases hZ.2.2 with e | e
    · rw [e]
    · rw [e]; omega
/-- a product along the diagonal -/
def dp (w : Nat → Int64) (s : Int64) : Nat → Int64
  | 0 => s
  | k + 1 => dp w s k * w (k * 5 + k)
theorem dp_dt {s : Int64} (hR1 : 1 ≤ R) (hR : R ≤ 3) (h : ∀ a b, b < a → a < R → b < R → w (a * 5 + b) = 0) : dp w s R = s * dtn R w := by
  rcases (show R = 1 ∨ R = 2 ∨ R = 3 by omega) with rfl | rfl | rfl
  · simp [dp, dtn]
  · have a1 := h 1 0 (by omega) (by omega) (by omega)
    simp [dp, dtn, dt2] at a1 ⊢
    grind
  · have a1 := h 1 0 (by omega) (by omega) (by omega)
    have a2 := h 2 0 (by omega) (by omega) (by omega)
    have a3 := h 2 1 (by omega) (by omega) (by omega)
    simp [dp, dtn, dt3] at a1 a2 a3 ⊢
    grind
theorem Sg_sq {s : Int32} {d : Int64} (h : Sg s d) : d * d = 1 := by
  rcases h with ⟨_, rfl⟩ | ⟨_, rfl⟩ <;> decide +kernel
/-- the diagonal of the steps -/
def dlt (W : Mi) : Nat → Int
  | 0 => 1
  | k + 1 => dlt W k * W k k
theorem diag_div (hR1 : 1 ≤ R) (hC1 : 1 ≤ C) (hR : R ≤ 3) (hC : C ≤ 3) (hG : ∀ j, j < R * 5 → Bq 20 (G j)) (hZ : Zq (mxi R C G) (mxi R C w)) (hD : Dia R C K w) (hK : Rk R C w K) (hB : ∀ a b, K ≤ a → a < R → K ≤ b → b < C → w (a * 5 + b) = 0) : (∀ k, k ≤ min R C → (D_X7_divisor R C G (nI k)).toInt = dlt (mxi R C w) k) ∧ ∀ k, 1 ≤ k → k ≤ min R C → (D_X7_divisor R C G (nI k) = 0 ↔ K < k) := by
  have hz := dia_z hD
  have ho : ∀ a b, a ≠ b → mxi R C w a b = 0 := fun a b hab => by
    by_cases e : a < R ∧ b < C
    · rw [mxi_p e]
      by_cases e2 : a < K ∨ b < K
      · rw [hz a b e.1 e.2 e2 hab]; rfl
      · rw [hB a b (by omega) e.1 (by omega) e.2]; rfl
    · exact mxi_n e
  have hK0 : ∀ a, K ≤ a → mxi R C w a a = 0 := fun a ha => by
    by_cases e : a < R ∧ a < C
    · rw [mxi_p e, hB a a ha e.1 ha e.2]; rfl
    · exact mxi_n e
  have hKp : ∀ a, a < K → 0 < mxi R C w a a := fun a ha => by
    have h1 := hK.1
    have h2 := hK.2.1
    rw [mxi_p ⟨by omega, by omega⟩]
    exact (hD a ha).2.2.1
  have hn : ∀ a, 0 ≤ mxi R C w a a := fun a => by
    by_cases e : a < K
    · exact Int.le_of_lt (hKp a e)
    · rw [hK0 a (by omega)]; exact Int.le_refl _
  have hdv : ∀ a b, a ≤ b → mxi R C w a a ∣ mxi R C w b b := fun a b hab => by
    by_cases e : b < K
    · have h1 := hK.1
      have h2 := hK.2.1
      rw [mxi_p ⟨by omega, by omega⟩, mxi_p ⟨by omega, by omega⟩]
      exact (hD a (by omega)).2.2.2 b b hab (by omega) hab (by omega)
    · rw [hK0 b (by omega)]; exact Int.dvd_zero _
  -- what divides the minors
  have c1 : ∀ z, zd1 (mxi R C w) z ↔ z ∣ mxi R C w 0 0 := fun z => ⟨fun h => h 0 0, fun h a b => by
    by_cases e : a = b
    · rw [e]; exact Int.dvd_trans h (hdv 0 b (Nat.zero_le _))
    · rw [ho a b e]; exact Int.dvd_zero _⟩
  have c2 : ∀ z, zd2 (mxi R C w) z ↔ z ∣ mxi R C w 0 0 * mxi R C w 1 1 := fun z => ⟨fun h => by
    have := h 0 1 0 1
    unfold mnr2 at this
    rw [ho 0 1 (by decide), Int.zero_mul, Int.sub_zero] at this
    exact this, fun h => zd2_of (R := R) (C := C) (fun a b => mxi_n) (fun a b c d g1 g2 g3 g4 => by
    unfold mnr2
    by_cases e1 : a = c
    · by_cases e2 : b = d
      · rw [← e1, ← e2, ho a b (by omega), ho b a (by omega), Int.zero_mul, Int.sub_zero]
        exact Int.dvd_trans h (Int.mul_dvd_mul (hdv 0 a (Nat.zero_le _)) (hdv 1 b (by omega)))
      · rw [ho b d e2, ho b c (by omega), Int.mul_zero, Int.mul_zero]
        exact Int.dvd_zero _
    · by_cases e2 : a = d
      · rw [ho a c e1, ho b c (by omega), Int.zero_mul, Int.mul_zero]
        exact Int.dvd_zero _
      · rw [ho a c e1, ho a d e2, Int.zero_mul, Int.zero_mul]
        exact Int.dvd_zero _)⟩
  have e1 : (D_X7_divisor R C G (nI 1)).toInt = mxi R C w 0 0 := by
    obtain ⟨d1, d2⟩ := dz1 hR1 hR hC hG
    have d3 : ∀ z, z ∣ (D_X7_divisor R C G (nI 1)).toInt ↔ z ∣ mxi R C w 0 0 := fun z => (d2 z).trans ((hZ.1 z).symm.trans (c1 z))
    exact Int.dvd_antisymm d1 (hn 0) ((d3 _).mp ⟨1, by omega⟩) ((d3 _).mpr ⟨1, by omega⟩)
  have e2 : (D_X7_divisor R C G (nI 2)).toInt = mxi R C w 0 0 * mxi R C w 1 1 := by
    obtain ⟨d1, d2⟩ := dz2 hR1 hR hC hG
    have d3 : ∀ z, z ∣ (D_X7_divisor R C G (nI 2)).toInt ↔ z ∣ mxi R C w 0 0 * mxi R C w 1 1 := fun z => (d2 z).trans ((hZ.2.1 z).symm.trans (c2 z))
    exact Int.dvd_antisymm d1 (Int.mul_nonneg (hn 0) (hn 1)) ((d3 _).mp ⟨1, by omega⟩) ((d3 _).mpr ⟨1, by omega⟩)
  have e3 : R = 3 → C = 3 → (D_X7_divisor R C G (nI 3)).toInt = mxi R C w 0 0 * mxi R C w 1 1 * mxi R C w 2 2 := fun g1 g2 => by
    subst g1 g2
    obtain ⟨d1, d2, _⟩ := dz3 hG
    have dm : mnr3 (mxi 3 3 w) = mxi 3 3 w 0 0 * mxi 3 3 w 1 1 * mxi 3 3 w 2 2 := by
      unfold mnr3
      rw [ho 0 1 (by decide), ho 0 2 (by decide), ho 1 2 (by decide)]
      grind
    have d3 : ∀ z, z ∣ (D_X7_divisor 3 3 G (nI 3)).toInt ↔ z ∣ mxi 3 3 w 0 0 * mxi 3 3 w 1 1 * mxi 3 3 w 2 2 := fun z => by
      rw [d2 z, ← dm]
      rcases hZ.2.2 with e | e
      · rw [e]
      · rw [e, Int.dvd_neg]
    exact Int.dvd_antisymm d1 (Int.mul_nonneg (Int.mul_nonneg (hn 0) (hn 1)) (hn 2)) ((d3 _).mp ⟨1, by omega⟩) ((d3 _).mpr ⟨1, by omega⟩)
  have hall : ∀ k, k ≤ min R C → (D_X7_divisor R C G (nI k)).toInt = dlt (mxi R C w) k := fun k hk => by
    rcases (show k = 0 ∨ k = 1 ∨ k = 2 ∨ k = 3 by omega) with rfl | rfl | rfl | rfl
    · unfold D_X7_divisor
      rw [if_pos (show nI 0 = 0 from rfl)]
      rfl
    · rw [e1]
      show _ = 1 * mxi R C w 0 0
      rw [Int.one_mul]
    · rw [e2]
      show _ = 1 * mxi R C w 0 0 * mxi R C w 1 1
      rw [Int.one_mul]
    · rw [e3 (by omega) (by omega)]
      show _ = 1 * mxi R C w 0 0 * mxi R C w 1 1 * mxi R C w 2 2
      rw [Int.one_mul]
  refine ⟨hall, fun k hk1 hk => ?_⟩
  rw [d0_iff, Int.zero_dvd, hall k hk]
  have hd : ∀ j, dlt (mxi R C w) j = 0 ↔ K < j := by
    intro j
    induction j with
    | zero => exact ⟨fun h => absurd (show (1 : Int) = 0 from h) (by decide), fun h => absurd h (by omega)⟩
    | succ j ih =>
      show dlt (mxi R C w) j * mxi R C w j j = 0 ↔ K < j + 1
      rw [Int.mul_eq_zero, ih]
      constructor
      · rintro (h | h)
        · omega
        · by_cases e : j < K
          · have := hKp j e; omega
          · omega
      · intro h
        exact Or.inr (hK0 j (by omega))
  exact hd k
end PF1
