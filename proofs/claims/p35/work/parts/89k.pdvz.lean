/-! ===== DIVISORS, by what divides them ===== -/
section PVZ
variable {R C k : Nat} {G F rec : Nat → Int64} {p q r s : Int64}
theorem gcd_dvz {z a b : Int} : z ∣ ((Nat.gcd a.natAbs b.natAbs : Nat) : Int) ↔ z ∣ a ∧ z ∣ b := by
  rw [← Int.natAbs_dvd_natAbs, Int.natAbs_natCast, Nat.dvd_gcd_iff, Int.natAbs_dvd_natAbs, Int.natAbs_dvd_natAbs]
theorem lo_of {B : Nat} {x : Int64} (hB : B < 2 ^ 62) (h : Bq B x) : -9223372036854775808 < x.toInt := by
  unfold Bq at h
  have p : (2 : Nat) ^ 62 = 4611686018427387904 := rfl
  omega
/-- the columns -/
theorem dz_in (hR : R ≤ 4) (hC : C ≤ 5) (hG : ∀ j, j < R * 5 → Bq 20 (G j)) (hk : k ≤ 5) {x : Nat} (h0 : 0 < x) (hx : x < 2 ^ R) (hpx : pc5 x = k) {lbr : Nat → Int64 → Int64} : ∀ n y : Nat, ∀ s : Int64, y ≤ 2 ^ C → 2 ^ C - y < n → Bq 100000000 s → 0 ≤ s.toInt → ∃ S : Int64, Bq 100000000 S ∧ 0 ≤ S.toInt ∧ D_X7_divisor_37 C G (nI k) lbr x n y s = lbr (x + 1) S ∧ ∀ z : Int, z ∣ S.toInt ↔ z ∣ s.toInt ∧ ∀ y', y ≤ y' → y' < 2 ^ C → pc5 y' = k → z ∣ (mnv G C k x y').toInt := by
  have pC : 2 ^ C ≤ 2 ^ 5 := Nat.pow_le_pow_right (by decide) hC
  have p5 : (2 : Nat) ^ 5 = 32 := rfl
  have x16 : x < 16 := Nat.lt_of_lt_of_le hx (Nat.pow_le_pow_right (by decide) hR : 2 ^ R ≤ 2 ^ 4)
  intro n
  induction n with
  | zero => intro y s _ h; omega
  | succ n ih =>
    intro y s hy hn hs hs0
    rw [D_X7_divisor_37_s]
    by_cases e : 2 ^ C ≤ y
    · rw [if_pos e]
      exact ⟨s, hs, hs0, rfl, fun z => ⟨fun h => ⟨h, fun y' h1 h2 => absurd h2 (by omega)⟩, fun h => h.1⟩⟩
    · rw [if_neg e]
      have y32 : y < 32 := by omega
      have hp1 := pcl5 y y32
      rw [fbc y y32]
      show ∃ S : Int64, Bq 100000000 S ∧ 0 ≤ S.toInt ∧ (if nI (pc5 y) = nI k then D_X7_divisor_37 C G (nI k) lbr x n (y + 1) (gcv s (mnv G C (pc5 x) x y)) else D_X7_divisor_37 C G (nI k) lbr x n (y + 1) s) = lbr (x + 1) S ∧ ∀ z : Int, z ∣ S.toInt ↔ z ∣ s.toInt ∧ ∀ y', y ≤ y' → y' < 2 ^ C → pc5 y' = k → z ∣ (mnv G C k x y').toInt
      by_cases c : pc5 y = k
      · rw [if_pos (congrArg nI c)]
        have hb := mnv_b hR hC hG (pc5 x) (pc5_4 x x16) x y h0 hx
        have hb2 : Bq 100000000 (mnv G C (pc5 x) x y) := Nat.le_trans hb (Nat.pow_le_pow_right (by decide) (pc5_4 x x16) : 100 ^ pc5 x ≤ 100 ^ 4)
        have hg := gcv_int (lo_of (by decide) hs) (lo_of (by decide) hb2)
        obtain ⟨S, g1, g2, g3, g4⟩ := ih (y + 1) (gcv s (mnv G C (pc5 x) x y)) (by omega) (by omega) (gcv_b (by decide) hs hb2) (by omega)
        refine ⟨S, g1, g2, g3, fun z => (g4 z).trans ?_⟩
        rw [hg, gcd_dvz, hpx]
        constructor
        · rintro ⟨⟨h1, h2⟩, h3⟩
          refine ⟨h1, fun y' a1 a2 a3 => ?_⟩
          by_cases ey : y' = y
          · rw [ey]; exact h2
          · exact h3 y' (by omega) a2 a3
        · rintro ⟨h1, h2⟩
          exact ⟨⟨h1, h2 y (Nat.le_refl _) (by omega) c⟩, fun y' a1 a2 a3 => h2 y' (by omega) a2 a3⟩
      · rw [if_neg (fun h => c (nI_inj (by omega) (by omega) h))]
        obtain ⟨S, g1, g2, g3, g4⟩ := ih (y + 1) s (by omega) (by omega) hs hs0
        refine ⟨S, g1, g2, g3, fun z => (g4 z).trans ?_⟩
        constructor
        · rintro ⟨h1, h3⟩
          refine ⟨h1, fun y' a1 a2 a3 => ?_⟩
          by_cases ey : y' = y
          · rw [ey] at a3; exact absurd a3 c
          · exact h3 y' (by omega) a2 a3
        · rintro ⟨h1, h2⟩
          exact ⟨h1, fun y' a1 a2 a3 => h2 y' (by omega) a2 a3⟩
/-- the rows -/
theorem dz_out (hR : R ≤ 4) (hC : C ≤ 5) (hG : ∀ j, j < R * 5 → Bq 20 (G j)) (hk : k ≤ 5) : ∀ n x : Nat, ∀ s : Int64, 1 ≤ x → x ≤ 2 ^ R → 2 ^ R - x < n → Bq 100000000 s → 0 ≤ s.toInt → 0 ≤ (D_X7_divisor_11 R C G (nI k) n x s).toInt ∧ ∀ z : Int, z ∣ (D_X7_divisor_11 R C G (nI k) n x s).toInt ↔ z ∣ s.toInt ∧ ∀ x' y', x ≤ x' → x' < 2 ^ R → pc5 x' = k → 1 ≤ y' → y' < 2 ^ C → pc5 y' = k → z ∣ (mnv G C k x' y').toInt := by
  have pR : 2 ^ R ≤ 2 ^ 4 := Nat.pow_le_pow_right (by decide) hR
  have p4 : (2 : Nat) ^ 4 = 16 := rfl
  have pC1 : 1 ≤ 2 ^ C := Nat.one_le_two_pow
  intro n
  induction n with
  | zero => intro x s _ _ h; omega
  | succ n ih =>
    intro x s hx1 hx hn hs hs0
    rw [D_X7_divisor_11_s]
    by_cases e : 2 ^ R ≤ x
    · rw [if_pos e]
      exact ⟨hs0, fun z => ⟨fun h => ⟨h, fun x' y' h1 h2 => absurd h2 (by omega)⟩, fun h => h.1⟩⟩
    · rw [if_neg e]
      have x32 : x < 32 := by omega
      have hp1 := pcl5 x x32
      rw [fbc x x32]
      show 0 ≤ (if nI (pc5 x) = nI k then D_X7_divisor_37 C G (nI k) (D_X7_divisor_11 R C G (nI k) n) x (2 ^ C + 1 - 1 + 1) 1 s else D_X7_divisor_11 R C G (nI k) n (x + 1) s).toInt ∧ ∀ z : Int, z ∣ (if nI (pc5 x) = nI k then D_X7_divisor_37 C G (nI k) (D_X7_divisor_11 R C G (nI k) n) x (2 ^ C + 1 - 1 + 1) 1 s else D_X7_divisor_11 R C G (nI k) n (x + 1) s).toInt ↔ z ∣ s.toInt ∧ ∀ x' y', x ≤ x' → x' < 2 ^ R → pc5 x' = k → 1 ≤ y' → y' < 2 ^ C → pc5 y' = k → z ∣ (mnv G C k x' y').toInt
      by_cases c : pc5 x = k
      · rw [if_pos (congrArg nI c)]
        obtain ⟨S, g1, g2, g3, g4⟩ := dz_in (lbr := D_X7_divisor_11 R C G (nI k) n) hR hC hG hk (show 0 < x by omega) (show x < 2 ^ R by omega) c (2 ^ C + 1 - 1 + 1) 1 s pC1 (by omega) hs hs0
        rw [g3]
        obtain ⟨k1, k2⟩ := ih (x + 1) S (by omega) (by omega) (by omega) g1 g2
        refine ⟨k1, fun z => (k2 z).trans ?_⟩
        rw [g4]
        constructor
        · rintro ⟨⟨h1, h2⟩, h3⟩
          refine ⟨h1, fun x' y' a1 a2 a3 a4 a5 a6 => ?_⟩
          by_cases ex : x' = x
          · rw [ex]; exact h2 y' a4 a5 a6
          · exact h3 x' y' (by omega) a2 a3 a4 a5 a6
        · rintro ⟨h1, h2⟩
          exact ⟨⟨h1, fun y' a4 a5 a6 => h2 x y' (Nat.le_refl _) (by omega) c a4 a5 a6⟩, fun x' y' a1 a2 a3 a4 a5 a6 => h2 x' y' (by omega) a2 a3 a4 a5 a6⟩
      · rw [if_neg (fun h => c (nI_inj (by omega) (by omega) h))]
        obtain ⟨k1, k2⟩ := ih (x + 1) s (by omega) (by omega) (by omega) hs hs0
        refine ⟨k1, fun z => (k2 z).trans ?_⟩
        constructor
        · rintro ⟨h1, h3⟩
          refine ⟨h1, fun x' y' a1 a2 a3 a4 a5 a6 => ?_⟩
          by_cases ex : x' = x
          · rw [ex] at a3; exact absurd a3 c
          · exact h3 x' y' (by omega) a2 a3 a4 a5 a6
        · rintro ⟨h1, h2⟩
          exact ⟨h1, fun x' y' a1 a2 a3 a4 a5 a6 => h2 x' y' (by omega) a2 a3 a4 a5 a6⟩
/-- what divides a DIVISOR -/
theorem dz_all (hR1 : 1 ≤ R) (hR : R ≤ 4) (hC : C ≤ 5) (hG : ∀ j, j < R * 5 → Bq 20 (G j)) (hk1 : 1 ≤ k) (hk : k ≤ 5) : 0 ≤ (D_X7_divisor R C G (nI k)).toInt ∧ ∀ z : Int, z ∣ (D_X7_divisor R C G (nI k)).toInt ↔ ∀ x y, 1 ≤ x → x < 2 ^ R → pc5 x = k → 1 ≤ y → y < 2 ^ C → pc5 y = k → z ∣ (mnv G C k x y).toInt := by
  have pR1 : 2 ^ 1 ≤ 2 ^ R := Nat.pow_le_pow_right (by decide) hR1
  have p1 : (2 : Nat) ^ 1 = 2 := rfl
  unfold D_X7_divisor
  rw [if_neg (show ¬ nI k = 0 from fun h => by
    have := nI_inj (b := 0) (show k < 2 ^ 31 by omega) (by omega) h
    omega)]
  obtain ⟨h1, h2⟩ := dz_out hR hC hG hk (2 ^ R + 1 - 1 + 1) 1 0 (Nat.le_refl _) (by omega) (by omega) bq0 (by decide)
  refine ⟨h1, fun z => (h2 z).trans ⟨fun h => h.2, fun h => ⟨?_, h⟩⟩⟩
  exact Int.dvd_zero z
end PVZ
section PVM
variable {R C k x y ρ : Nat} {G F rec : Nat → Int64} {p q r s : Int64}
theorem sub_b {a b : Int64} {A B : Nat} (ha : Bq A a) (hb : Bq B b) (h : A + B < 2 ^ 62) : (a - b).toInt = a.toInt - b.toInt ∧ Bq (A + B) (a - b) := by
  unfold Bq at *
  have p : (2 : Nat) ^ 62 = 4611686018427387904 := rfl
  have h2 : (a - b).toInt = a.toInt - b.toInt := by
    rw [Int64.toInt_sub]
    exact Int.bmod_eq_of_le (by omega) (by omega)
  exact ⟨h2, by rw [h2]; omega⟩
theorem m22_b (h1 : Bq 20 p) (h2 : Bq 20 q) (h3 : Bq 20 r) (h4 : Bq 20 s) : (p * q - r * s).toInt = p.toInt * q.toInt - r.toInt * s.toInt ∧ Bq 800 (p * q - r * s) := by
  obtain ⟨a1, a2⟩ := mul_b h1 h2 (by decide)
  obtain ⟨b1, b2⟩ := mul_b h3 h4 (by decide)
  obtain ⟨c1, c2⟩ := sub_b a2 b2 (by decide)
  exact ⟨by rw [c1, a1, b1], c2⟩
theorem f1 : ∀ x, x < 32 → 0 < x → pc5 x = 1 → lb x = 0 := by decide +kernel
theorem f2 : ∀ x, x < 32 → 0 < x → pc5 x = 2 → ¬ lb x = 0 ∧ lb (lb x) = 0 ∧ tz x < tz (lb x) ∧ pc5 (lb x) = 1 ∧ 0 < lb x := by decide +kernel
theorem f3 : ∀ a, a < 5 → 1 ≤ 2 ^ a ∧ pc5 (2 ^ a) = 1 ∧ tz (2 ^ a) = a := by decide +kernel
theorem f4 : ∀ a, a < 5 → ∀ b, b < 5 → a < b → pc5 (2 ^ a + 2 ^ b) = 2 ∧ tz (2 ^ a + 2 ^ b) = a ∧ lb (2 ^ a + 2 ^ b) = 2 ^ b := by decide +kernel
theorem mnv1 (h : lb x = 0) : mnv G C 1 x y = G (tz x * 5 + tz y) := if_pos h
theorem y8 : ∀ y, y < 8 → pc5 y = 2 → y = 3 ∨ y = 5 ∨ y = 6 := by decide +kernel
theorem mf22 (hy : y < 8) (h : pc5 y = 2) : (mfold F rec ρ y 3).1 = F (ρ * 5 + tz y) * rec (y - 2 ^ tz y) - F (ρ * 5 + tz (lb y)) * rec (y - 2 ^ tz (lb y)) := by
  rcases y8 y hy h with rfl | rfl | rfl <;> (simp [mf_s, mf_0, tz, lb, t64a, t64b]; grind)
theorem f5 : ∀ y, y < 8 → pc5 y = 2 → tz (y - 2 ^ tz y) = tz (lb y) ∧ tz (y - 2 ^ tz (lb y)) = tz y := by decide +kernel
theorem bits3 (hC : C ≤ 3) (hy : y < 2 ^ C) : ∀ j, C ≤ j → j < 3 → y / 2 ^ j % 2 = 0 := by
  intro j h1 _
  rw [Nat.div_eq_of_lt (Nat.lt_of_lt_of_le hy (Nat.pow_le_pow_right (by decide) h1))]
/-- a minor of two rows -/
theorem mnv2 (hC : C ≤ 3) (hx : x < 8) (hx0 : 0 < x) (hpx : pc5 x = 2) (hy : y < 2 ^ C) (hpy : pc5 y = 2) : mnv G C 2 x y = G (tz x * 5 + tz y) * G (tz (lb x) * 5 + tz (lb y)) - G (tz x * 5 + tz (lb y)) * G (tz (lb x) * 5 + tz y) := by
  have hy8 : y < 8 := Nat.lt_of_lt_of_le hy (Nat.pow_le_pow_right (by decide) hC : 2 ^ C ≤ 2 ^ 3)
  obtain ⟨a1, a2, a3, a4, a5⟩ := f2 x (by omega) hx0 hpx
  obtain ⟨b1, b2⟩ := f5 y hy8 hpy
  show (if lb x = 0 then G (tz x * 5 + tz y) else (mfold G (mnv G C 1 (lb x)) (tz x) y C).1) = _
  rw [if_neg a1, ← mf_ext hC (bits3 hC hy), mf22 hy8 hpy, mnv1 a2, mnv1 a2, b1, b2]
theorem p8 {R x : Nat} (hR : R ≤ 3) (h : x < 2 ^ R) : x < 8 := Nat.lt_of_lt_of_le h (Nat.pow_le_pow_right (by decide) hR : 2 ^ R ≤ 2 ^ 3)
theorem lb_le {x : Nat} : lb x ≤ x := Nat.sub_le _ _
/-- DIVISOR 1 -/
theorem dz1 (hR1 : 1 ≤ R) (hR : R ≤ 3) (hC : C ≤ 3) (hG : ∀ j, j < R * 5 → Bq 20 (G j)) : 0 ≤ (D_X7_divisor R C G (nI 1)).toInt ∧ ∀ z : Int, z ∣ (D_X7_divisor R C G (nI 1)).toInt ↔ zd1 (mxi R C G) z := by
  obtain ⟨h1, h2⟩ := dz_all (R := R) (C := C) (G := G) (k := 1) hR1 (by omega) (by omega) hG (by decide) (by decide)
  refine ⟨h1, fun z => (h2 z).trans ⟨fun h a b => ?_, fun h x y a1 a2 a3 b1 b2 b3 => ?_⟩⟩
  · by_cases e : a < R ∧ b < C
    · rw [mxi_p e]
      obtain ⟨c1, c2, c3⟩ := f3 a (by omega)
      obtain ⟨d1, d2, d3⟩ := f3 b (by omega)
      have := h (2 ^ a) (2 ^ b) c1 (Nat.pow_lt_pow_right (by decide) e.1) c2 d1 (Nat.pow_lt_pow_right (by decide) e.2) d2
      rw [mnv1 (f1 _ (p32 (by omega : R ≤ 5) (Nat.pow_lt_pow_right (by decide) e.1)) (by omega) c2), c3, d3] at this
      exact this
    · rw [mxi_n e]
      exact Int.dvd_zero z
  · have t1 := fzt R (by omega) x (p32 (by omega) a2) a2 a1
    have t2 := fzt C (by omega) y (p32 (by omega) b2) b2 b1
    have := h (tz x) (tz y)
    rw [mxi_p ⟨t1, t2⟩] at this
    rw [mnv1 (f1 x (p32 (by omega : R ≤ 5) a2) a1 a3)]
    exact this
theorem m2_sw1 {A : Mi} {a b c d : Nat} : mnr2 A a b c d = -mnr2 A b a c d := by unfold mnr2; grind
theorem m2_sw2 {A : Mi} {a b c d : Nat} : mnr2 A a b c d = -mnr2 A a b d c := by unfold mnr2; grind
theorem m2_eq1 {A : Mi} {a c d : Nat} : mnr2 A a a c d = 0 := by unfold mnr2; grind
theorem m2_eq2 {A : Mi} {a b c : Nat} : mnr2 A a b c c = 0 := by unfold mnr2; grind
/-- two rows in their order and two columns in theirs are enough -/
theorem zd2_of {A : Mi} {z : Int} (hA : ∀ a b, ¬ (a < R ∧ b < C) → A a b = 0) (h : ∀ a b c d, a < b → b < R → c < d → d < C → z ∣ mnr2 A a b c d) : zd2 A z := by
  have h1 : ∀ a b c d, a < b → c < d → z ∣ mnr2 A a b c d := fun a b c d h1 h2 => by
    by_cases e1 : b < R
    · by_cases e2 : d < C
      · exact h a b c d h1 e1 h2 e2
      · unfold mnr2
        rw [hA a d (fun z => e2 z.2), hA b d (fun z => e2 z.2)]
        exact ⟨0, by grind⟩
    · unfold mnr2
      rw [hA b c (fun z => e1 z.1), hA b d (fun z => e1 z.1)]
      exact ⟨0, by grind⟩
  have h2 : ∀ a b c d, a < b → z ∣ mnr2 A a b c d := fun a b c d g => by
    rcases Nat.lt_trichotomy c d with e | e | e
    · exact h1 a b c d g e
    · rw [e, m2_eq2]; exact Int.dvd_zero z
    · rw [m2_sw2]; exact Int.dvd_neg.mpr (h1 a b d c g e)
  intro a b c d
  rcases Nat.lt_trichotomy a b with e | e | e
  · exact h2 a b c d e
  · rw [e, m2_eq1]; exact Int.dvd_zero z
  · rw [m2_sw1]; exact Int.dvd_neg.mpr (h2 b a c d e)
/-- DIVISOR 2 -/
theorem dz2 (hR1 : 1 ≤ R) (hR : R ≤ 3) (hC : C ≤ 3) (hG : ∀ j, j < R * 5 → Bq 20 (G j)) : 0 ≤ (D_X7_divisor R C G (nI 2)).toInt ∧ ∀ z : Int, z ∣ (D_X7_divisor R C G (nI 2)).toInt ↔ zd2 (mxi R C G) z := by
  obtain ⟨h1, h2⟩ := dz_all (R := R) (C := C) (G := G) (k := 2) hR1 (by omega) (by omega) hG (by decide) (by decide)
  have hm : ∀ a b c d, a < R → b < R → c < C → d < C → (G (a * 5 + c) * G (b * 5 + d) - G (a * 5 + d) * G (b * 5 + c)).toInt = mnr2 (mxi R C G) a b c d := fun a b c d g1 g2 g3 g4 => by
    unfold mnr2
    rw [mxi_p ⟨g1, g3⟩, mxi_p ⟨g2, g4⟩, mxi_p ⟨g1, g4⟩, mxi_p ⟨g2, g3⟩]
    exact (m22_b (hG _ (by omega)) (hG _ (by omega)) (hG _ (by omega)) (hG _ (by omega))).1
  refine ⟨h1, fun z => (h2 z).trans ⟨fun h => zd2_of (R := R) (C := C) (fun a b => mxi_n) (fun a b c d g1 g2 g3 g4 => ?_), fun h x y a1 a2 a3 b1 b2 b3 => ?_⟩⟩
  · obtain ⟨c1, c2, c3⟩ := f4 a (by omega) b (by omega) g1
    obtain ⟨d1, d2, d3⟩ := f4 c (by omega) d (by omega) g3
    have lt2 : ∀ a b R : Nat, a < b → b < R → 2 ^ a + 2 ^ b < 2 ^ R := fun a b R h1 h2 => by
      have q1 : 2 ^ a < 2 ^ b := Nat.pow_lt_pow_right (by decide) h1
      have q2 : 2 ^ (b + 1) ≤ 2 ^ R := Nat.pow_le_pow_right (by decide) h2
      have q3 : 2 ^ (b + 1) = 2 ^ b * 2 := Nat.pow_succ _ _
      omega
    have px := lt2 a b R g1 g2
    have py := lt2 c d C g3 g4
    have p1 : 1 ≤ 2 ^ a := Nat.one_le_two_pow
    have p2 : 1 ≤ 2 ^ c := Nat.one_le_two_pow
    have := h (2 ^ a + 2 ^ b) (2 ^ c + 2 ^ d) (by omega) px c1 (by omega) py d1
    rw [mnv2 hC (p8 hR px) (by omega) c1 py d1, c2, c3, d2, d3, (f3 b (by omega)).2.2, (f3 d (by omega)).2.2, hm a b c d (by omega) g2 (by omega) g4] at this
    exact this
  · have x32 := p32 (show R ≤ 5 by omega) a2
    have y32 := p32 (show C ≤ 5 by omega) b2
    obtain ⟨c1, c2, c3, c4, c5⟩ := f2 x x32 a1 a3
    obtain ⟨d1, d2, d3, d4, d5⟩ := f2 y y32 b1 b3
    have t1 := fzt R (by omega) x x32 a2 a1
    have t2 := fzt C (by omega) y y32 b2 b1
    have l1 : lb x < 2 ^ R := Nat.lt_of_le_of_lt lb_le a2
    have l2 : lb y < 2 ^ C := Nat.lt_of_le_of_lt lb_le b2
    have t3 := fzt R (by omega) (lb x) (p32 (by omega) l1) l1 c5
    have t4 := fzt C (by omega) (lb y) (p32 (by omega) l2) l2 d5
    rw [mnv2 hC (p8 hR a2) a1 a3 b2 b3, hm _ _ _ _ t1 t3 t2 t4]
    exact h _ _ _ _
/-- DIVISOR 3 -/
theorem dz3 (hG : ∀ j, j < 3 * 5 → Bq 20 (G j)) : 0 ≤ (D_X7_divisor 3 3 G (nI 3)).toInt ∧ (∀ z : Int, z ∣ (D_X7_divisor 3 3 G (nI 3)).toInt ↔ z ∣ mnr3 (mxi 3 3 G)) ∧ (dt3 G).toInt = mnr3 (mxi 3 3 G) := by
  obtain ⟨h1, h2⟩ := dz_all (k := 3) (R := 3) (C := 3) (G := G) (by decide) (by decide) (by decide) hG (by decide) (by decide)
  have e : (dt3 G).toInt = mnr3 (mxi 3 3 G) := by
    unfold dt3 mnr3
    have hb : ∀ j, j < 15 → Bq 20 (G j) := hG
    obtain ⟨a1, a2⟩ := m22_b (hb 6 (by decide)) (hb 12 (by decide)) (hb 7 (by decide)) (hb 11 (by decide))
    obtain ⟨b1, b2⟩ := m22_b (hb 5 (by decide)) (hb 12 (by decide)) (hb 7 (by decide)) (hb 10 (by decide))
    obtain ⟨c1, c2⟩ := m22_b (hb 5 (by decide)) (hb 11 (by decide)) (hb 6 (by decide)) (hb 10 (by decide))
    obtain ⟨d1, d2⟩ := mul_b (hb 0 (by decide)) a2 (by decide)
    obtain ⟨e1, e2⟩ := mul_b (hb 1 (by decide)) b2 (by decide)
    obtain ⟨g1, g2⟩ := mul_b (hb 2 (by decide)) c2 (by decide)
    obtain ⟨k1, k2⟩ := sub_b d2 e2 (by decide)
    obtain ⟨l1, l2⟩ := add_b k2 g2 (by decide)
    rw [l1, k1, d1, e1, g1, a1, b1, c1]
    rfl
  refine ⟨h1, fun z => (h2 z).trans ⟨fun h => ?_, fun h x y a1 a2 a3 b1 b2 b3 => ?_⟩, e⟩
  · have := h 7 7 (by decide) (by decide) (by decide) (by decide) (by decide) (by decide)
    rw [mn3, e] at this
    exact this
  · have f7 : ∀ x, x < 8 → pc5 x = 3 → x = 7 := by decide +kernel
    rw [f7 x a2 a3, f7 y b2 b3, mn3, e]
    exact h
end PVM
