/-! ===== The greatest common divisor, DIVISORS and RANK of both sides are the same ===== -/
section PGC
variable {r q : Nat → Int32} {f : Nat → Nat → Int64} {i R C x y ρ : Nat} {F G rec : Nat → Int64}
theorem lo_ab {x : Int64} (h : -9223372036854775808 < x.toInt) : (if 0 < x then x else -x).toInt = (x.toInt.natAbs : Int) := by
  have h1 := Int64.toInt_lt x
  by_cases c : 0 < x
  · rw [if_pos c]
    have c := Int64.lt_iff_toInt_lt.mp c
    rw [show (0 : Int64).toInt = 0 from rfl] at c
    omega
  · rw [if_neg c, Int64.toInt_neg, Int.bmod_eq_of_le (by omega) (by omega)]
    have c : ¬ (0 : Int64).toInt < x.toInt := fun z => c (Int64.lt_iff_toInt_lt.mpr z)
    rw [show (0 : Int64).toInt = 0 from rfl] at c
    omega
theorem gcd_st {a b : Nat} : Nat.gcd a b = Nat.gcd b (a % b) := (Nat.gcd_comm a b).trans ((Nat.gcd_rec b a).trans (Nat.gcd_comm _ _))
theorem nz_abs {y : Int64} (h : ¬ y = 0) : 0 < y.toInt.natAbs := by
  have h0 : y.toInt ≠ 0 := fun e => h (Int64.toInt_inj.mp e)
  omega
theorem rem_lo {x y : Int64} (hy : ¬ y = 0) : -9223372036854775808 < (x - x / y * y).toInt ∧ (x - x / y * y).toInt.natAbs < y.toInt.natAbs := by
  have h1 := rem_abs (x := x) hy
  have h2 := Nat.mod_lt x.toInt.natAbs (nz_abs hy)
  have h3 := Int64.le_toInt y
  have h4 := Int64.toInt_lt y
  omega
/-- the reference's greatest common divisor -/
theorem gcF_int : ∀ (k : Nat) (x y : Int64), -9223372036854775808 < x.toInt → -9223372036854775808 < y.toInt → y.toInt.natAbs < 2 ^ k → (gcF (2 * k + 1) x y).toInt = (Nat.gcd x.toInt.natAbs y.toInt.natAbs : Nat) := by
  have h0 : ∀ (d : Nat) (x y : Int64), -9223372036854775808 < x.toInt → y = 0 → (gcF (d + 1) x y).toInt = (Nat.gcd x.toInt.natAbs y.toInt.natAbs : Nat) := by
    intro d x y hx e
    show (D_gcd_step x y (gcF d)).toInt = _
    rw [D_gcd_step_s, if_pos (lgE.mpr e), e]
    show (if 0 < x then x else -x).toInt = _
    rw [lo_ab hx]
    exact congrArg Int.ofNat (Nat.gcd_zero_right _).symm
  intro k
  induction k with
  | zero =>
    intro x y hx hy h
    exact h0 0 x y hx (Int64.toInt_inj.mp (show y.toInt = 0 by omega))
  | succ k ih =>
    intro x y hx hy h
    by_cases e : y = 0
    · exact h0 (2 * k + 2) x y hx e
    · show (D_gcd_step x y (gcF (2 * k + 2))).toInt = _
      rw [D_gcd_step_s, if_neg (fun z => e (lgE.mp z))]
      have hr := rem_lo (x := x) e
      have ha := rem_abs (x := x) e
      rw [gcd_st, ← ha]
      by_cases e2 : x - x / y * y = 0
      · exact h0 (2 * k + 1) y _ hy e2
      · show (D_gcd_step y (x - x / y * y) (gcF (2 * k + 1))).toInt = _
        rw [D_gcd_step_s, if_neg (fun z => e2 (lgE.mp z))]
        have hr2 := rem_lo (x := y) e2
        have ha2 := rem_abs (x := y) e2
        have p1 := nz_abs e2
        have h3 := half_mod (a := (x - x / y * y).toInt.natAbs) (b := y.toInt.natAbs) p1 (by omega)
        rw [gcd_st, ← ha2]
        refine ih _ _ hr.1 hr2.1 ?_
        rw [Nat.pow_succ] at h
        omega
theorem gcv_int {x y : Int64} (hx : -9223372036854775808 < x.toInt) (hy : -9223372036854775808 < y.toInt) : (gcv x y).toInt = (Nat.gcd x.toInt.natAbs y.toInt.natAbs : Nat) := by
  have h3 := Int64.toInt_lt y
  exact gcF_int 64 x y hx hy (by omega)
/-- the class's greatest common divisor -/
theorem gc15 : ∀ (k n p : Nat) (a b : Int64), 0 ≤ a.toInt → 0 ≤ b.toInt → b.toInt.natAbs < 2 ^ k → 2 * k + 1 ≤ n → p + 2 * k + 1 < 1000000 → (D_X5_greatestCommonDivisor_15 n (nI p) b a).toInt = (Nat.gcd a.toInt.natAbs b.toInt.natAbs : Nat) := by
  have h0 : ∀ (n p : Nat) (a b : Int64), 0 ≤ a.toInt → b = 0 → p < 1000000 → (D_X5_greatestCommonDivisor_15 (n + 1) (nI p) b a).toInt = (Nat.gcd a.toInt.natAbs b.toInt.natAbs : Nat) := by
    intro n p a b ha e hp
    rw [D_X5_greatestCommonDivisor_15_s, if_neg (show ¬ (1000000 : Int32) ≤ nI p from nile (a := 1000000) (by omega) (by omega)), if_pos (lgE.mpr e), e]
    show a.toInt = ((Nat.gcd a.toInt.natAbs 0 : Nat) : Int)
    rw [Nat.gcd_zero_right]
    omega
  have hm : ∀ {a b : Int64}, 0 ≤ a.toInt → ¬ b = 0 → 0 ≤ (a - a / b * b).toInt := fun ha hb => by
    rw [rem_int hb]; exact Int.tmod_nonneg _ ha
  intro k
  induction k with
  | zero =>
    intro n p a b ha hb h hn hp
    obtain ⟨n, rfl⟩ : ∃ m, n = m + 1 := ⟨n - 1, by omega⟩
    exact h0 n p a b ha (Int64.toInt_inj.mp (show b.toInt = 0 by omega)) (by omega)
  | succ k ih =>
    intro n p a b ha hb h hn hp
    obtain ⟨n, rfl⟩ : ∃ m, n = m + 2 := ⟨n - 2, by omega⟩
    by_cases e : b = 0
    · exact h0 (n + 1) p a b ha e (by omega)
    · rw [show n + 2 = (n + 1) + 1 from rfl, D_X5_greatestCommonDivisor_15_s, if_neg (show ¬ (1000000 : Int32) ≤ nI p from nile (a := 1000000) (by omega) (by omega)), if_neg (fun z => e (lgE.mp z)), s1]
      have hr := rem_lo (x := a) e
      have hn0 := hm ha e
      have haa := rem_abs (x := a) e
      rw [gcd_st, ← haa]
      by_cases e2 : a - a / b * b = 0
      · exact h0 n (p + 1) b _ hb e2 (by omega)
      · rw [D_X5_greatestCommonDivisor_15_s, if_neg (show ¬ (1000000 : Int32) ≤ nI (p + 1) from nile (a := 1000000) (by omega) (by omega)), if_neg (fun z => e2 (lgE.mp z)), s1]
        have hn1 := hm hb e2
        have ha2 := rem_abs (x := b) e2
        have p1 := nz_abs e2
        have h3 := half_mod (a := (a - a / b * b).toInt.natAbs) (b := b.toInt.natAbs) p1 (by omega)
        rw [gcd_st, ← ha2]
        refine ih n (p + 1 + 1) _ _ hn0 hn1 ?_ (by omega) (by omega)
        rw [Nat.pow_succ] at h
        omega
theorem cgc_int {x y : Int64} (hx : -9223372036854775808 < x.toInt) (hy : -9223372036854775808 < y.toInt) : (D_X5_greatestCommonDivisor x y).toInt = (Nat.gcd x.toInt.natAbs y.toInt.natAbs : Nat) := by
  have h1 := lo_ab hx
  have h2 := lo_ab hy
  have h3 := Int64.toInt_lt y
  show (D_X5_greatestCommonDivisor_15 (gap 1000000 0 + 1) 0 (if 0 < y then y else -y) (if 0 < x then x else -x)).toInt = _
  generalize (if 0 < x then x else -x) = a at h1 ⊢
  generalize (if 0 < y then y else -y) = b at h2 ⊢
  rw [show gap 1000000 0 = 1000000 from gapN (a := 1000000) (b := 0) (by omega) (by omega)]
  have h := gc15 64 (1000000 + 1) 0 a b (by omega) (by omega) (by omega) (by omega) (by omega)
  have e1 : a.toInt.natAbs = x.toInt.natAbs := by omega
  have e2 : b.toInt.natAbs = y.toInt.natAbs := by omega
  rw [e1, e2] at h
  exact h
theorem cgc_eq {x y : Int64} (hx : -9223372036854775808 < x.toInt) (hy : -9223372036854775808 < y.toInt) : D_X5_greatestCommonDivisor x y = gcv x y := Int64.toInt_inj.mp ((cgc_int hx hy).trans (gcv_int hx hy).symm)
/-- within a bound -/
def Bq (B : Nat) (x : Int64) : Prop := x.toInt.natAbs ≤ B
theorem gcv_b {x y : Int64} {B : Nat} (hB : B < 2 ^ 62) (hx : Bq B x) (hy : Bq B y) : Bq B (gcv x y) := by
  unfold Bq at *
  have p : (2 : Nat) ^ 62 = 4611686018427387904 := rfl
  rw [gcv_int (by omega) (by omega), Int.natAbs_natCast]
  by_cases e : y.toInt.natAbs = 0
  · rw [e, Nat.gcd_zero_right]; exact hx
  · exact Nat.le_trans (Nat.gcd_le_right _ (Nat.pos_of_ne_zero e)) hy
theorem mul_b {a b : Int64} {A B : Nat} (ha : Bq A a) (hb : Bq B b) (h : A * B < 2 ^ 62) : (a * b).toInt = a.toInt * b.toInt ∧ Bq (A * B) (a * b) := by
  unfold Bq at *
  have p : (2 : Nat) ^ 62 = 4611686018427387904 := rfl
  have h1 : (a.toInt * b.toInt).natAbs ≤ A * B := by rw [Int.natAbs_mul]; exact Nat.mul_le_mul ha hb
  have h2 : (a * b).toInt = a.toInt * b.toInt := by
    rw [Int64.toInt_mul]
    exact Int.bmod_eq_of_le (by omega) (by omega)
  exact ⟨h2, by rw [h2]; exact h1⟩
theorem add_b {a b : Int64} {A B : Nat} (ha : Bq A a) (hb : Bq B b) (h : A + B < 2 ^ 62) : (a + b).toInt = a.toInt + b.toInt ∧ Bq (A + B) (a + b) := by
  unfold Bq at *
  have p : (2 : Nat) ^ 62 = 4611686018427387904 := rfl
  have h2 : (a + b).toInt = a.toInt + b.toInt := by
    rw [Int64.toInt_add]
    exact Int.bmod_eq_of_le (by omega) (by omega)
  exact ⟨h2, by rw [h2]; omega⟩
theorem one_b : Bq 1 1 := by unfold Bq; decide +kernel
theorem mone_b : Bq 1 (-1) := by unfold Bq; decide +kernel
theorem sm_b {x : Int64} (h : sm x) : Bq 20 x := by
  have := sm_int h
  unfold Bq
  omega
/-- a row's terms are bounded -/
theorem mf_b2 {B : Nat} (hB : 20 * B * 5 < 2 ^ 61) (hF : ∀ j, j < 5 → Bq 20 (F (ρ * 5 + j))) (hr : ∀ y', Bq B (rec y')) : ∀ j, j ≤ 5 → Bq (20 * B * j) (mfold F rec ρ y j).1 ∧ ((mfold F rec ρ y j).2 = 1 ∨ (mfold F rec ρ y j).2 = -1) := by
  have p : (2 : Nat) ^ 62 = 2 * 2 ^ 61 := rfl
  intro j
  induction j with
  | zero => intro _; exact ⟨by rw [mf_0]; unfold Bq; show (0 : Int64).toInt.natAbs ≤ _; rw [show (0 : Int64).toInt = 0 from rfl]; exact Nat.zero_le _, Or.inl rfl⟩
  | succ j ih =>
    intro hj
    obtain ⟨h1, h2⟩ := ih (by omega)
    have hle : 20 * B * j + 20 * B = 20 * B * (j + 1) := (Nat.mul_succ _ _).symm
    have hj5 : 20 * B * (j + 1) ≤ 20 * B * 5 := Nat.mul_le_mul_left _ hj
    rw [mf_s]
    by_cases e : y / 2 ^ j % 2 = 0
    · rw [if_pos e]
      exact ⟨Nat.le_trans h1 (by omega), h2⟩
    · rw [if_neg e]
      have hs : Bq 1 (mfold F rec ρ y j).2.toInt64 := by
        rcases h2 with h | h
        · rw [h, t64a]; exact one_b
        · rw [h, t64b]; exact mone_b
      have m1 := (mul_b hs (hF j (by omega)) (by omega)).2
      have m2 := (mul_b m1 (hr (y - 2 ^ j)) (by omega)).2
      rw [Nat.one_mul] at m2
      refine ⟨?_, ?_⟩
      · have := (add_b h1 m2 (by omega)).2
        rw [hle] at this
        exact this
      · rcases h2 with h | h
        · rw [h]; exact Or.inr rfl
        · rw [h]; exact Or.inl (by decide : -(-1 : Int32) = 1)
theorem mnv_b (hR : R ≤ 4) (hC : C ≤ 5) (hF : ∀ k, k < R * 5 → Bq 20 (F k)) : ∀ n, n ≤ 4 → ∀ x y, 0 < x → x < 2 ^ R → Bq (100 ^ n) (mnv F C n x y) := by
  intro n
  induction n with
  | zero => intro _ x y _ _; show Bq 1 0; unfold Bq; decide +kernel
  | succ n ih =>
    intro hn x y h0 hx
    show Bq (100 ^ (n + 1)) (if lb x = 0 then F (tz x * 5 + tz y) else (mfold F (mnv F C n (lb x)) (tz x) y C).1)
    have t1 := fzt R (by omega) x (p32 (by omega) hx) hx h0
    have t2 := tz_le (y := y)
    have p1 : 1 ≤ 100 ^ n := Nat.one_le_pow _ _ (by decide)
    have p2 : 100 ^ (n + 1) = 100 ^ n * 100 := Nat.pow_succ _ _
    have p3 : 100 ^ n ≤ 100 ^ 3 := Nat.pow_le_pow_right (by decide) (by omega)
    have p4 : (2 : Nat) ^ 61 = 2305843009213693952 := rfl
    have p5 : (100 : Nat) ^ 3 = 1000000 := rfl
    by_cases e : lb x = 0
    · rw [if_pos e]
      exact Nat.le_trans (hF _ (by omega)) (by omega)
    · rw [if_neg e]
      have h := (mf_b2 (F := F) (ρ := tz x) (rec := mnv F C n (lb x)) (y := y) (B := 100 ^ n) (by omega) (fun j hj => hF _ (by omega)) (fun y' => ih (by omega) _ y' (Nat.pos_of_ne_zero e) (Nat.lt_of_le_of_lt (Nat.sub_le _ _) hx)) C hC).1
      refine Nat.le_trans h ?_
      have h5 : 20 * 100 ^ n * C ≤ 20 * 100 ^ n * 5 := Nat.mul_le_mul_left _ hC
      omega
end PGC
section PDV
variable {r q : Nat → Int32} {f : Nat → Nat → Int64} {i R C x y k : Nat} {F G : Nat → Int64}
theorem pcl5 : ∀ x, x < 32 → pc5 x ≤ 5 := by decide +kernel
theorem pc5_4 : ∀ x, x < 16 → pc5 x ≤ 4 := by decide +kernel
/-- the columns of a set of rows -/
theorem dv_in (hR : R ≤ 4) (hC : C ≤ 5) (h2 : r (2 * i + 1) = nI C) (hF : ∀ j, j < R * 5 → f i j = G j) (hG : ∀ j, j < R * 5 → Bq 20 (G j)) (hk : k ≤ 5) (h0 : 0 < x) (hx : x < 2 ^ R) (hpx : pc5 x = k) {lbc : Int32 → Int64 → Int64} {lbr : Nat → Int64 → Int64} : ∀ n1 n2 y : Nat, ∀ s : Int64, y ≤ 2 ^ C → 2 ^ C - y < n1 → 2 ^ C - y < n2 → Bq 100000000 s → ∃ S : Int64, Bq 100000000 S ∧ D_X0_findDivisor_35_1 r q f i (nI k) lbc (nI x) n1 (nI y) s = lbc (nI (x + 1)) S ∧ D_X7_divisor_37 C G (nI k) lbr x n2 y s = lbr (x + 1) S := by
  have pC : 2 ^ C ≤ 2 ^ 5 := Nat.pow_le_pow_right (by decide) hC
  have p5 : (2 : Nat) ^ 5 = 32 := rfl
  have x16 : x < 16 := Nat.lt_of_lt_of_le hx (Nat.pow_le_pow_right (by decide) hR : 2 ^ R ≤ 2 ^ 4)
  intro n1
  induction n1 with
  | zero => intro n2 y s _ h; omega
  | succ n1 ih =>
    intro n2 y s hy h1 h3 hs
    obtain ⟨n2, rfl⟩ : ∃ n, n2 = n + 1 := ⟨n2 - 1, by omega⟩
    rw [D_X0_findDivisor_35_1_s, D_X7_divisor_37_s, if_neg one0, h2, fpw C (by omega)]
    by_cases e : 2 ^ C ≤ y
    · rw [if_pos (ile e (by omega)), if_pos e, s1]
      exact ⟨s, hs, rfl, rfl⟩
    · rw [if_neg (nile e (by omega)), if_neg e]
      have y32 : y < 32 := by omega
      have hp1 := pcl5 y y32
      rw [fbc y y32]
      show ∃ S : Int64, Bq 100000000 S ∧ (if nI (pc5 y) = nI k then bnd1 (D_X0_ofRest_4 r q f i (nI x) (nI y) 0) (fun x127 => bnd1 (D_X5_greatestCommonDivisor s x127) (fun x128 => D_X0_findDivisor_35_1 r q f i (nI k) lbc (nI x) n1 (nI y + 1) x128)) else D_X0_findDivisor_35_1 r q f i (nI k) lbc (nI x) n1 (nI y + 1) s) = lbc (nI (x + 1)) S ∧ (if nI (pc5 y) = nI k then D_X7_divisor_37 C G (nI k) lbr x n2 (y + 1) (gcv s (mnv G C (pc5 x) x y)) else D_X7_divisor_37 C G (nI k) lbr x n2 (y + 1) s) = lbr (x + 1) S
      rw [s1]
      by_cases c : pc5 y = k
      · rw [if_pos (congrArg nI c), if_pos (congrArg nI c), bnd1_e, bnd1_e, min_eq hR hC hF h0 hx (by omega) (by omega)]
        have hb := mnv_b hR hC hG (pc5 x) (pc5_4 x x16) x y h0 hx
        have hb2 : Bq 100000000 (mnv G C (pc5 x) x y) := Nat.le_trans hb (Nat.pow_le_pow_right (by decide) (pc5_4 x x16) : 100 ^ pc5 x ≤ 100 ^ 4)
        have l1 : ∀ {z : Int64}, Bq 100000000 z → -9223372036854775808 < z.toInt := fun h => by unfold Bq at h; omega
        rw [cgc_eq (l1 hs) (l1 hb2)]
        exact ih n2 (y + 1) _ (by omega) (by omega) (by omega) (gcv_b (by decide) hs hb2)
      · have c2 : ¬ nI (pc5 y) = nI k := fun h => c (nI_inj (by omega) (by omega) h)
        rw [if_neg c2, if_neg c2]
        exact ih n2 (y + 1) s (by omega) (by omega) (by omega) hs
/-- where the rows are of another number, nothing is done -/
theorem dv_no {p0 : Int32} {lbc : Int32 → Int64 → Int64} {n : Nat} {y4 y6 : Int32} {s : Int64} : D_X0_findDivisor_35 r q f i p0 lbc y4 (n + 1) y6 s = lbc (y4 + 1) s := by
  rw [D_X0_findDivisor_35_s, if_pos rfl]
/-- the sets of rows -/
theorem dv_out (hR : R ≤ 4) (hC : C ≤ 5) (h1 : r (2 * i) = nI R) (h2 : r (2 * i + 1) = nI C) (hF : ∀ j, j < R * 5 → f i j = G j) (hG : ∀ j, j < R * 5 → Bq 20 (G j)) (hk : k ≤ 5) (hk1 : 1 ≤ k) : ∀ n1 n2 x : Nat, ∀ s : Int64, 1 ≤ x → x ≤ 2 ^ R → 2 ^ R - x < n1 → 2 ^ R - x < n2 → Bq 100000000 s → D_X0_findDivisor_5 r q f i (nI k) n1 (nI x) s = D_X7_divisor_11 R C G (nI k) n2 x s ∧ Bq 100000000 (D_X7_divisor_11 R C G (nI k) n2 x s) := by
  have pR : 2 ^ R ≤ 2 ^ 4 := Nat.pow_le_pow_right (by decide) hR
  have p4 : (2 : Nat) ^ 4 = 16 := rfl
  have pC : 2 ^ C ≤ 2 ^ 5 := Nat.pow_le_pow_right (by decide) hC
  have p5 : (2 : Nat) ^ 5 = 32 := rfl
  have pC1 : 1 ≤ 2 ^ C := Nat.one_le_two_pow
  intro n1
  induction n1 with
  | zero => intro n2 x s _ _ h; omega
  | succ n1 ih =>
    intro n2 x s hx1 hx h3 h4 hs
    obtain ⟨n2, rfl⟩ : ∃ n, n2 = n + 1 := ⟨n2 - 1, by omega⟩
    rw [D_X0_findDivisor_5_s, D_X7_divisor_11_s, h1, h2, fpw R (by omega), fpw C (by omega)]
    by_cases e : 2 ^ R ≤ x
    · rw [if_pos (ile e (by omega)), if_pos e]
      exact ⟨rfl, hs⟩
    · rw [if_neg (nile e (by omega)), if_neg e]
      have x32 : x < 32 := by omega
      have hp1 := pcl5 x x32
      rw [fbc x x32, show gap (nI (2 ^ C)) 0 = 2 ^ C from gapN (b := 0) (by omega) (by omega)]
      show (if nI (pc5 x) = nI k then D_X0_findDivisor_35_1 r q f i (nI k) (D_X0_findDivisor_5 r q f i (nI k) n1) (nI x) (2 ^ C + 1) 0 s else D_X0_findDivisor_35 r q f i (nI k) (D_X0_findDivisor_5 r q f i (nI k) n1) (nI x) (2 ^ C + 1) 0 s) = (if nI (pc5 x) = nI k then D_X7_divisor_37 C G (nI k) (D_X7_divisor_11 R C G (nI k) n2) x (2 ^ C + 1 - 1 + 1) 1 s else D_X7_divisor_11 R C G (nI k) n2 (x + 1) s) ∧ Bq 100000000 (if nI (pc5 x) = nI k then D_X7_divisor_37 C G (nI k) (D_X7_divisor_11 R C G (nI k) n2) x (2 ^ C + 1 - 1 + 1) 1 s else D_X7_divisor_11 R C G (nI k) n2 (x + 1) s)
      by_cases c : pc5 x = k
      · have c2 := congrArg nI c
        rw [if_pos c2, if_pos c2]
        -- the empty set of columns is passed over
        have hst : D_X0_findDivisor_35_1 r q f i (nI k) (D_X0_findDivisor_5 r q f i (nI k) n1) (nI x) (2 ^ C + 1) 0 s = D_X0_findDivisor_35_1 r q f i (nI k) (D_X0_findDivisor_5 r q f i (nI k) n1) (nI x) (2 ^ C) (nI 1) s := by
          rw [D_X0_findDivisor_35_1_s, if_neg one0, h2, fpw C (by omega), if_neg (show ¬ nI (2 ^ C) ≤ (0 : Int32) from nile (a := 2 ^ C) (b := 0) (by omega) (by omega))]
          show (if bcE (nI 0) = nI k then _ else D_X0_findDivisor_35_1 r q f i (nI k) (D_X0_findDivisor_5 r q f i (nI k) n1) (nI x) (2 ^ C) (nI 0 + 1) s) = _
          rw [fbc 0 (by decide), if_neg (fun h => by
            have := nI_inj (show pc5 0 < 2 ^ 31 by decide) (by omega) h
            have : pc5 0 = 0 := rfl
            omega), s1]
        rw [hst]
        obtain ⟨S, g1, g2, g3⟩ := dv_in (lbc := D_X0_findDivisor_5 r q f i (nI k) n1) (lbr := D_X7_divisor_11 R C G (nI k) n2) hR hC h2 hF hG hk (show 0 < x by omega) (show x < 2 ^ R by omega) c (2 ^ C) (2 ^ C + 1 - 1 + 1) 1 s pC1 (by omega) (by omega) hs
        rw [g2, g3]
        exact ih n2 (x + 1) S (by omega) (by omega) (by omega) (by omega) g1
      · have c2 : ¬ nI (pc5 x) = nI k := fun h => c (nI_inj (by omega) (by omega) h)
        rw [if_neg c2, if_neg c2, dv_no, s1]
        exact ih n2 (x + 1) s (by omega) (by omega) (by omega) (by omega) hs
theorem bq0 : Bq 100000000 0 := by unfold Bq; decide +kernel
theorem bq1 : Bq 100000000 1 := by unfold Bq; decide +kernel
/-- DIVISOR 0 of the class -/
theorem dv_0 (hC : C ≤ 5) (h2 : r (2 * i + 1) = nI C) : ∀ n y : Nat, ∀ s : Int64, ∀ {lbc : Int32 → Int64 → Int64}, 1 ≤ y → y ≤ 2 ^ C → 2 ^ C - y < n → D_X0_findDivisor_35_1 r q f i 0 lbc 0 n (nI y) s = lbc 1 s := by
  have pC : 2 ^ C ≤ 2 ^ 5 := Nat.pow_le_pow_right (by decide) hC
  have p5 : (2 : Nat) ^ 5 = 32 := rfl
  intro n
  induction n with
  | zero => intro y s _ _ _ h; omega
  | succ n ih =>
    intro y s lbc hy1 hy hn
    rw [D_X0_findDivisor_35_1_s, if_neg one0, h2, fpw C (by omega)]
    by_cases e : 2 ^ C ≤ y
    · rw [if_pos (ile e (by omega))]
      rfl
    · rw [if_neg (nile e (by omega)), fbc y (by omega)]
      have hp := (fp0 y (by omega)).mp (by omega)
      have hp1 := pcl5 y (by omega)
      show (if nI (pc5 y) = 0 then _ else D_X0_findDivisor_35_1 r q f i 0 lbc 0 n (nI y + 1) s) = _
      rw [if_neg (fun h => by
        have := nI_inj (b := 0) (show pc5 y < 2 ^ 31 by omega) (by omega) h
        omega), s1]
      exact ih (y + 1) s (by omega) (by omega) (by omega)
theorem dv_00 (hR : R ≤ 4) (h1 : r (2 * i) = nI R) : ∀ n x : Nat, ∀ s : Int64, 1 ≤ x → x ≤ 2 ^ R → 2 ^ R - x < n → D_X0_findDivisor_5 r q f i 0 n (nI x) s = s := by
  have pR : 2 ^ R ≤ 2 ^ 4 := Nat.pow_le_pow_right (by decide) hR
  have p4 : (2 : Nat) ^ 4 = 16 := rfl
  intro n
  induction n with
  | zero => intro x s _ _ h; omega
  | succ n ih =>
    intro x s hx1 hx hn
    rw [D_X0_findDivisor_5_s, h1, fpw R (by omega)]
    by_cases e : 2 ^ R ≤ x
    · rw [if_pos (ile e (by omega))]
    · rw [if_neg (nile e (by omega)), fbc x (by omega)]
      have hp := (fp0 x (by omega)).mp (by omega)
      have hp1 := pcl5 x (by omega)
      show (if nI (pc5 x) = 0 then _ else D_X0_findDivisor_35 r q f i 0 (D_X0_findDivisor_5 r q f i 0 n) (nI x) _ 0 s) = _
      rw [if_neg (fun h => by
        have := nI_inj (b := 0) (show pc5 x < 2 ^ 31 by omega) (by omega) h
        omega), dv_no, s1]
      exact ih (x + 1) s (by omega) (by omega) (by omega)
theorem gc01 : D_X5_greatestCommonDivisor 0 1 = 1 := by
  refine Int64.toInt_inj.mp ((cgc_int (by decide +kernel) (by decide +kernel)).trans ?_)
  decide +kernel
/-- DIVISORS of both sides -/
theorem divs_eq (hR1 : 1 ≤ R) (hR : R ≤ 4) (hC : C ≤ 5) (h1 : r (2 * i) = nI R) (h2 : r (2 * i + 1) = nI C) (hF : ∀ j, j < R * 5 → f i j = G j) (hG : ∀ j, j < R * 5 → Bq 20 (G j)) (hk : k ≤ 5) : D_X0_findDivisor r q f i (nI k) = D_X7_divisor R C G (nI k) ∧ Bq 100000000 (D_X7_divisor R C G (nI k)) := by
  have pR : 2 ^ R ≤ 2 ^ 4 := Nat.pow_le_pow_right (by decide) hR
  have p4 : (2 : Nat) ^ 4 = 16 := rfl
  have pR1 : 2 ^ 1 ≤ 2 ^ R := Nat.pow_le_pow_right (by decide) hR1
  have p1 : (2 : Nat) ^ 1 = 2 := rfl
  have pC : 2 ^ C ≤ 2 ^ 5 := Nat.pow_le_pow_right (by decide) hC
  have p5 : (2 : Nat) ^ 5 = 32 := rfl
  have pC1 : 1 ≤ 2 ^ C := Nat.one_le_two_pow
  unfold D_X0_findDivisor D_X7_divisor
  rw [h1, fpw R (by omega), show gap (nI (2 ^ R)) 0 = 2 ^ R from gapN (b := 0) (by omega) (by omega)]
  have hst : D_X0_findDivisor_5 r q f i (nI k) (2 ^ R + 1) 0 0 = if k = 0 then D_X0_findDivisor_35_1 r q f i (nI k) (D_X0_findDivisor_5 r q f i (nI k) (2 ^ R)) 0 (2 ^ C + 1) 0 0 else D_X0_findDivisor_5 r q f i (nI k) (2 ^ R) (nI 1) 0 := by
    rw [D_X0_findDivisor_5_s, h1, h2, fpw R (by omega), fpw C (by omega), if_neg (show ¬ nI (2 ^ R) ≤ (0 : Int32) from nile (a := 2 ^ R) (b := 0) (by omega) (by omega)), show gap (nI (2 ^ C)) 0 = 2 ^ C from gapN (b := 0) (by omega) (by omega)]
    show (if bcE (nI 0) = nI k then _ else D_X0_findDivisor_35 r q f i (nI k) (D_X0_findDivisor_5 r q f i (nI k) (2 ^ R)) (nI 0) (2 ^ C + 1) 0 0) = _
    rw [fbc 0 (by decide)]
    by_cases c : k = 0
    · rw [if_pos c, c]
      exact if_pos rfl
    · rw [if_neg c, if_neg (fun h => by
        have := nI_inj (show pc5 0 < 2 ^ 31 by decide) (by omega) h
        have : pc5 0 = 0 := rfl
        omega), dv_no, s1]
  rw [hst]
  by_cases c : k = 0
  · subst c
    rw [if_pos rfl, if_pos (show nI 0 = 0 from rfl)]
    refine ⟨?_, bq1⟩
    show D_X0_findDivisor_35_1 r q f i 0 (D_X0_findDivisor_5 r q f i 0 (2 ^ R)) 0 (2 ^ C + 1) 0 0 = 1
    rw [D_X0_findDivisor_35_1_s, if_neg one0, h2, fpw C (by omega), if_neg (show ¬ nI (2 ^ C) ≤ (0 : Int32) from nile (a := 2 ^ C) (b := 0) (by omega) (by omega))]
    show (if bcE (nI 0) = 0 then bnd1 (D_X0_ofRest_4 r q f i (nI 0) (nI 0) 0) (fun x127 => bnd1 (D_X5_greatestCommonDivisor 0 x127) (fun x128 => D_X0_findDivisor_35_1 r q f i 0 (D_X0_findDivisor_5 r q f i 0 (2 ^ R)) 0 (2 ^ C) (nI 0 + 1) x128)) else D_X0_findDivisor_35_1 r q f i 0 (D_X0_findDivisor_5 r q f i 0 (2 ^ R)) 0 (2 ^ C) (nI 0 + 1) 0) = 1
    rw [fbc 0 (by decide), if_pos (show nI (pc5 0) = 0 from rfl), bnd1_e, bnd1_e, min_0 (by decide), gc01, s1, dv_0 hC h2 _ _ _ (by omega) (by omega) (by omega)]
    exact dv_00 hR h1 _ 1 1 (by omega) (by omega) (by omega)
  · rw [if_neg c, if_neg (show ¬ nI k = 0 from fun h => by
      have := nI_inj (b := 0) (show k < 2 ^ 31 by omega) (by omega) h
      omega)]
    exact dv_out hR hC h1 h2 hF hG hk (by omega) (2 ^ R) (2 ^ R + 1 - 1 + 1) 1 0 (by omega) (by omega) (by omega) (by omega) bq0
theorem rk_l (hR1 : 1 ≤ R) (hR : R ≤ 4) (hC : C ≤ 5) (h1 : r (2 * i) = nI R) (h2 : r (2 * i + 1) = nI C) (hF : ∀ j, j < R * 5 → f i j = G j) (hG : ∀ j, j < R * 5 → Bq 20 (G j)) : ∀ n1 n2 k s : Nat, k ≤ min R C + 1 → min R C + 1 - k < n1 → min R C + 1 - k < n2 → D_X0_findRank_4 r q f i n1 (nI k) (nI s) = D_X7_rank_4 R C G n2 k s := by
  intro n1
  induction n1 with
  | zero => intro n2 k s _ h; omega
  | succ n1 ih =>
    intro n2 k s hk h3 h4
    obtain ⟨n2, rfl⟩ : ∃ n, n2 = n + 1 := ⟨n2 - 1, by omega⟩
    rw [D_X0_findRank_4_s, D_X7_rank_4_s, h1, h2]
    show _ = (if min R C < k then nI s else bnd1 (D_X7_divisor R C G (nI k)) (fun x14 => if lg_cmp x14 0 = 0 then D_X7_rank_4 R C G n2 (k + 1) s else D_X7_rank_4 R C G n2 (k + 1) k))
    by_cases e : min R C < k
    · rw [if_pos e]
      by_cases e1 : R < k
      · rw [if_pos (nI_lt e1 (by omega))]
      · rw [if_neg (nI_nlt (a := R) (b := k) (by omega) (by omega)), if_pos (nI_lt (a := C) (by omega) (by omega))]
    · rw [if_neg e, if_neg (nI_nlt (a := R) (b := k) (by omega) (by omega)), if_neg (nI_nlt (a := C) (b := k) (by omega) (by omega)), bnd1_e, bnd1_e, (divs_eq hR1 hR hC h1 h2 hF hG (show k ≤ 5 by omega)).1, s1]
      by_cases z : lg_cmp (D_X7_divisor R C G (nI k)) 0 = 0
      · rw [if_pos z, if_pos z]
        exact ih n2 (k + 1) s (by omega) (by omega) (by omega)
      · rw [if_neg z, if_neg z]
        exact ih n2 (k + 1) k (by omega) (by omega) (by omega)
/-- RANK of both sides -/
theorem rank_eq (hR1 : 1 ≤ R) (hR : R ≤ 4) (hC1 : 1 ≤ C) (hC : C ≤ 5) (h1 : r (2 * i) = nI R) (h2 : r (2 * i + 1) = nI C) (hF : ∀ j, j < R * 5 → f i j = G j) (hG : ∀ j, j < R * 5 → Bq 20 (G j)) : D_X0_findRank r q f i = D_X7_rank R C G := by
  unfold D_X0_findRank D_X7_rank
  rw [h1]
  have hg : gap1 (nI R) 1 = R := by
    show ((nI R).toInt + 1 - (1 : Int32).toInt).toNat = R
    rw [nI_toInt (by omega), show (1 : Int32).toInt = 1 from rfl]
    omega
  rw [hg]
  exact rk_l hR1 hR hC h1 h2 hF hG (R + 1) (min R C + 1 - 1 + 1) 1 0 (by omega) (by omega) (by omega)
end PDV
