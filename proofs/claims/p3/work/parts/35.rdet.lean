/-! ===== determinants of the reference: what row changes do to them; remainders ===== -/
theorem mf_s {f rec : Nat → Int64} {r y j : Nat} : mfold f rec r y (j + 1) = if y / 2 ^ j % 2 = 0 then mfold f rec r y j else ((mfold f rec r y j).1 + (mfold f rec r y j).2.toInt64 * f (r * 5 + j) * rec (y - 2 ^ j), -(mfold f rec r y j).2) := by
  by_cases c : y / 2 ^ j % 2 = 0
  · simp only [mfold, if_pos c]
  · by_cases z : f (r * 5 + j) = 0
    · simp only [mfold, if_neg c, if_pos z]
      rw [z]
      simp
    · simp only [mfold, if_neg c, if_neg z]
theorem mf_0 {f rec : Nat → Int64} {r y : Nat} : mfold f rec r y 0 = (0, 1) := rfl
theorem t64a : (1 : Int32).toInt64 = 1 := by decide +kernel
theorem t64b : (-1 : Int32).toInt64 = -1 := by decide +kernel
def dt2 (f : Nat → Int64) : Int64 := f 0 * f 6 - f 1 * f 5
def dt3 (f : Nat → Int64) : Int64 := f 0 * (f 6 * f 12 - f 7 * f 11) - f 1 * (f 5 * f 12 - f 7 * f 10) + f 2 * (f 5 * f 11 - f 6 * f 10)
def dt4 (f : Nat → Int64) : Int64 := f 0 * (f 6 * (f 12 * f 18 - f 13 * f 17) - f 7 * (f 11 * f 18 - f 13 * f 16) + f 8 * (f 11 * f 17 - f 12 * f 16)) - f 1 * (f 5 * (f 12 * f 18 - f 13 * f 17) - f 7 * (f 10 * f 18 - f 13 * f 15) + f 8 * (f 10 * f 17 - f 12 * f 15)) + f 2 * (f 5 * (f 11 * f 18 - f 13 * f 16) - f 6 * (f 10 * f 18 - f 13 * f 15) + f 8 * (f 10 * f 16 - f 11 * f 15)) - f 3 * (f 5 * (f 11 * f 17 - f 12 * f 16) - f 6 * (f 10 * f 17 - f 12 * f 15) + f 7 * (f 10 * f 16 - f 11 * f 15))
def dtn (n : Nat) (f : Nat → Int64) : Int64 := match n with
  | 1 => f 0
  | 2 => dt2 f
  | 3 => dt3 f
  | _ => dt4 f
theorem mn1 (f : Nat → Int64) : mnv f 1 1 1 1 = f 0 := by
  simp [mnv, lb, tz]
theorem mn2 (f : Nat → Int64) : mnv f 2 2 3 3 = dt2 f := by
  simp [mnv, mf_s, mf_0, lb, tz, t64a, t64b, dt2]
  grind
theorem mn3 (f : Nat → Int64) : mnv f 3 3 7 7 = dt3 f := by
  simp [mnv, mf_s, mf_0, lb, tz, t64a, t64b, dt3]
  grind
theorem mn4 (f : Nat → Int64) : mnv f 4 4 15 15 = dt4 f := by
  simp [mnv, mf_s, mf_0, lb, tz, t64a, t64b, dt4]
  grind
theorem c4 {n : Nat} (h1 : 1 ≤ n) (h : n ≤ 4) : n = 1 ∨ n = 2 ∨ n = 3 ∨ n = 4 := by omega
theorem l4 {i : Nat} (h : i < 4) : i = 0 ∨ i = 1 ∨ i = 2 ∨ i = 3 := by omega
theorem mn_dt {n : Nat} (h1 : 1 ≤ n) (h : n ≤ 4) (f : Nat → Int64) : mnv f n n (2 ^ n - 1) (2 ^ n - 1) = dtn n f := by
  rcases c4 h1 h with rfl | rfl | rfl | rfl
  · exact mn1 f
  · exact mn2 f
  · exact mn3 f
  · exact mn4 f
theorem dx_xr {n i j : Nat} (h1 : 1 ≤ n) (h : n ≤ 4) (hi : i < n) (hj : j < n) (hij : i ≠ j) (f : Nat → Int64) : dtn n (xr n i j f) = -dtn n f := by
  rcases c4 h1 h with rfl | rfl | rfl | rfl
  · omega
  · rcases l4 (i := i) (by omega) with rfl | rfl | rfl | rfl <;> rcases l4 (i := j) (by omega) with rfl | rfl | rfl | rfl <;> first | (exfalso; omega) | (simp [dtn, dt2, xr]; grind)
  · rcases l4 (i := i) (by omega) with rfl | rfl | rfl | rfl <;> rcases l4 (i := j) (by omega) with rfl | rfl | rfl | rfl <;> first | (exfalso; omega) | (simp [dtn, dt3, xr]; grind)
  · rcases l4 (i := i) (by omega) with rfl | rfl | rfl | rfl <;> rcases l4 (i := j) (by omega) with rfl | rfl | rfl | rfl <;> first | (exfalso; omega) | (simp [dtn, dt4, xr]; grind)
theorem dx_tr {n i : Nat} (h1 : 1 ≤ n) (h : n ≤ 4) (hi : i < n) (f : Nat → Int64) : dtn n (tr n i f) = -dtn n f := by
  rcases c4 h1 h with rfl | rfl | rfl | rfl
  · rcases l4 (i := i) (by omega) with rfl | rfl | rfl | rfl <;> first | (exfalso; omega) | (simp [dtn, tr])
  · rcases l4 (i := i) (by omega) with rfl | rfl | rfl | rfl <;> first | (exfalso; omega) | (simp [dtn, dt2, tr]; grind)
  · rcases l4 (i := i) (by omega) with rfl | rfl | rfl | rfl <;> first | (exfalso; omega) | (simp [dtn, dt3, tr]; grind)
  · rcases l4 (i := i) (by omega) with rfl | rfl | rfl | rfl <;> first | (exfalso; omega) | (simp [dtn, dt4, tr]; grind)
theorem dx_ar {n i j : Nat} (h1 : 1 ≤ n) (h : n ≤ 4) (hi : i < n) (hj : j < n) (hij : i ≠ j) (t : Int64) (f : Nat → Int64) : dtn n (ar n i j t f) = dtn n f := by
  rcases c4 h1 h with rfl | rfl | rfl | rfl
  · omega
  · rcases l4 (i := i) (by omega) with rfl | rfl | rfl | rfl <;> rcases l4 (i := j) (by omega) with rfl | rfl | rfl | rfl <;> first | (exfalso; omega) | (simp [dtn, dt2, ar]; grind)
  · rcases l4 (i := i) (by omega) with rfl | rfl | rfl | rfl <;> rcases l4 (i := j) (by omega) with rfl | rfl | rfl | rfl <;> first | (exfalso; omega) | (simp [dtn, dt3, ar]; grind)
  · rcases l4 (i := i) (by omega) with rfl | rfl | rfl | rfl <;> rcases l4 (i := j) (by omega) with rfl | rfl | rfl | rfl <;> first | (exfalso; omega) | (simp [dtn, dt4, ar]; grind)
/-- below its diagonal nothing, on it no 0, in the first r columns -/
def Tri (R r : Nat) (F : Nat → Int64) : Prop := ∀ j, j < r → F (j * 5 + j) ≠ 0 ∧ ∀ i, j < i → i < R → F (i * 5 + j) = 0
theorem tri_0 {n r : Nat} (h : n ≤ 4) (hr : r < n) {F : Nat → Int64} (hT : Tri n r F) (hz : ∀ i, r ≤ i → i < n → F (i * 5 + r) = 0) : dtn n F = 0 := by
  have z : ∀ i j, j ≤ r → j < i → i < n → F (i * 5 + j) = 0 := fun i j h1 h2 h3 => by
    by_cases e : j = r
    · subst e; exact hz i (by omega) h3
    · exact (hT j (by omega)).2 i h2 h3
  have zr := hz r (Nat.le_refl _) hr
  rcases c4 (n := n) (by omega) h with rfl | rfl | rfl | rfl
  · rcases l4 (i := r) (by omega) with rfl | rfl | rfl | rfl <;> first | (exfalso; omega) | exact zr
  · rcases l4 (i := r) (by omega) with rfl | rfl | rfl | rfl <;> first | (exfalso; omega) | skip
    · have a1 := z 1 0 (by omega) (by omega) (by omega)
      simp [dtn, dt2] at zr a1 ⊢
      grind
    · have a1 := z 1 0 (by omega) (by omega) (by omega)
      simp [dtn, dt2] at zr a1 ⊢
      grind
  · rcases l4 (i := r) (by omega) with rfl | rfl | rfl | rfl <;> first | (exfalso; omega) | skip
    · have a1 := z 1 0 (by omega) (by omega) (by omega)
      have a2 := z 2 0 (by omega) (by omega) (by omega)
      simp [dtn, dt3] at zr a1 a2 ⊢
      grind
    · have a1 := z 1 0 (by omega) (by omega) (by omega)
      have a2 := z 2 0 (by omega) (by omega) (by omega)
      have a3 := z 2 1 (by omega) (by omega) (by omega)
      simp [dtn, dt3] at zr a1 a2 a3 ⊢
      grind
    · have a1 := z 1 0 (by omega) (by omega) (by omega)
      have a2 := z 2 0 (by omega) (by omega) (by omega)
      have a3 := z 2 1 (by omega) (by omega) (by omega)
      simp [dtn, dt3] at zr a1 a2 a3 ⊢
      grind
  · have a1 := z 1 0 (by omega) (by omega) (by omega)
    have a2 := z 2 0 (by omega) (by omega) (by omega)
    have a3 := z 3 0 (by omega) (by omega) (by omega)
    rcases l4 (i := r) (by omega) with rfl | rfl | rfl | rfl
    · simp [dtn, dt4] at zr a1 a2 a3 ⊢
      grind
    · have a4 := z 2 1 (by omega) (by omega) (by omega)
      have a5 := z 3 1 (by omega) (by omega) (by omega)
      simp [dtn, dt4] at zr a1 a2 a3 a4 a5 ⊢
      grind
    · have a4 := z 2 1 (by omega) (by omega) (by omega)
      have a5 := z 3 1 (by omega) (by omega) (by omega)
      have a6 := z 3 2 (by omega) (by omega) (by omega)
      simp [dtn, dt4] at zr a1 a2 a3 a4 a5 a6 ⊢
      grind
    · have a4 := z 2 1 (by omega) (by omega) (by omega)
      have a5 := z 3 1 (by omega) (by omega) (by omega)
      have a6 := z 3 2 (by omega) (by omega) (by omega)
      simp [dtn, dt4] at zr a1 a2 a3 a4 a5 a6 ⊢
      grind
/-- what row changes among the rows from r on keep -/
def RS (R C r : Nat) (f F : Nat → Int64) : Prop := (Tri R r f → Tri R r F) ∧ (R = C → (dtn R F = 0 ↔ dtn R f = 0))
theorem RS.rf {R C r : Nat} {f : Nat → Int64} : RS R C r f f := ⟨fun h => h, fun _ => Iff.rfl⟩
theorem RS.trans {R C r : Nat} {f g k : Nat → Int64} (h1 : RS R C r f g) (h2 : RS R C r g k) : RS R C r f k := ⟨fun h => h2.1 (h1.1 h), fun h => (h2.2 h).trans (h1.2 h)⟩
theorem neg0 {x : Int64} : -x = 0 ↔ x = 0 := by
  constructor
  · intro h
    have := congrArg (fun z => -z) h
    simpa using this
  · rintro rfl
    rfl
theorem RS_xr {R C r i j : Nat} {f : Nat → Int64} (hR : 1 ≤ R ∧ R ≤ 4) (hrC : r ≤ C) (hC : C ≤ 5) (hi : r ≤ i ∧ i < R) (hj : r ≤ j ∧ j < R) (hij : i ≠ j) : RS R C r f (xr C i j f) := by
  refine ⟨fun h a ha => ?_, fun e => ?_⟩
  · obtain ⟨h1, h2⟩ := h a ha
    refine ⟨?_, fun b h3 h4 => ?_⟩
    · unfold xr
      rw [if_neg (by omega), if_neg (by omega)]
      exact h1
    · unfold xr
      have e1 : (b * 5 + a) % 5 = a := by omega
      have e2 : (b * 5 + a) / 5 = b := by omega
      rw [e1, e2]
      split
      · exact h2 j (by omega) hj.2
      · split
        · exact h2 i (by omega) hi.2
        · exact h2 b h3 h4
  · subst e
    rw [dx_xr hR.1 hR.2 hi.2 hj.2 hij]
    exact neg0
theorem RS_tr {R C r i : Nat} {f : Nat → Int64} (hR : 1 ≤ R ∧ R ≤ 4) (hC : C ≤ 5) (hrC : r ≤ C) (hi : r ≤ i ∧ i < R) : RS R C r f (tr C i f) := by
  refine ⟨fun h a ha => ?_, fun e => ?_⟩
  · obtain ⟨h1, h2⟩ := h a ha
    refine ⟨?_, fun b h3 h4 => ?_⟩
    · unfold tr
      rw [if_neg (by omega)]
      exact h1
    · unfold tr
      split
      · rw [h2 b h3 h4]; rfl
      · exact h2 b h3 h4
  · subst e
    rw [dx_tr hR.1 hR.2 hi.2]
    exact neg0
theorem RS_ar {R C r i j : Nat} {t : Int64} {f : Nat → Int64} (hR : 1 ≤ R ∧ R ≤ 4) (hrC : r ≤ C) (hC : C ≤ 5) (hi : i < R) (hj : r ≤ j ∧ j < R) (hij : i ≠ j) : RS R C r f (ar C i j t f) := by
  refine ⟨fun h a ha => ?_, fun e => ?_⟩
  · obtain ⟨h1, h2⟩ := h a ha
    have h5 := h2 j (by omega) hj.2
    have key : ∀ b, ar C i j t f (b * 5 + a) = f (b * 5 + a) := fun b => by
      unfold ar
      have e1 : (b * 5 + a) % 5 = a := by omega
      rw [e1, h5]
      split
      · simp
      · rfl
    exact ⟨by rw [key]; exact h1, fun b h3 h4 => by rw [key]; exact h2 b h3 h4⟩
  · subst e
    rw [dx_ar hR.1 hR.2 hi hj.2 hij]
/-- sizes -/
def na (x : Int64) : Nat := x.toInt.natAbs
theorem na0 {x : Int64} : na x = 0 ↔ x = 0 := by
  unfold na
  rw [Int.natAbs_eq_zero]
  exact ⟨fun h => Int64.toInt_inj.mp h, fun h => by rw [h]; rfl⟩
theorem ng_int {x : Int64} (h : ng x) : -1000000000 ≤ x.toInt ∧ x.toInt ≤ 1000000000 := ⟨Int64.le_iff_toInt_le.mp h.1, Int64.le_iff_toInt_le.mp h.2⟩
theorem neg_int {x : Int64} (h : ng x) : (-x).toInt = -x.toInt := by
  have h1 := ng_int h
  rw [Int64.toInt_neg]
  exact Int.bmod_eq_of_le (by omega) (by omega)
abbrev ab (x : Int64) : Int64 := if 0 < x then x else -x
theorem ab_int {x : Int64} (h : ng x) : (ab x).toInt = na x := by
  have h1 := ng_int h
  unfold ab na
  by_cases c : 0 < x
  · rw [if_pos c]
    have c := Int64.lt_iff_toInt_lt.mp c
    rw [show (0 : Int64).toInt = 0 from rfl] at c
    omega
  · rw [if_neg c, neg_int h]
    have c : ¬ (0 : Int64).toInt < x.toInt := fun z => c (Int64.lt_iff_toInt_lt.mpr z)
    rw [show (0 : Int64).toInt = 0 from rfl] at c
    omega
theorem ab_lt {x y : Int64} (hx : ng x) (hy : ng y) : lg_cmp (ab x) (ab y) < 0 ↔ na x < na y := by
  rw [lg_cmp_lt, Int64.lt_iff_toInt_lt, ab_int hx, ab_int hy]
  omega
theorem xor_sign {x y : Int64} (hy : 0 ≤ y.toInt) : 0 ≤ (x ^^^ y).toInt ↔ 0 ≤ x.toInt := by
  have e1 : (x ^^^ y).toInt = (x.toBitVec ^^^ y.toBitVec).toInt := rfl
  have e2 : x.toInt = x.toBitVec.toInt := rfl
  have e3 : y.toInt = y.toBitVec.toInt := rfl
  have m1 := BitVec.msb_eq_toInt (x := x.toBitVec ^^^ y.toBitVec)
  have m2 := BitVec.msb_eq_toInt (x := x.toBitVec)
  have m3 := BitVec.msb_eq_toInt (x := y.toBitVec)
  rw [BitVec.msb_xor, m2, m3] at m1
  rw [e3] at hy
  rw [e1, e2]
  have d3 : decide (y.toBitVec.toInt < 0) = false := by simp; omega
  rw [d3, Bool.xor_false] at m1
  have := decide_eq_decide.mp m1
  omega
theorem lg0 {x : Int64} : lg_cmp x 0 = 0 ↔ x = 0 := lg_cmp_eq x 0
/-- what is left of x when p has been taken off as often as it goes -/
def rmf (x p : Int64) : Int64 := x + -(fdv x p) * p
theorem rmf_eq {x p : Int64} : rmf x p = x - fdv x p * p := by
  unfold rmf
  grind
theorem rmf_rem {x p : Int64} (hp : 0 < p.toInt) : rmf x p = x - x / p * p ∧ 0 ≤ (x - x / p * p).toInt ∨ rmf x p = x - x / p * p + p ∧ (x - x / p * p).toInt < 0 := by
  have h0 : ¬ p = 0 := fun e => by rw [e] at hp; exact absurd hp (by decide)
  have hr := rem_int (x := x) h0
  rw [rmf_eq]
  unfold fdv
  by_cases c1 : 0 ≤ lg_cmp (x ^^^ p) 0
  · rw [if_pos c1]
    have c2 := Int64.le_iff_toInt_le.mp ((lg_cmp_ge _ _).mp c1)
    rw [show (0 : Int64).toInt = 0 from rfl] at c2
    have c3 := (xor_sign (by omega)).mp c2
    refine Or.inl ⟨rfl, ?_⟩
    rw [hr]
    exact Int.tmod_nonneg _ c3
  · rw [if_neg c1]
    by_cases c2 : lg_cmp (x / p * p) x = 0
    · rw [if_pos c2]
      have c3 := (lg_cmp_eq _ _).mp c2
      refine Or.inl ⟨rfl, ?_⟩
      rw [c3]
      simp
    · rw [if_neg c2]
      have c3 : ¬ x / p * p = x := fun e => c2 ((lg_cmp_eq _ _).mpr e)
      have c4 : ¬ 0 ≤ x.toInt := fun z => c1 ((lg_cmp_ge _ _).mpr (Int64.le_iff_toInt_le.mpr ((xor_sign (by omega)).mpr z)))
      refine Or.inr ⟨by grind, ?_⟩
      have c5 : x - x / p * p ≠ 0 := fun e => c3 (by grind)
      have c6 : (x - x / p * p).toInt ≠ 0 := fun e => c5 (Int64.toInt_inj.mp e)
      rw [hr] at c6 ⊢
      have c7 := Int.tmod_nonneg p.toInt (a := -x.toInt) (by omega)
      rw [Int.neg_tmod] at c7
      omega
theorem rmf_int {x p : Int64} (hp : 0 < p.toInt) : 0 ≤ (rmf x p).toInt ∧ (rmf x p).toInt < p.toInt := by
  have h0 : ¬ p = 0 := fun e => by rw [e] at hp; exact absurd hp (by decide)
  have ha := rem_abs (x := x) h0
  have hl : x.toInt.natAbs % p.toInt.natAbs < p.toInt.natAbs := Nat.mod_lt _ (by omega)
  rcases rmf_rem (x := x) hp with ⟨e, h⟩ | ⟨e, h⟩
  · rw [e]
    omega
  · rw [e, Int64.toInt_add]
    have h1 := Int64.toInt_lt p
    rw [Int.bmod_eq_of_le (by omega) (by omega)]
    omega
theorem rmf_ne {x p : Int64} (hp : 0 < p.toInt) (h : ¬ x - x / p * p = 0) : rmf x p ≠ 0 := by
  rcases rmf_rem (x := x) hp with ⟨e, _⟩ | ⟨e, h2⟩
  · rw [e]; exact h
  · intro z
    have h0 : ¬ p = 0 := fun e => by rw [e] at hp; exact absurd hp (by decide)
    have ha := rem_abs (x := x) h0
    have hl : x.toInt.natAbs % p.toInt.natAbs < p.toInt.natAbs := Nat.mod_lt _ (by omega)
    have h1 := Int64.toInt_lt p
    have := congrArg Int64.toInt (e.symm.trans z)
    rw [Int64.toInt_add, Int.bmod_eq_of_le (by omega) (by omega), show (0 : Int64).toInt = 0 from rfl] at this
    omega
