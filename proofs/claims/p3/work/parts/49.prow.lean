/-! ===== The row steps of both sides are the same ===== -/
theorem fdv_b {x p : Int64} (hx : ng x) (hp : 0 < p.toInt) : -1000000001 ≤ (fdv x p).toInt ∧ (fdv x p).toInt ≤ 1000000000 := by
  have h1 := ng_int hx
  have h0 : ¬ p = 0 := fun e => by rw [e] at hp; exact absurd hp (by decide)
  have h2 : (x.toInt.tdiv p.toInt).natAbs ≤ x.toInt.natAbs := by rw [Int.natAbs_tdiv]; exact Nat.div_le_self _ _
  have h3 : (x / p).toInt = x.toInt.tdiv p.toInt := by
    rw [Int64.toInt_div]
    exact Int.bmod_eq_of_le (by omega) (by omega)
  unfold fdv
  split
  · rw [h3]; omega
  · split
    · rw [h3]; omega
    · rw [Int64.toInt_sub, h3, show (1 : Int64).toInt = 1 from rfl, Int.bmod_eq_of_le (by omega) (by omega)]
      omega
theorem mad_int {a t b : Int64} (ha : ng a) (hb : ng b) (h1 : -1000000001 ≤ t.toInt) (h2 : t.toInt ≤ 1000000001) : (a + t * b).toInt = a.toInt + t.toInt * b.toInt ∧ (t.toInt * b.toInt).natAbs ≤ 1000000001 * 1000000000 := by
  have ha := ng_int ha
  have hb := ng_int hb
  have h3 : (t.toInt * b.toInt).natAbs ≤ 1000000001 * 1000000000 := by
    rw [Int.natAbs_mul]
    exact Nat.mul_le_mul (by omega) (by omega)
  refine ⟨?_, h3⟩
  rw [Int64.toInt_add, Int64.toInt_mul, Int.add_bmod_bmod]
  exact Int.bmod_eq_of_le (by omega) (by omega)
theorem neg_b {t : Int64} (h1 : -1000000001 ≤ t.toInt) (h2 : t.toInt ≤ 1000000001) : (-t).toInt = -t.toInt := by
  rw [Int64.toInt_neg]
  exact Int.bmod_eq_of_le (by omega) (by omega)
theorem mad_b {a x p b : Int64} (ha : ng a) (hb : ng b) (hx : ng x) (hp : 0 < p.toInt) : -9223372036854775807 ≤ (a + -(fdv x p) * b).toInt := by
  have h1 := fdv_b hx hp
  have h2 := neg_b (t := fdv x p) (by omega) (by omega)
  obtain ⟨h3, h4⟩ := mad_int (t := -(fdv x p)) ha hb (by omega) (by omega)
  have ha := ng_int ha
  omega
theorem wt_ng {x : Int64} (h : -9223372036854775807 ≤ x.toInt) : wt 1000000000 x ↔ ng x := by
  have hn : (-x).toInt = -x.toInt := by
    have := Int64.toInt_lt x
    rw [Int64.toInt_neg]
    exact Int.bmod_eq_of_le (by omega) (by omega)
  unfold wt ab ng
  by_cases c : 0 < x
  · rw [if_pos c]
    have c := Int64.lt_iff_toInt_lt.mp c
    rw [show (0 : Int64).toInt = 0 from rfl] at c
    simp only [Int64.le_iff_toInt_le]
    rw [show (1000000000 : Int64).toInt = 1000000000 from rfl, show (-1000000000 : Int64).toInt = -1000000000 from rfl]
    omega
  · rw [if_neg c]
    have c : ¬ (0 : Int64).toInt < x.toInt := fun z => c (Int64.lt_iff_toInt_lt.mpr z)
    rw [show (0 : Int64).toInt = 0 from rfl] at c
    simp only [Int64.le_iff_toInt_le]
    rw [show (1000000000 : Int64).toInt = 1000000000 from rfl, show (-1000000000 : Int64).toInt = -1000000000 from rfl, hn]
    omega
theorem wt_all {R C : Nat} {w : Nat → Int64} (hC : C ≤ 5) (hb : ∀ k, k < R * 5 → -9223372036854775807 ≤ (w k).toInt) (hz : ∀ k, k < R * 5 → C ≤ k % 5 → ng (w k)) : (∀ a b, a < R → b < C → wt 1000000000 (w (a * 5 + b))) ↔ ∀ k, k < R * 5 → ng (w k) := by
  constructor
  · intro h k hk
    by_cases e : C ≤ k % 5
    · exact hz k hk e
    · have h1 := h (k / 5) (k % 5) (by omega) (by omega)
      rw [show k / 5 * 5 + k % 5 = k by omega] at h1
      exact (wt_ng (hb k hk)).mp h1
  · intro h a b ha hbb
    exact (wt_ng (hb _ (by omega))).mpr (h _ (by omega))
theorem cpl {w u : Nat → Int64} {k : Nat} (h : k < 20) : cp 20 w u k = w k := if_pos h
theorem cp_ar {C i j : Nat} {t : Int64} {w u : Nat → Int64} (hi : i < 4) (hj : j < 4) : ar C i j t (cp 20 w u) = cp 20 (ar C i j t w) u := by
  funext k
  unfold ar cp
  by_cases e : k < 20
  · simp only [if_pos e]
    split
    · rw [if_pos (by omega)]
    · rfl
  · simp only [if_neg e]
    rw [if_neg (by omega)]
theorem cp_xr {C i j : Nat} {w u : Nat → Int64} (hi : i < 4) (hj : j < 4) : xr C i j (cp 20 w u) = cp 20 (xr C i j w) u := by
  funext k
  unfold xr cp
  by_cases e : k < 20
  · simp only [if_pos e]
    split
    · rw [if_pos (by omega)]
    · split
      · rw [if_pos (by omega)]
      · rfl
  · simp only [if_neg e]
    rw [if_neg (by omega), if_neg (by omega)]
theorem cp_tr {C i : Nat} {w u : Nat → Int64} (hi : i < 4) : tr C i (cp 20 w u) = cp 20 (tr C i w) u := by
  funext k
  unfold tr cp
  by_cases e : k < 20
  · simp only [if_pos e]
  · simp only [if_neg e]
    rw [if_neg (by omega)]
theorem ar_z {C i j : Nat} {t : Int64} {w : Nat → Int64} (h : t = 0) : ar C i j t w = w := by
  subst h
  funext k
  unfold ar
  split
  · rw [Int64.zero_mul, Int64.add_zero]
  · rfl
/-- the grids 6 and 7 are others, as far as they go -/
def cs (f : Nat → Nat → Int64) (w v : Nat → Int64) : Nat → Nat → Int64 := va_up (va_up f 6 (cp 20 w (f 6))) 7 (cp 20 v (f 7))
/-- the shapes of the row steps -/
def SH (r : Nat → Int32) (R C : Nat) : Prop := r (2 * 6) = nI R ∧ r (2 * 6 + 1) = nI C ∧ r (2 * 7) = nI R ∧ r (2 * 7 + 1) = nI R
section PRS
variable {r q : Nat → Int32} {f : Nat → Nat → Int64} {w v : Nat → Int64} {R C i rr c : Nat} {s : Int32}
theorem cs6 : cs f w v 6 = cp 20 w (f 6) := (vu_ne (by decide)).trans vu_self
theorem cs7 : cs f w v 7 = cp 20 v (f 7) := vu_self
theorem cs_s6 {w1 : Nat → Int64} : va_up (cs f w v) 6 (cp 20 w1 (f 6)) = cs f w1 v := by
  funext j
  unfold cs va_up
  by_cases e : j = 6
  · subst e; simp
  · simp [e]
theorem cs_s7 {v1 : Nat → Int64} : va_up (cs f w v) 7 (cp 20 v1 (f 7)) = cs f w v1 := vu2
theorem cdd {x y : Int64} (h : y ≠ 0) : D_X5_divideDown x y = fdv x y := by
  unfold D_X5_divideDown
  rw [if_neg (fun e => h (lgE.mp e))]
  rfl
theorem vq0 (h : q 0 = 0) : va_up q 0 0 = q := by
  funext j
  unfold va_up
  split
  · next e => rw [e, h]
  · rfl
theorem nzp {x : Int64} (h : 0 < x.toInt) : x ≠ 0 := fun e => by rw [e] at h; exact absurd h (by decide)
theorem ar_ng {t : Int64} {k : Nat} (h : C ≤ k % 5) : ar C i rr t w k = w k := by unfold ar; rw [if_neg (by omega)]
theorem ar_lo (hr4 : rr < R) {x p : Int64} (hw : ∀ k, k < R * 5 → ng (w k)) (hx : ng x) (hp : 0 < p.toInt) : ∀ k, k < R * 5 → -9223372036854775807 ≤ (ar C i rr (-(fdv x p)) w k).toInt := by
  intro k hk
  unfold ar
  split
  · exact mad_b (hw k hk) (hw _ (by omega)) hx hp
  · have := ng_int (hw k hk)
    omega
/-- a row taken off: the same on both sides -/
theorem to_eq (hS : SH r R C) (hR : R ≤ 4) (hC : C ≤ 5) (hi : i < R) (hr : rr < R) (hc : c < C) (hne : i ≠ rr) (hw : ∀ k, k < R * 5 → ng (w k)) (hv : ∀ k, k < R * 5 → ng (v k)) (hp : 0 < (w (rr * 5 + c)).toInt) :
    ∃ (G : Int32) (w1 v1 : Nat → Int64), (G = 0 ∨ G = 1) ∧ (w1 = ar C i rr (-(fdv (w (i * 5 + c)) (w (rr * 5 + c)))) w ∧ v1 = ar R i rr (-(fdv (w (i * 5 + c)) (w (rr * 5 + c)))) v) ∧ D_X4_takeOff r q (cs f w v) (nI i) (nI rr) (nI c) = (va_up q 0 G, cs f w1 v1) ∧ D_X8_takeOff R C v w s 0 i rr c = (v1, w1, s, G) ∧ (G = 0 → (∀ k, k < R * 5 → ng (w1 k)) ∧ ∀ k, k < R * 5 → ng (v1 k)) := by
  obtain ⟨s1, s2, s3, s4⟩ := hS
  have hx := hw (i * 5 + c) (by omega)
  have bw := ar_lo (C := C) (i := i) hr hw hx hp
  have bv := ar_lo (C := R) (i := i) hr hv hx hp
  have aw := wt_all (R := R) (w := ar C i rr (-(fdv (w (i * 5 + c)) (w (rr * 5 + c)))) w) hC bw (fun k hk e => by rw [ar_ng e]; exact hw k hk)
  have av := wt_all (R := R) (C := R) (w := ar R i rr (-(fdv (w (i * 5 + c)) (w (rr * 5 + c)))) v) (by omega) bv (fun k hk e => by rw [ar_ng e]; exact hv k hk)
  generalize hw1 : ar C i rr (-(fdv (w (i * 5 + c)) (w (rr * 5 + c)))) w = w1 at bw aw
  generalize hv1 : ar R i rr (-(fdv (w (i * 5 + c)) (w (rr * 5 + c)))) v = v1 at bv av
  -- the class
  have hc1 : (((∀ k, k < R * 5 → ng (w1 k)) ∧ ∀ k, k < R * 5 → ng (v1 k)) ∧ D_X4_takeOff r q (cs f w v) (nI i) (nI rr) (nI c) = (va_up q 0 0, cs f w1 v1)) ∨ (¬ ((∀ k, k < R * 5 → ng (w1 k)) ∧ ∀ k, k < R * 5 → ng (v1 k)) ∧ D_X4_takeOff r q (cs f w v) (nI i) (nI rr) (nI c) = (va_up q 0 1, cs f w1 v1)) := by
    unfold D_X4_takeOff
    simp only [bnd1]
    rw [cget (by omega) (by omega), cget (by omega) (by omega), cs6, cpl (by omega), cpl (by omega), cdd (nzp hp), caddR s2 hC (by omega) (by omega) hne, cs6, cp_ar (by omega) (by omega), cs_s6, caddR s4 (by omega) (by omega) (by omega) hne, cs7, cp_ar (by omega) (by omega), cs_s7, hw1, hv1]
    rcases ciw (q := q) (p := 1000000000) (f := cs f w1 v1) (i := 6) s1 s2 hR hC with ⟨h1, h2⟩ | ⟨h1, h2⟩
    · rw [h2, if_neg (by decide)]
      have h1 : ∀ k, k < R * 5 → ng (w1 k) := aw.mp (fun a b ha hb => by have := h1 a b ha hb; rw [cs6, cpl (by omega)] at this; exact this)
      rcases ciw (q := q) (p := 1000000000) (f := cs f w1 v1) (i := 7) s3 s4 hR (by omega) with ⟨h3, h4⟩ | ⟨h3, h4⟩
      · rw [h4, if_neg (by decide)]
        have h3 : ∀ k, k < R * 5 → ng (v1 k) := av.mp (fun a b ha hb => by have := h3 a b ha hb; rw [cs7, cpl (by omega)] at this; exact this)
        exact Or.inl ⟨⟨h1, h3⟩, rfl⟩
      · rw [h4, if_pos rfl]
        obtain ⟨a, b, ha, hb, h5⟩ := h3
        exact Or.inr ⟨fun h => h5 (by rw [cs7, cpl (by omega)]; exact av.mpr h.2 a b ha hb), rfl⟩
    · rw [h2, if_pos rfl]
      obtain ⟨a, b, ha, hb, h5⟩ := h1
      exact Or.inr ⟨fun h => h5 (by rw [cs6, cpl (by omega)]; exact aw.mpr h.1 a b ha hb), rfl⟩
  -- the reference
  have hr1 : (((∀ k, k < R * 5 → ng (w1 k)) ∧ ∀ k, k < R * 5 → ng (v1 k)) ∧ D_X8_takeOff R C v w s 0 i rr c = (v1, w1, s, 0)) ∨ (¬ ((∀ k, k < R * 5 → ng (w1 k)) ∧ ∀ k, k < R * 5 → ng (v1 k)) ∧ D_X8_takeOff R C v w s 0 i rr c = (v1, w1, s, 1)) := by
    unfold D_X8_takeOff
    by_cases e0 : fdv (w (i * 5 + c)) (w (rr * 5 + c)) = 0
    · rw [if_pos (lgE.mpr e0)]
      have ez : -(fdv (w (i * 5 + c)) (w (rr * 5 + c))) = 0 := by rw [e0]; rfl
      rw [ar_z ez] at hw1 hv1
      subst hw1; subst hv1
      exact Or.inl ⟨⟨hw, hv⟩, rfl⟩
    · rw [if_neg (fun h => e0 (lgE.mp h)), if_pos rfl]
      simp only [bnd1]
      rw [hw1, hv1]
      rcases rig (R := R) (C := C) (f := w1) with ⟨h1, h2⟩ | ⟨⟨k, h1, h3⟩, h2⟩
      · rw [h2, if_pos rfl]
        rcases rig (R := R) (C := R) (f := v1) with ⟨h3, h4⟩ | ⟨⟨k, h3, h5⟩, h4⟩
        · rw [h4, if_pos rfl]
          exact Or.inl ⟨⟨h1, h3⟩, rfl⟩
        · rw [h4, if_neg (by decide)]
          exact Or.inr ⟨fun h => h5 (h.2 k h3), rfl⟩
      · rw [h2, if_neg (by decide)]
        exact Or.inr ⟨fun h => h3 (h.1 k h1), rfl⟩
  rcases hc1 with ⟨e, h1⟩ | ⟨e, h1⟩
  · rcases hr1 with ⟨_, h2⟩ | ⟨e2, _⟩
    · exact ⟨0, w1, v1, Or.inl rfl, ⟨rfl, rfl⟩, h1, h2, fun _ => e⟩
    · exact absurd e e2
  · rcases hr1 with ⟨e2, _⟩ | ⟨_, h2⟩
    · exact absurd e2 e
    · exact ⟨1, w1, v1, Or.inr rfl, ⟨rfl, rfl⟩, h1, h2, fun h => absurd h (by decide)⟩
end PRS
