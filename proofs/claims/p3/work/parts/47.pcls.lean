/-! ===== The class's grids: what their methods answer, plainly ===== -/
theorem vu_self {α : Type} {f : Nat → α} {i : Nat} {x : α} : va_up f i x i = x := if_pos rfl
theorem vu_ne {α : Type} {f : Nat → α} {i j : Nat} {x : α} (h : j ≠ i) : va_up f i x j = f j := if_neg h
theorem vu2 {α : Type} {f : Nat → α} {i : Nat} {x y : α} : va_up (va_up f i x) i y = va_up f i y := by
  funext j; unfold va_up; split <;> rfl
theorem vu_id {α : Type} {f : Nat → α} {i : Nat} : va_up f i (f i) = f := by
  funext j; unfold va_up; split
  · next h => rw [h]
  · rfl
theorem gapN {a b : Nat} (ha : a < 2 ^ 31) (hb : b < 2 ^ 31) : gap (nI a) (nI b) = a - b := by
  unfold gap
  rw [nI_toInt ha, nI_toInt hb]
  omega
theorem s1 {y : Nat} : nI y + 1 = nI (y + 1) := nI_add y 1
theorem ile {a b : Nat} (h : a ≤ b) (hb : b < 2 ^ 31) : nI a ≤ nI b := by rw [nleP (by omega) hb]; exact h
theorem nile {a b : Nat} (h : ¬ a ≤ b) (ha : a < 2 ^ 31) : ¬ nI a ≤ nI b := by rw [nleP ha (by omega)]; exact h
theorem nile4 {a : Nat} (h : a < 4) : ¬ (4 : Int32) ≤ nI a := nile (a := 4) (by omega) (by omega)
theorem nile5 {a : Nat} (h : a < 5) : ¬ (5 : Int32) ≤ nI a := nile (a := 5) (by omega) (by omega)
theorem ile20 {a : Nat} (h : 20 ≤ a) (h2 : a < 2 ^ 31) : (20 : Int32) ≤ nI a := ile (a := 20) h h2
theorem nile20 {a : Nat} (h : ¬ 20 ≤ a) : ¬ (20 : Int32) ≤ nI a := nile (a := 20) h (by omega)
theorem ilt0 {a : Nat} (ha : a < 2 ^ 31) : ¬ nI a < 0 := nI_pos ha
section PCG
variable {r q : Nat → Int32} {f : Nat → Nat → Int64} {i j R C a b : Nat} {x t : Int64} {p0 : Int32}
theorem cidx (ha : a < 4) (hb : b < 5) : ((nI a * 5) + nI b).toNatClampNeg = a * 5 + b := by
  rw [show (5 : Int32) = nI 5 from rfl, nI_mul, nI_add, nI_clamp (by omega)]
theorem cget (ha : a < 4) (hb : b < 5) : D_X3_get r q f i (nI a) (nI b) = f i (a * 5 + b) := by
  unfold D_X3_get nm
  rw [if_neg (ilt0 (by omega)), if_neg (nile4 ha), if_neg (ilt0 (by omega)), if_pos (by rw [show (5 : Int32) = nI 5 from rfl, nltP (by omega) (by omega)]; exact hb), cidx ha hb]
theorem cset (ha : a < 4) (hb : b < 5) : D_X3_set r q f i (nI a) (nI b) x = va_up f i (vp_updL (f i) (a * 5 + b) x) := by
  unfold D_X3_set
  rw [if_neg (ilt0 (by omega)), if_neg (nile4 ha), if_neg (ilt0 (by omega)), if_neg (nile5 hb), cidx ha hb]
/-- rows or columns of that number -/
theorem chas {L : Nat} {k : Int32} (hL : (if p0 = 0 then r (2 * i) else r (2 * i + 1)) = nI L) (hL5 : L ≤ 5) : (∃ n, k = nI n ∧ n < L ∧ D_X3_hasLine r q f i p0 k = 1) ∨ ((k < 0 ∨ nI L ≤ k) ∧ D_X3_hasLine r q f i p0 k = 0) := by
  unfold D_X3_hasLine
  by_cases h0 : k < 0
  · exact Or.inr ⟨Or.inl h0, if_pos h0⟩
  · rw [if_neg h0]
    obtain ⟨n, hn, rfl⟩ := nI_of h0
    by_cases e : p0 = 0
    · rw [if_pos e] at hL
      rw [if_pos e, hL]
      by_cases h : L ≤ n
      · exact Or.inr ⟨Or.inr (ile h hn), if_pos (ile h hn)⟩
      · exact Or.inl ⟨n, rfl, by omega, if_neg (nile h (by omega))⟩
    · rw [if_neg e] at hL
      rw [if_neg e, hL]
      by_cases h : L ≤ n
      · exact Or.inr ⟨Or.inr (ile h hn), if_pos (ile h hn)⟩
      · exact Or.inl ⟨n, rfl, by omega, if_neg (nile h (by omega))⟩
/-- a column's signs are turned -/
def tc (R i : Nat) (f : Nat → Int64) : Nat → Int64 := fun k => if k / 5 < R ∧ k % 5 = i then -f k else f k
theorem tc0 {g : Nat → Int64} : tc 0 a g = g := by funext k; unfold tc; rw [if_neg (by omega)]
theorem tc_step {g : Nat → Int64} {y : Nat} (ha : a < 5) : vp_updL (tc y a g) (y * 5 + a) (-(tc y a g (y * 5 + a))) = tc (y + 1) a g := by
  have e1 : tc y a g (y * 5 + a) = g (y * 5 + a) := by unfold tc; rw [if_neg (by omega)]
  rw [e1]
  funext k
  unfold vp_updL
  by_cases a1 : k = y * 5 + a
  · subst a1
    rw [if_pos rfl]
    unfold tc
    rw [if_pos (by omega)]
  · rw [if_neg a1]
    unfold tc
    by_cases b1 : k / 5 < y ∧ k % 5 = a
    · rw [if_pos b1, if_pos (by omega)]
    · rw [if_neg b1, if_neg (by omega)]
theorem caddR_l (hC : r (2 * i + 1) = nI C) (h5 : C ≤ 5) (ha : a < 4) (hb : b < 4) (hab : a ≠ b) : ∀ n y : Nat, y ≤ C → C - y < n → D_X3_addLine_20 r q i 0 (nI a) (nI b) t n (nI y) (va_up f i (ar y a b t (f i))) = va_up f i (ar C a b t (f i)) := by
  intro n
  induction n with
  | zero => intro y _ h; omega
  | succ n ih =>
    intro y hy hn
    rw [D_X3_addLine_20_s]
    by_cases e : C ≤ y
    · rw [if_pos (by rw [hC]; exact ile e (by omega)), show y = C by omega]
    · rw [if_neg (by rw [hC]; exact nile e (by omega)), if_pos rfl]
      simp only [bnd1]
      rw [cget ha (by omega), cget hb (by omega), cset ha (by omega), vu_self, vu2, ar_step (by omega) hab (by omega), s1]
      exact ih (y + 1) (by omega) (by omega)
theorem caddC_l (hp : ¬ p0 = 0) (hR : r (2 * i) = nI R) (h4 : R ≤ 4) (ha : a < 5) (hb : b < 5) (hab : a ≠ b) : ∀ n y : Nat, y ≤ R → R - y < n → D_X3_addLine_20_1 r q i p0 (nI a) (nI b) t n (nI y) (va_up f i (ac y a b t (f i))) = va_up f i (ac R a b t (f i)) := by
  intro n
  induction n with
  | zero => intro y _ h; omega
  | succ n ih =>
    intro y hy hn
    rw [D_X3_addLine_20_1_s]
    by_cases e : R ≤ y
    · rw [if_pos (by rw [hR]; exact ile e (by omega)), show y = R by omega]
    · rw [if_neg (by rw [hR]; exact nile e (by omega)), if_neg hp]
      simp only [bnd1]
      rw [cget (by omega) ha, cget (by omega) hb, cset (by omega) ha, vu_self, vu2, ac_step ha hb hab, s1]
      exact ih (y + 1) (by omega) (by omega)
theorem caddR (hC : r (2 * i + 1) = nI C) (h5 : C ≤ 5) (ha : a < 4) (hb : b < 4) (hab : a ≠ b) : D_X3_addLine r q f i 0 (nI a) (nI b) t = va_up f i (ar C a b t (f i)) := by
  unfold D_X3_addLine
  rw [if_pos rfl, hC, show (0 : Int32) = nI 0 from rfl, gapN (by omega) (by omega)]
  have h := caddR_l (q := q) (f := f) (t := t) hC h5 ha hb hab (C - 0 + 1) 0 (by omega) (by omega)
  rw [ar0, vu_id] at h
  exact h
theorem caddC (hp : ¬ p0 = 0) (hR : r (2 * i) = nI R) (h4 : R ≤ 4) (ha : a < 5) (hb : b < 5) (hab : a ≠ b) : D_X3_addLine r q f i p0 (nI a) (nI b) t = va_up f i (ac R a b t (f i)) := by
  unfold D_X3_addLine
  rw [if_neg hp, hR, show (0 : Int32) = nI 0 from rfl, gapN (by omega) (by omega)]
  have h := caddC_l (q := q) (f := f) (t := t) hp hR h4 ha hb hab (R - 0 + 1) 0 (by omega) (by omega)
  rw [ac0, vu_id] at h
  exact h
theorem cexR_l (hC : r (2 * i + 1) = nI C) (h5 : C ≤ 5) (ha : a < 4) (hb : b < 4) : ∀ n y : Nat, y ≤ C → C - y < n → D_X3_exchangeLines_20 r q i 0 (nI a) (nI b) n (nI y) (va_up f i (xr y a b (f i))) = va_up f i (xr C a b (f i)) := by
  intro n
  induction n with
  | zero => intro y _ h; omega
  | succ n ih =>
    intro y hy hn
    rw [D_X3_exchangeLines_20_s]
    by_cases e : C ≤ y
    · rw [if_pos (by rw [hC]; exact ile e (by omega)), show y = C by omega]
    · rw [if_neg (by rw [hC]; exact nile e (by omega)), if_pos rfl]
      simp only [bnd1]
      rw [D_X3_exchangeLines_j48_s, if_pos rfl]
      simp only [bnd1]
      rw [cget ha (by omega), cget hb (by omega), cset ha (by omega), vu_self, vu2, cset hb (by omega), vu_self, vu2, xr_step (by omega) (by omega) (by omega), s1]
      exact ih (y + 1) (by omega) (by omega)
theorem cexC_l (hp : ¬ p0 = 0) (hR : r (2 * i) = nI R) (h4 : R ≤ 4) (ha : a < 5) (hb : b < 5) : ∀ n y : Nat, y ≤ R → R - y < n → D_X3_exchangeLines_20_1 r q i p0 (nI a) (nI b) n (nI y) (va_up f i (xc y a b (f i))) = va_up f i (xc R a b (f i)) := by
  intro n
  induction n with
  | zero => intro y _ h; omega
  | succ n ih =>
    intro y hy hn
    rw [D_X3_exchangeLines_20_1_s]
    by_cases e : R ≤ y
    · rw [if_pos (by rw [hR]; exact ile e (by omega)), show y = R by omega]
    · rw [if_neg (by rw [hR]; exact nile e (by omega)), if_neg hp]
      simp only [bnd1]
      rw [D_X3_exchangeLines_j48_1_s, if_neg hp]
      simp only [bnd1]
      rw [cget (by omega) ha, cget (by omega) hb, cset (by omega) ha, vu_self, vu2, cset (by omega) hb, vu_self, vu2, xc_step ha hb ha, s1]
      exact ih (y + 1) (by omega) (by omega)
theorem cexR (hC : r (2 * i + 1) = nI C) (h5 : C ≤ 5) (ha : a < 4) (hb : b < 4) : D_X3_exchangeLines r q f i 0 (nI a) (nI b) = va_up f i (xr C a b (f i)) := by
  unfold D_X3_exchangeLines
  rw [if_pos rfl, hC, show (0 : Int32) = nI 0 from rfl, gapN (by omega) (by omega)]
  have h := cexR_l (q := q) (f := f) hC h5 ha hb (C - 0 + 1) 0 (by omega) (by omega)
  rw [xr0, vu_id] at h
  exact h
theorem cexC (hp : ¬ p0 = 0) (hR : r (2 * i) = nI R) (h4 : R ≤ 4) (ha : a < 5) (hb : b < 5) : D_X3_exchangeLines r q f i p0 (nI a) (nI b) = va_up f i (xc R a b (f i)) := by
  unfold D_X3_exchangeLines
  rw [if_neg hp, hR, show (0 : Int32) = nI 0 from rfl, gapN (by omega) (by omega)]
  have h := cexC_l (q := q) (f := f) hp hR h4 ha hb (R - 0 + 1) 0 (by omega) (by omega)
  rw [xc0, vu_id] at h
  exact h
theorem ctuR_l (hC : r (2 * i + 1) = nI C) (h5 : C ≤ 5) (ha : a < 4) : ∀ n y : Nat, y ≤ C → C - y < n → D_X3_turnLine_19 r q i 0 (nI a) n (nI y) (va_up f i (tr y a (f i))) = va_up f i (tr C a (f i)) := by
  intro n
  induction n with
  | zero => intro y _ h; omega
  | succ n ih =>
    intro y hy hn
    rw [D_X3_turnLine_19_s]
    by_cases e : C ≤ y
    · rw [if_pos (by rw [hC]; exact ile e (by omega)), show y = C by omega]
    · rw [if_neg (by rw [hC]; exact nile e (by omega)), if_pos rfl]
      simp only [bnd1]
      rw [cget ha (by omega), cset ha (by omega), vu_self, vu2, tr_step (by omega) (by omega) (by omega), s1]
      exact ih (y + 1) (by omega) (by omega)
theorem ctuC_l (hp : ¬ p0 = 0) (hR : r (2 * i) = nI R) (h4 : R ≤ 4) (ha : a < 5) : ∀ n y : Nat, y ≤ R → R - y < n → D_X3_turnLine_19_1 r q i p0 (nI a) n (nI y) (va_up f i (tc y a (f i))) = va_up f i (tc R a (f i)) := by
  intro n
  induction n with
  | zero => intro y _ h; omega
  | succ n ih =>
    intro y hy hn
    rw [D_X3_turnLine_19_1_s]
    by_cases e : R ≤ y
    · rw [if_pos (by rw [hR]; exact ile e (by omega)), show y = R by omega]
    · rw [if_neg (by rw [hR]; exact nile e (by omega)), if_neg hp]
      simp only [bnd1]
      rw [cget (by omega) ha, cset (by omega) ha, vu_self, vu2, tc_step ha, s1]
      exact ih (y + 1) (by omega) (by omega)
theorem ctuR (hC : r (2 * i + 1) = nI C) (h5 : C ≤ 5) (ha : a < 4) : D_X3_turnLine r q f i 0 (nI a) = va_up f i (tr C a (f i)) := by
  unfold D_X3_turnLine
  rw [if_pos rfl, hC, show (0 : Int32) = nI 0 from rfl, gapN (by omega) (by omega)]
  have h := ctuR_l (q := q) (f := f) hC h5 ha (C - 0 + 1) 0 (by omega) (by omega)
  rw [tr0, vu_id] at h
  exact h
theorem ctuC (hp : ¬ p0 = 0) (hR : r (2 * i) = nI R) (h4 : R ≤ 4) (ha : a < 5) : D_X3_turnLine r q f i p0 (nI a) = va_up f i (tc R a (f i)) := by
  unfold D_X3_turnLine
  rw [if_neg hp, hR, show (0 : Int32) = nI 0 from rfl, gapN (by omega) (by omega)]
  have h := ctuC_l (q := q) (f := f) hp hR h4 ha (R - 0 + 1) 0 (by omega) (by omega)
  rw [tc0, vu_id] at h
  exact h
end PCG
/-- how many of the first n places are so -/
def cnt (n : Nat) (p : Nat → Bool) : Nat := Nat.rec 0 (fun k c => c + if p k then 1 else 0) n
theorem cnt_s {n : Nat} {p : Nat → Bool} : cnt (n + 1) p = cnt n p + if p n then 1 else 0 := rfl
theorem cnt_le {n : Nat} {p : Nat → Bool} : cnt n p ≤ n := by
  induction n with
  | zero => exact Nat.le_refl _
  | succ n ih => rw [cnt_s]; split <;> omega
theorem cnt_congr {n : Nat} {p q : Nat → Bool} (h : ∀ k, k < n → p k = q k) : cnt n p = cnt n q := by
  induction n with
  | zero => rfl
  | succ n ih => rw [cnt_s, cnt_s, ih (fun k hk => h k (by omega)), h n (by omega)]
theorem cnt_gap {m n : Nat} {p : Nat → Bool} (hmn : m ≤ n) (h : ∀ k, m ≤ k → k < n → p k = false) : cnt n p = cnt m p := by
  induction n with
  | zero => rw [show m = 0 by omega]
  | succ n ih =>
    by_cases e : m = n + 1
    · rw [e]
    · rw [cnt_s, ih (by omega) (fun k h1 h2 => h k h1 (by omega)), h n (by omega) (by omega)]
      rfl
theorem cnt_0 {n : Nat} {p : Nat → Bool} : cnt n p = 0 ↔ ∀ k, k < n → p k = false := by
  induction n with
  | zero => exact ⟨fun _ k hk => absurd hk (Nat.not_lt_zero k), fun _ => rfl⟩
  | succ n ih =>
    rw [cnt_s]
    constructor
    · intro h k hk
      have h1 : cnt n p = 0 := by omega
      by_cases e : k = n
      · subst e
        cases hp : p k with
        | false => rfl
        | true => rw [hp] at h; simp at h
      · exact ih.mp h1 k (by omega)
    · intro h
      rw [ih.mpr (fun k hk => h k (by omega)), h n (by omega)]
      rfl
/-- all of a grid that lies beyond its columns is 0 -/
def zc (C n : Nat) (g : Nat → Int64) : Prop := ∀ k, k < n → C ≤ k % 5 → g k = 0
def nzb (g : Nat → Int64) (k : Nat) : Bool := !decide (g k = 0)
def neb (g h : Nat → Int64) (k : Nat) : Bool := !decide (g k = h k)
theorem lgE {x y : Int64} : lg_cmp x y = 0 ↔ x = y := lg_cmp_eq x y
section PCC
variable {r q : Nat → Int32} {f : Nat → Nat → Int64} {i j R C Rj Cj : Nat} {p : Int64}
theorem ccf_in (hC : r (2 * i + 1) = nI C) (h5 : C ≤ 5) {a : Nat} (ha : a < 4) {lb : Int32 → Int32 → Int32} : ∀ n y : Nat, y ≤ C → C - y < n → ∀ x, x ≤ 20 → x = cnt (a * 5 + y) (nzb (f i)) → D_X3_countFilled_14 r q f i lb (nI a) n (nI y) (nI x) = lb (nI (a + 1)) (nI (cnt (a * 5 + C) (nzb (f i)))) := by
  intro n
  induction n with
  | zero => intro y _ h; omega
  | succ n ih =>
    intro y hy hn x hx20 hx
    rw [D_X3_countFilled_14_s]
    by_cases e : C ≤ y
    · rw [if_pos (by rw [hC]; exact ile e (by omega)), hx, show y = C by omega, s1]
    · rw [if_neg (by rw [hC]; exact nile e (by omega))]
      simp only [bnd1]
      rw [cget ha (by omega)]
      have hb : cnt (a * 5 + y + 1) (nzb (f i)) ≤ a * 5 + y + 1 := cnt_le
      by_cases e2 : f i (a * 5 + y) = 0
      · rw [if_pos (lgE.mpr e2), s1]
        exact ih (y + 1) (by omega) (by omega) x hx20 (by rw [hx]; show _ = cnt (a * 5 + y + 1) _; rw [cnt_s]; simp [nzb, e2])
      · rw [if_neg (fun h => e2 (lgE.mp h)), s1, s1]
        have e3 : x + 1 = cnt (a * 5 + y + 1) (nzb (f i)) := by rw [hx, cnt_s]; simp [nzb, e2]
        exact ih (y + 1) (by omega) (by omega) (x + 1) (by omega) e3
theorem ccf_out (hR : r (2 * i) = nI R) (hC : r (2 * i + 1) = nI C) (h4 : R ≤ 4) (h5 : C ≤ 5) (hz : zc C 20 (f i)) : ∀ n y : Nat, y ≤ R → R - y < n → D_X3_countFilled_4 r q f i n (nI y) (nI (cnt (y * 5) (nzb (f i)))) = nI (cnt (R * 5) (nzb (f i))) := by
  intro n
  induction n with
  | zero => intro y _ h; omega
  | succ n ih =>
    intro y hy hn
    rw [D_X3_countFilled_4_s]
    by_cases e : R ≤ y
    · rw [if_pos (by rw [hR]; exact ile e (by omega)), show y = R by omega]
    · rw [if_neg (by rw [hR]; exact nile e (by omega)), hC, show (0 : Int32) = nI 0 from rfl, gapN (by omega) (by omega)]
      have hb : cnt (y * 5) (nzb (f i)) ≤ y * 5 := cnt_le
      rw [ccf_in (a := y) hC h5 (by omega) (C - 0 + 1) 0 (by omega) (by omega) (cnt (y * 5) (nzb (f i))) (by omega) rfl]
      have e1 : cnt (y * 5 + C) (nzb (f i)) = cnt ((y + 1) * 5) (nzb (f i)) := by
        refine (cnt_gap (by omega) (fun k h1 h2 => ?_)).symm
        simp [nzb, hz k (by omega) (by omega)]
      rw [e1]
      exact ih (y + 1) (by omega) (by omega)
theorem ccf (hR : r (2 * i) = nI R) (hC : r (2 * i + 1) = nI C) (h4 : R ≤ 4) (h5 : C ≤ 5) (hz : zc C 20 (f i)) : D_X3_countFilled r q f i = nI (cnt (R * 5) (nzb (f i))) := by
  unfold D_X3_countFilled
  rw [hR, show (0 : Int32) = nI 0 from rfl, gapN (by omega) (by omega)]
  have h := ccf_out (q := q) hR hC h4 h5 hz (R - 0 + 1) 0 (by omega) (by omega)
  rw [show cnt (0 * 5) (nzb (f i)) = 0 by rw [Nat.zero_mul]; rfl] at h
  exact h
theorem ccu_in (hC : r (2 * i + 1) = nI C) (h5 : C ≤ 5) {a : Nat} (ha : a < 4) {lb : Int32 → Int32 → Int32} : ∀ n y : Nat, y ≤ C → C - y < n → ∀ x, x ≤ 20 → x = cnt (a * 5 + y) (neb (f i) (f j)) → D_X3_countUnlike_15 r q f i j lb (nI a) n (nI y) (nI x) = lb (nI (a + 1)) (nI (cnt (a * 5 + C) (neb (f i) (f j)))) := by
  intro n
  induction n with
  | zero => intro y _ h; omega
  | succ n ih =>
    intro y hy hn x hx20 hx
    rw [D_X3_countUnlike_15_s]
    by_cases e : C ≤ y
    · rw [if_pos (by rw [hC]; exact ile e (by omega)), hx, show y = C by omega, s1]
    · rw [if_neg (by rw [hC]; exact nile e (by omega))]
      simp only [bnd1]
      rw [cget ha (by omega), cget ha (by omega)]
      have hb : cnt (a * 5 + y + 1) (neb (f i) (f j)) ≤ a * 5 + y + 1 := cnt_le
      by_cases e2 : f i (a * 5 + y) = f j (a * 5 + y)
      · rw [if_pos (lgE.mpr e2), s1]
        exact ih (y + 1) (by omega) (by omega) x hx20 (by rw [hx]; show _ = cnt (a * 5 + y + 1) _; rw [cnt_s]; simp [neb, e2])
      · rw [if_neg (fun h => e2 (lgE.mp h)), s1, s1]
        have e3 : x + 1 = cnt (a * 5 + y + 1) (neb (f i) (f j)) := by rw [hx, cnt_s]; simp [neb, e2]
        exact ih (y + 1) (by omega) (by omega) (x + 1) (by omega) e3
theorem ccu_out (hR : r (2 * i) = nI R) (hC : r (2 * i + 1) = nI C) (h4 : R ≤ 4) (h5 : C ≤ 5) (hz : zc C 20 (f i)) (hz2 : zc C 20 (f j)) : ∀ n y : Nat, y ≤ R → R - y < n → D_X3_countUnlike_4 r q f i j n (nI y) (nI (cnt (y * 5) (neb (f i) (f j)))) = nI (cnt (R * 5) (neb (f i) (f j))) := by
  intro n
  induction n with
  | zero => intro y _ h; omega
  | succ n ih =>
    intro y hy hn
    rw [D_X3_countUnlike_4_s]
    by_cases e : R ≤ y
    · rw [if_pos (by rw [hR]; exact ile e (by omega)), show y = R by omega]
    · rw [if_neg (by rw [hR]; exact nile e (by omega)), hC, show (0 : Int32) = nI 0 from rfl, gapN (by omega) (by omega)]
      have hb : cnt (y * 5) (neb (f i) (f j)) ≤ y * 5 := cnt_le
      rw [ccu_in (a := y) hC h5 (by omega) (C - 0 + 1) 0 (by omega) (by omega) (cnt (y * 5) (neb (f i) (f j))) (by omega) rfl]
      have e1 : cnt (y * 5 + C) (neb (f i) (f j)) = cnt ((y + 1) * 5) (neb (f i) (f j)) := by
        refine (cnt_gap (by omega) (fun k h1 h2 => ?_)).symm
        simp [neb, hz k (by omega) (by omega), hz2 k (by omega) (by omega)]
      rw [e1]
      exact ih (y + 1) (by omega) (by omega)
theorem ccu (hR : r (2 * i) = nI R) (hC : r (2 * i + 1) = nI C) (h4 : R ≤ 4) (h5 : C ≤ 5) (hz : zc C 20 (f i)) (hz2 : zc C 20 (f j)) : D_X3_countUnlike r q f i j = nI (cnt (R * 5) (neb (f i) (f j))) := by
  unfold D_X3_countUnlike
  rw [hR, show (0 : Int32) = nI 0 from rfl, gapN (by omega) (by omega)]
  have h := ccu_out (q := q) hR hC h4 h5 hz hz2 (R - 0 + 1) 0 (by omega) (by omega)
  rw [show cnt (0 * 5) (neb (f i) (f j)) = 0 by rw [Nat.zero_mul]; rfl] at h
  exact h
/-- alike, by shape and numbers -/
theorem cisl (hR : r (2 * i) = nI R) (hC : r (2 * i + 1) = nI C) (hR2 : r (2 * j) = nI Rj) (hC2 : r (2 * j + 1) = nI Cj) (h4 : R ≤ 4) (h5 : C ≤ 5) (h42 : Rj ≤ 4) (h52 : Cj ≤ 5) (hz : zc C 20 (f i)) (hz2 : zc Cj 20 (f j)) :
    (D_X3_isLike r q f i j = 1 ∧ R = Rj ∧ C = Cj ∧ ∀ k, k < R * 5 → f i k = f j k) ∨ (D_X3_isLike r q f i j = 0 ∧ ¬ (R = Rj ∧ C = Cj ∧ ∀ k, k < R * 5 → f i k = f j k)) := by
  unfold D_X3_isLike
  rw [hR, hC, hR2, hC2]
  by_cases e1 : R = Rj
  · subst e1
    rw [if_pos rfl]
    by_cases e2 : C = Cj
    · subst e2
      rw [if_pos rfl, ccu hR hC h4 h5 hz hz2]
      simp only [bnd1]
      have hb : cnt (R * 5) (neb (f i) (f j)) ≤ R * 5 := cnt_le
      by_cases e3 : cnt (R * 5) (neb (f i) (f j)) = 0
      · rw [e3, if_pos (show nI 0 = 0 from rfl)]
        refine Or.inl ⟨rfl, trivial, trivial, fun k hk => ?_⟩
        have := cnt_0.mp e3 k hk
        simpa [neb] using this
      · rw [if_neg (by rw [show (0 : Int32) = nI 0 from rfl, neqP (by omega) (by omega)]; exact e3)]
        refine Or.inr ⟨rfl, fun h => e3 (cnt_0.mpr (fun k hk => ?_))⟩
        simp [neb, h.2.2 k hk]
    · rw [if_neg (by rw [neqP (by omega) (by omega)]; exact e2)]
      exact Or.inr ⟨rfl, fun h => e2 h.2.1⟩
  · rw [if_neg (by rw [neqP (by omega) (by omega)]; exact e1)]
    exact Or.inr ⟨rfl, fun h => e1 h.1⟩
/-- within a bound -/
abbrev wt (p x : Int64) : Prop := ab x ≤ p
theorem ciw_in (hC : r (2 * i + 1) = nI C) (h5 : C ≤ 5) {a : Nat} (ha : a < 4) {lb : Int32 → Int32} : ∀ n y : Nat, y ≤ C → C - y < n → ((∀ b, y ≤ b → b < C → wt p (f i (a * 5 + b))) ∧ D_X3_isWithin_13 r q f i p lb (nI a) n (nI y) = lb (nI (a + 1))) ∨ ((∃ b, b < C ∧ ¬ wt p (f i (a * 5 + b))) ∧ D_X3_isWithin_13 r q f i p lb (nI a) n (nI y) = 0) := by
  intro n
  induction n with
  | zero => intro y _ h; omega
  | succ n ih =>
    intro y hy hn
    rw [D_X3_isWithin_13_s]
    by_cases e : C ≤ y
    · rw [if_pos (by rw [hC]; exact ile e (by omega)), s1]
      exact Or.inl ⟨fun b h1 h2 => absurd h2 (by omega), rfl⟩
    · rw [if_neg (by rw [hC]; exact nile e (by omega))]
      simp only [bnd1, nm]
      rw [cget ha (by omega)]
      by_cases e2 : wt p (f i (a * 5 + y))
      · rw [if_pos ((lg_cmp_le _ _).mpr e2), s1]
        rcases ih (y + 1) (by omega) (by omega) with ⟨h1, h2⟩ | h
        · refine Or.inl ⟨fun b h3 h4 => ?_, h2⟩
          by_cases e3 : b = y
          · subst e3; exact e2
          · exact h1 b (by omega) h4
        · exact Or.inr h
      · rw [if_neg (fun h => e2 ((lg_cmp_le _ _).mp h))]
        exact Or.inr ⟨⟨y, by omega, e2⟩, rfl⟩
theorem ciw_out (hR : r (2 * i) = nI R) (hC : r (2 * i + 1) = nI C) (h4 : R ≤ 4) (h5 : C ≤ 5) : ∀ n y : Nat, y ≤ R → R - y < n → ((∀ a b, y ≤ a → a < R → b < C → wt p (f i (a * 5 + b))) ∧ D_X3_isWithin_2 r q f i p n (nI y) = 1) ∨ ((∃ a b, a < R ∧ b < C ∧ ¬ wt p (f i (a * 5 + b))) ∧ D_X3_isWithin_2 r q f i p n (nI y) = 0) := by
  intro n
  induction n with
  | zero => intro y _ h; omega
  | succ n ih =>
    intro y hy hn
    rw [D_X3_isWithin_2_s]
    by_cases e : R ≤ y
    · rw [if_pos (by rw [hR]; exact ile e (by omega))]
      exact Or.inl ⟨fun a b h1 h2 => absurd h2 (by omega), rfl⟩
    · rw [if_neg (by rw [hR]; exact nile e (by omega)), hC, show (0 : Int32) = nI 0 from rfl, gapN (by omega) (by omega)]
      rcases ciw_in (q := q) (p := p) (f := f) hC h5 (show y < 4 by omega) (lb := D_X3_isWithin_2 r q f i p n) (C - 0 + 1) 0 (by omega) (by omega) with ⟨h1, h2⟩ | ⟨⟨b, h1, h2⟩, h3⟩
      · rw [h2]
        rcases ih (y + 1) (by omega) (by omega) with ⟨h3, h4⟩ | h
        · refine Or.inl ⟨fun a b h5 h6 h7 => ?_, h4⟩
          by_cases e3 : a = y
          · subst e3; exact h1 b (by omega) h7
          · exact h3 a b (by omega) h6 h7
        · exact Or.inr h
      · rw [h3]
        exact Or.inr ⟨⟨y, b, by omega, h1, h2⟩, rfl⟩
theorem ciw (hR : r (2 * i) = nI R) (hC : r (2 * i + 1) = nI C) (h4 : R ≤ 4) (h5 : C ≤ 5) : ((∀ a b, a < R → b < C → wt p (f i (a * 5 + b))) ∧ D_X3_isWithin r q f i p = 1) ∨ ((∃ a b, a < R ∧ b < C ∧ ¬ wt p (f i (a * 5 + b))) ∧ D_X3_isWithin r q f i p = 0) := by
  unfold D_X3_isWithin
  rw [hR, show (0 : Int32) = nI 0 from rfl, gapN (by omega) (by omega)]
  rcases ciw_out (q := q) (p := p) (f := f) hR hC h4 h5 (R - 0 + 1) 0 (by omega) (by omega) with ⟨h1, h2⟩ | h
  · exact Or.inl ⟨fun a b h3 h4 => h1 a b (Nat.zero_le _) h3 h4, h2⟩
  · exact Or.inr h
end PCC
/-- the first n places are 0; are those of another one -/
def zf (n : Nat) (g : Nat → Int64) : Nat → Int64 := fun k => if k < n then 0 else g k
def cp (n : Nat) (g h : Nat → Int64) : Nat → Int64 := fun k => if k < n then g k else h k
/-- 1 on the diagonal -/
def un (n : Nat) (g : Nat → Int64) : Nat → Int64 := fun k => if k % 6 = 0 ∧ k / 6 < n then 1 else g k
theorem zf_s {n : Nat} {g : Nat → Int64} : vp_updL (zf n g) n 0 = zf (n + 1) g := by
  funext k
  unfold vp_updL zf
  by_cases e : k = n
  · rw [if_pos e, if_pos (by omega)]
  · rw [if_neg e]
    by_cases h : k < n
    · rw [if_pos h, if_pos (by omega)]
    · rw [if_neg h, if_neg (by omega)]
theorem cp_s {n : Nat} {g h : Nat → Int64} : vp_updL (cp n g h) n (g n) = cp (n + 1) g h := by
  funext k
  unfold vp_updL cp
  by_cases e : k = n
  · rw [if_pos e, if_pos (by omega), e]
  · rw [if_neg e]
    by_cases h : k < n
    · rw [if_pos h, if_pos (by omega)]
    · rw [if_neg h, if_neg (by omega)]
theorem un_s {n : Nat} {g : Nat → Int64} : vp_updL (un n g) (n * 5 + n) 1 = un (n + 1) g := by
  funext k
  unfold vp_updL un
  by_cases e : k = n * 5 + n
  · rw [if_pos e, if_pos (by omega)]
  · rw [if_neg e]
    by_cases h : k % 6 = 0 ∧ k / 6 < n
    · rw [if_pos h, if_pos (by omega)]
    · rw [if_neg h, if_neg (by omega)]
theorem zf0 {g : Nat → Int64} : zf 0 g = g := by funext k; unfold zf; rw [if_neg (by omega)]
theorem cp0 {g h : Nat → Int64} : cp 0 g h = h := by funext k; unfold cp; rw [if_neg (by omega)]
theorem un0 {g : Nat → Int64} : un 0 g = g := by funext k; unfold un; rw [if_neg (by omega)]
theorem cp_id {n : Nat} {g : Nat → Int64} : cp n g g = g := by funext k; unfold cp; split <;> rfl
section PCM
variable {r q : Nat → Int32} {f : Nat → Nat → Int64} {i j k0 R C Rj Cj Rk Ck n0 a b : Nat} {x t : Int64} {p0 : Int32}
/-- the shapes with another one at i -/
abbrev rs (r : Nat → Int32) (i R C : Nat) : Nat → Int32 := va_up (va_up r (2 * i) (nI R)) (2 * i + 1) (nI C)
theorem rs_R : rs r i R C (2 * i) = nI R := (vu_ne (show 2 * i ≠ 2 * i + 1 by omega)).trans vu_self
theorem rs_C : rs r i R C (2 * i + 1) = nI C := if_pos rfl
theorem rs_R' (h : j ≠ i) : rs r i R C (2 * j) = r (2 * j) := (vu_ne (show 2 * j ≠ 2 * i + 1 by omega)).trans (vu_ne (by omega))
theorem rs_C' (h : j ≠ i) : rs r i R C (2 * j + 1) = r (2 * j + 1) := (vu_ne (by omega)).trans (vu_ne (show 2 * j + 1 ≠ 2 * i by omega))
theorem crs_l {t2 t4 : Int32} : ∀ n y : Nat, y ≤ 20 → 20 - y < n → D_X3_reshape_28 r q i t2 t4 n (nI y) (va_up f i (zf y (f i))) = (va_up (va_up r (2 * i) t2) (2 * i + 1) t4, q, va_up f i (zf 20 (f i))) := by
  intro n
  induction n with
  | zero => intro y _ h; omega
  | succ n ih =>
    intro y hy hn
    rw [D_X3_reshape_28_s]
    by_cases e : 20 ≤ y
    · rw [if_pos (ile20 e (by omega)), show y = 20 by omega]
    · rw [if_neg (nile20 e), nI_clamp (by omega), vu_self, vu2, zf_s, s1]
      exact ih (y + 1) (by omega) (by omega)
theorem crs (h1 : 1 ≤ R) (h4 : R ≤ 4) (h2 : 1 ≤ C) (h5 : C ≤ 5) : D_X3_reshape r q f i (nI R) (nI C) = (rs r i R C, q, va_up f i (zf 20 (f i))) := by
  unfold D_X3_reshape
  simp only [nm]
  have a1 : ¬ (4 : Int32) < nI R := by rw [show (4 : Int32) = nI 4 from rfl, nltP (by omega) (by omega)]; omega
  have a2 : (if (1 : Int32) < nI R then nI R else 1) = nI R := by
    by_cases e : 1 < R
    · rw [if_pos (by rw [show (1 : Int32) = nI 1 from rfl, nltP (by omega) (by omega)]; exact e)]
    · rw [show R = 1 by omega]; exact ite_self _
  have a3 : ¬ (5 : Int32) < nI C := by rw [show (5 : Int32) = nI 5 from rfl, nltP (by omega) (by omega)]; omega
  have a4 : (if (1 : Int32) < nI C then nI C else 1) = nI C := by
    by_cases e : 1 < C
    · rw [if_pos (by rw [show (1 : Int32) = nI 1 from rfl, nltP (by omega) (by omega)]; exact e)]
    · rw [show C = 1 by omega]; exact ite_self _
  rw [if_neg a1, a2, if_neg a3, a4, show gap 20 0 = 20 - 0 from gapN (a := 20) (b := 0) (by omega) (by omega)]
  have h := crs_l (r := r) (q := q) (f := f) (i := i) (t2 := nI R) (t4 := nI C) (20 - 0 + 1) 0 (by omega) (by omega)
  rw [zf0, vu_id] at h
  exact h
theorem cun_l (hR : r (2 * i) = nI n0) (h4 : n0 ≤ 4) : ∀ n y : Nat, y ≤ n0 → n0 - y < n → D_X3_becomeUnit_8 i r q n (nI y) (va_up f i (un y (f i))) = (r, q, va_up f i (un n0 (f i))) := by
  intro n
  induction n with
  | zero => intro y _ h; omega
  | succ n ih =>
    intro y hy hn
    rw [D_X3_becomeUnit_8_s]
    by_cases e : n0 ≤ y
    · rw [if_pos (by rw [hR]; exact ile e (by omega)), show y = n0 by omega]
    · rw [if_neg (by rw [hR]; exact nile e (by omega))]
      simp only [bnd1]
      rw [cset (by omega) (by omega), vu_self, vu2, un_s, s1]
      exact ih (y + 1) (by omega) (by omega)
theorem cun (h1 : 1 ≤ n0) (h4 : n0 ≤ 4) : D_X3_becomeUnit r q f i (nI n0) = (rs r i n0 n0, q, va_up f i (un n0 (zf 20 (f i)))) := by
  unfold D_X3_becomeUnit
  rw [crs h1 h4 h1 (by omega)]
  simp only [bnd3]
  rw [rs_R, show (0 : Int32) = nI 0 from rfl, gapN (by omega) (by omega)]
  have h := cun_l (r := rs r i n0 n0) (q := q) (f := va_up f i (zf 20 (f i))) (i := i) rs_R h4 (n0 - 0 + 1) 0 (by omega) (by omega)
  rw [vu_self, un0, vu2, vu2] at h
  exact h
theorem cbl_l : ∀ n y : Nat, y ≤ 20 → 20 - y < n → D_X3_becomeLike_18 r q i j n (nI y) (va_up f i (cp y (f j) (f i))) = (va_up (va_up r (2 * i) (r (2 * j))) (2 * i + 1) (va_up r (2 * i) (r (2 * j)) (2 * j + 1)), q, va_up f i (cp 20 (f j) (f i))) := by
  intro n
  induction n with
  | zero => intro y _ h; omega
  | succ n ih =>
    intro y hy hn
    rw [D_X3_becomeLike_18_s]
    by_cases e : 20 ≤ y
    · rw [if_pos (ile20 e (by omega)), show y = 20 by omega]
    · rw [if_neg (nile20 e), if_neg (nile20 e)]
      simp only [nm]
      have hj : va_up f i (cp y (f j) (f i)) j = f j := by
        by_cases e2 : j = i
        · subst e2; rw [vu_self, cp_id]
        · rw [vu_ne e2]
      rw [nI_clamp (by omega), hj, vu_self, vu2, cp_s, s1]
      exact ih (y + 1) (by omega) (by omega)
theorem cbl (hR : r (2 * j) = nI R) (hC : r (2 * j + 1) = nI C) : D_X3_becomeLike r q f i j = (rs r i R C, q, va_up f i (cp 20 (f j) (f i))) := by
  unfold D_X3_becomeLike
  rw [show gap 20 0 = 20 - 0 from gapN (a := 20) (b := 0) (by omega) (by omega)]
  have h := cbl_l (r := r) (q := q) (f := f) (i := i) (j := j) (20 - 0 + 1) 0 (by omega) (by omega)
  rw [cp0, vu_id, vu_ne (show 2 * j + 1 ≠ 2 * i by omega), hR, hC] at h
  exact h
/-- what both have is taken over: the rows ahead of a, of the row a the columns ahead of b -/
def tv (a b c : Nat) (g h : Nat → Int64) : Nat → Int64 := fun k => if (k / 5 < a ∧ k % 5 < c) ∨ (k / 5 = a ∧ k % 5 < b) then g k else h k
theorem tv_s {g h : Nat → Int64} {c : Nat} (hb : b < c) (hc : c ≤ 5) : vp_updL (tv a b c g h) (a * 5 + b) (g (a * 5 + b)) = tv a (b + 1) c g h := by
  funext k
  unfold vp_updL tv
  by_cases e : k = a * 5 + b
  · subst e; rw [if_pos rfl, if_pos (by omega)]
  · rw [if_neg e]
    by_cases h : (k / 5 < a ∧ k % 5 < c) ∨ (k / 5 = a ∧ k % 5 < b)
    · rw [if_pos h, if_pos (by omega)]
    · rw [if_neg h, if_neg (by omega)]
theorem tv_r {g h : Nat → Int64} {c : Nat} : tv a c c g h = tv (a + 1) 0 c g h := by
  funext k
  unfold tv
  by_cases e : (k / 5 < a ∧ k % 5 < c) ∨ (k / 5 = a ∧ k % 5 < c)
  · rw [if_pos e, if_pos (by omega)]
  · rw [if_neg e, if_neg (by omega)]
theorem cto_in (hij : j ≠ i) (hC : r (2 * i + 1) = nI C) (hCj : r (2 * j + 1) = nI Cj) (h5 : C ≤ 5) (h5j : Cj ≤ 5) (ha : a < 4) {lb : Int32 → (Nat → Nat → Int64) → Nat → Nat → Int64} : ∀ n y : Nat, y ≤ min C Cj → C - y < n → D_X3_takeOver_20 r q i j lb (nI a) n (nI y) (va_up f i (tv a y (min C Cj) (f j) (f i))) = lb (nI (a + 1)) (va_up f i (tv (a + 1) 0 (min C Cj) (f j) (f i))) := by
  intro n
  induction n with
  | zero => intro y _ h; omega
  | succ n ih =>
    intro y hy hn
    rw [D_X3_takeOver_20_s]
    by_cases e : C ≤ y
    · rw [if_pos (by rw [hC]; exact ile e (by omega)), show y = min C Cj by omega, tv_r, s1]
    · rw [if_neg (by rw [hC]; exact nile e (by omega))]
      by_cases e2 : Cj ≤ y
      · rw [if_pos (by rw [hCj]; exact ile e2 (by omega)), show y = min C Cj by omega, tv_r, s1]
      · rw [if_neg (by rw [hCj]; exact nile e2 (by omega))]
        simp only [bnd1]
        rw [cget ha (by omega), cset ha (by omega), vu_ne hij, vu_self, vu2, tv_s (by omega) (by omega), s1]
        exact ih (y + 1) (by omega) (by omega)
theorem cto_out (hij : j ≠ i) (hR : r (2 * i) = nI R) (hRj : r (2 * j) = nI Rj) (hC : r (2 * i + 1) = nI C) (hCj : r (2 * j + 1) = nI Cj) (h4 : R ≤ 4) (h4j : Rj ≤ 4) (h5 : C ≤ 5) (h5j : Cj ≤ 5) : ∀ n y : Nat, y ≤ min R Rj → R - y < n → D_X3_takeOver_2 r q i j n (nI y) (va_up f i (tv y 0 (min C Cj) (f j) (f i))) = va_up f i (tv (min R Rj) 0 (min C Cj) (f j) (f i)) := by
  intro n
  induction n with
  | zero => intro y _ h; omega
  | succ n ih =>
    intro y hy hn
    rw [D_X3_takeOver_2_s]
    by_cases e : R ≤ y
    · rw [if_pos (by rw [hR]; exact ile e (by omega)), show y = min R Rj by omega]
    · rw [if_neg (by rw [hR]; exact nile e (by omega))]
      by_cases e2 : Rj ≤ y
      · rw [if_pos (by rw [hRj]; exact ile e2 (by omega)), show y = min R Rj by omega]
      · rw [if_neg (by rw [hRj]; exact nile e2 (by omega)), hC, show (0 : Int32) = nI 0 from rfl, gapN (by omega) (by omega), cto_in hij hC hCj h5 h5j (by omega) (C - 0 + 1) 0 (by omega) (by omega)]
        exact ih (y + 1) (by omega) (by omega)
theorem cto (hij : j ≠ i) (hR : r (2 * i) = nI R) (hRj : r (2 * j) = nI Rj) (hC : r (2 * i + 1) = nI C) (hCj : r (2 * j + 1) = nI Cj) (h4 : R ≤ 4) (h4j : Rj ≤ 4) (h5 : C ≤ 5) (h5j : Cj ≤ 5) : D_X3_takeOver r q f i j = va_up f i (tv (min R Rj) 0 (min C Cj) (f j) (f i)) := by
  unfold D_X3_takeOver
  rw [hR, show (0 : Int32) = nI 0 from rfl, gapN (by omega) (by omega)]
  have h := cto_out (q := q) (f := f) hij hR hRj hC hCj h4 h4j h5 h5j (R - 0 + 1) 0 (by omega) (by omega)
  have e : tv 0 0 (min C Cj) (f j) (f i) = f i := by funext k; unfold tv; rw [if_neg (by omega)]
  rw [e, vu_id] at h
  exact h
/-- a column of another one, alone -/
def co (n c : Nat) (g h : Nat → Int64) : Nat → Int64 := fun k => if k % 5 = 0 ∧ k / 5 < n then g (k / 5 * 5 + c) else h k
theorem co_s {g h : Nat → Int64} {c : Nat} : vp_updL (co a c g h) (a * 5 + 0) (g (a * 5 + c)) = co (a + 1) c g h := by
  funext k
  unfold vp_updL co
  by_cases e : k = a * 5 + 0
  · subst e; rw [if_pos rfl, if_pos (by omega)]; congr 1; omega
  · rw [if_neg e]
    by_cases h : k % 5 = 0 ∧ k / 5 < a
    · rw [if_pos h, if_pos (by omega)]
    · rw [if_neg h, if_neg (by omega)]
theorem co0 {g h : Nat → Int64} {c : Nat} : co 0 c g h = h := by funext k; unfold co; rw [if_neg (by omega)]
theorem cbc_l (hij : j ≠ i) (hR : r (2 * i) = nI R) (h4 : R ≤ 4) (hb : b < 5) : ∀ n y : Nat, y ≤ R → R - y < n → D_X3_becomeColumn_11 i j (nI b) r q n (nI y) (va_up f i (co y b (f j) (f i))) = (r, q, va_up f i (co R b (f j) (f i))) := by
  intro n
  induction n with
  | zero => intro y _ h; omega
  | succ n ih =>
    intro y hy hn
    rw [D_X3_becomeColumn_11_s]
    by_cases e : R ≤ y
    · rw [if_pos (by rw [hR]; exact ile e (by omega)), show y = R by omega]
    · rw [if_neg (by rw [hR]; exact nile e (by omega))]
      simp only [bnd1]
      rw [cget (by omega) hb, show (0 : Int32) = nI 0 from rfl, cset (by omega) (by omega), vu_ne hij, vu_self, vu2, co_s, s1]
      exact ih (y + 1) (by omega) (by omega)
theorem cbc (hij : j ≠ i) (hRj : r (2 * j) = nI R) (h1 : 1 ≤ R) (h4 : R ≤ 4) (hb : b < 5) : D_X3_becomeColumn r q f i j (nI b) = (rs r i R 1, q, va_up f i (co R b (f j) (zf 20 (f i)))) := by
  unfold D_X3_becomeColumn
  rw [hRj, show (1 : Int32) = nI 1 from rfl, crs h1 h4 (by omega) (by omega)]
  simp only [bnd3]
  rw [rs_R, show (0 : Int32) = nI 0 from rfl, gapN (by omega) (by omega)]
  have h := cbc_l (r := rs r i R 1) (q := q) (f := va_up f i (zf 20 (f i))) hij rs_R h4 hb (R - 0 + 1) 0 (by omega) (by omega)
  rw [vu_self, vu_ne hij, co0, vu2, vu2] at h
  exact h
/-- a row by a column -/
def dot (n : Nat) (g h : Nat → Int64) (a b : Nat) : Int64 := Nat.rec 0 (fun m s => s + g (a * 5 + m) * h (m * 5 + b)) n
theorem dot_s {n : Nat} {g h : Nat → Int64} : dot (n + 1) g h a b = dot n g h a b + g (a * 5 + n) * h (n * 5 + b) := rfl
/-- a product so far: the rows ahead of a, of the row a the columns ahead of b -/
def pd (n a b c : Nat) (g h u : Nat → Int64) : Nat → Int64 := fun k => if (k / 5 < a ∧ k % 5 < c) ∨ (k / 5 = a ∧ k % 5 < b) then dot n g h (k / 5) (k % 5) else u k
theorem pd_s {g h u : Nat → Int64} {n c : Nat} (hb : b < c) (hc : c ≤ 5) : vp_updL (pd n a b c g h u) (a * 5 + b) (dot n g h a b) = pd n a (b + 1) c g h u := by
  funext k
  unfold vp_updL pd
  by_cases e : k = a * 5 + b
  · subst e; rw [if_pos rfl, if_pos (by omega), show (a * 5 + b) / 5 = a by omega, show (a * 5 + b) % 5 = b by omega]
  · rw [if_neg e]
    by_cases h : (k / 5 < a ∧ k % 5 < c) ∨ (k / 5 = a ∧ k % 5 < b)
    · rw [if_pos h, if_pos (by omega)]
    · rw [if_neg h, if_neg (by omega)]
theorem pd_r {g h u : Nat → Int64} {n c : Nat} : pd n a c c g h u = pd n (a + 1) 0 c g h u := by
  funext k
  unfold pd
  by_cases e : (k / 5 < a ∧ k % 5 < c) ∨ (k / 5 = a ∧ k % 5 < c)
  · rw [if_pos e, if_pos (by omega)]
  · rw [if_neg e, if_neg (by omega)]
theorem pd0 {g h u : Nat → Int64} {n c : Nat} : pd n 0 0 c g h u = u := by funext k; unfold pd; rw [if_neg (by omega)]
theorem cbp_k (hC : r (2 * j + 1) = nI Cj) (hc4 : Cj ≤ 4) (ha : a < 4) (hb : b < 5) {lb : Int32 → (Nat → Nat → Int64) → (Nat → Int32) × (Nat → Int32) × (Nat → Nat → Int64)} : ∀ n y : Nat, y ≤ Cj → Cj - y < n → D_X3_becomeProduct_40 i j k0 r q (nI a) lb (nI b) f n (nI y) (dot y (f j) (f k0) a b) = lb (nI (b + 1)) (va_up f i (vp_updL (f i) (a * 5 + b) (dot Cj (f j) (f k0) a b))) := by
  intro n
  induction n with
  | zero => intro y _ h; omega
  | succ n ih =>
    intro y hy hn
    rw [D_X3_becomeProduct_40_s]
    by_cases e : Cj ≤ y
    · rw [if_pos (by rw [hC]; exact ile e (by omega)), show y = Cj by omega]
      simp only [bnd1]
      rw [cset ha hb, s1]
    · rw [if_neg (by rw [hC]; exact nile e (by omega))]
      simp only [bnd1]
      rw [cget ha (by omega), cget (by omega) hb, s1, ← dot_s]
      exact ih (y + 1) (by omega) (by omega)
theorem cbp_in (hji : j ≠ i) (hki : k0 ≠ i) (hC : r (2 * i + 1) = nI C) (hCj : r (2 * j + 1) = nI Cj) (h5 : C ≤ 5) (hc4 : Cj ≤ 4) (ha : a < 4) {lb : Int32 → (Nat → Nat → Int64) → (Nat → Int32) × (Nat → Int32) × (Nat → Nat → Int64)} : ∀ n y : Nat, y ≤ C → C - y < n → D_X3_becomeProduct_25 i j k0 r q lb (nI a) n (nI y) (va_up f i (pd Cj a y C (f j) (f k0) (f i))) = lb (nI (a + 1)) (va_up f i (pd Cj (a + 1) 0 C (f j) (f k0) (f i))) := by
  intro n
  induction n with
  | zero => intro y _ h; omega
  | succ n ih =>
    intro y hy hn
    rw [D_X3_becomeProduct_25_s]
    by_cases e : C ≤ y
    · rw [if_pos (by rw [hC]; exact ile e (by omega)), show y = C by omega, pd_r, s1]
    · rw [if_neg (by rw [hC]; exact nile e (by omega)), hCj, show (0 : Int32) = nI 0 from rfl, gapN (by omega) (by omega)]
      have h := cbp_k (q := q) (i := i) (j := j) (k0 := k0) (f := va_up f i (pd Cj a y C (f j) (f k0) (f i))) hCj hc4 ha (show y < 5 by omega) (lb := D_X3_becomeProduct_25 i j k0 r q lb (nI a) n) (Cj - 0 + 1) 0 (by omega) (by omega)
      rw [show ∀ g h a b, dot 0 g h a b = 0 from fun _ _ _ _ => rfl] at h
      rw [h, vu_ne hji, vu_ne hki, vu_self, vu2, pd_s (by omega) h5]
      exact ih (y + 1) (by omega) (by omega)
theorem cbp_out (hji : j ≠ i) (hki : k0 ≠ i) (hR : r (2 * i) = nI R) (hC : r (2 * i + 1) = nI C) (hCj : r (2 * j + 1) = nI Cj) (h4 : R ≤ 4) (h5 : C ≤ 5) (hc4 : Cj ≤ 4) : ∀ n y : Nat, y ≤ R → R - y < n → D_X3_becomeProduct_14 i j k0 r q n (nI y) (va_up f i (pd Cj y 0 C (f j) (f k0) (f i))) = (r, q, va_up f i (pd Cj R 0 C (f j) (f k0) (f i))) := by
  intro n
  induction n with
  | zero => intro y _ h; omega
  | succ n ih =>
    intro y hy hn
    rw [D_X3_becomeProduct_14_s]
    by_cases e : R ≤ y
    · rw [if_pos (by rw [hR]; exact ile e (by omega)), show y = R by omega]
    · rw [if_neg (by rw [hR]; exact nile e (by omega)), hC, show (0 : Int32) = nI 0 from rfl, gapN (by omega) (by omega), cbp_in hji hki hC hCj h5 hc4 (by omega) (C - 0 + 1) 0 (by omega) (by omega)]
      exact ih (y + 1) (by omega) (by omega)
theorem cbp (hji : j ≠ i) (hki : k0 ≠ i) (hRj : r (2 * j) = nI Rj) (hCj : r (2 * j + 1) = nI Cj) (hCk : r (2 * k0 + 1) = nI Ck) (h1 : 1 ≤ Rj) (h4 : Rj ≤ 4) (h2 : 1 ≤ Ck) (h5 : Ck ≤ 5) (hc4 : Cj ≤ 4) : D_X3_becomeProduct r q f i j k0 = (rs r i Rj Ck, q, va_up f i (pd Cj Rj 0 Ck (f j) (f k0) (zf 20 (f i)))) := by
  unfold D_X3_becomeProduct
  rw [hRj, hCk, crs h1 h4 h2 h5]
  simp only [bnd3]
  rw [rs_R, show (0 : Int32) = nI 0 from rfl, gapN (by omega) (by omega)]
  have h := cbp_out (r := rs r i Rj Ck) (q := q) (f := va_up f i (zf 20 (f i))) hji hki rs_R rs_C ((rs_C' hji).trans hCj) h4 h5 hc4 (Rj - 0 + 1) 0 (by omega) (by omega)
  rw [vu_self, vu_ne hji, vu_ne hki, pd0, vu2, vu2] at h
  exact h
end PCM
